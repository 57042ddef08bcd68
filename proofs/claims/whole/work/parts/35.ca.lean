def W_X9_clear (r : Nat)  (Q : gSt → Prop) (σ : gSt) : Prop := fI σ r 0 (nI 0) (fun s1 => fI s1 r 5 (nI 0) (fun s2 => Q s2))
set_option maxHeartbeats 4000000 in
theorem t_X9_clear {o : gOm} {l : Launch} {b : Bool}   {σ : gSt} (hR : σ.2.2 = gRf b) {r : Nat}  {Q : gSt → Prop} (hr : r = 5 ∨ r = 17) (h : W_X9_clear r  Q σ) : Sp o l mX9_clear 1 0 0 [.ref (ad o r)] 116 116 σ (pV (fun s => s.2.2 = gRf b ∧ Q s)) := by
  rcases hr with rfl | rfl
  · unfold W_X9_clear at h
    refine Sp.of (ls0 := [some (.ref (ad o 5))]) miX9_clear rfl (Nat.le_of_ble_eq_true rfl) rfl (fun γ hγ hnm X Y => ?_)
    subst hγ
    have X : gX o γ cX9_clear 1 RX9 := X
    refine g_aload_0 (pc := 0) X dX9_clear_0 ?_
    refine g_iconst (pc := 1) X dX9_clear_1 kiconst_0 ?_
    refine g_putI_w (pc := 2) X dX9_clear_2 fl_X9_30 rfl (by decide) rfl rfl hR h (fun s1 hR h => ?_)
    refine g_aload_0 (pc := 5) X dX9_clear_5 ?_
    refine g_iconst (pc := 6) X dX9_clear_6 kiconst_0 ?_
    refine g_putI_w (pc := 7) X dX9_clear_7 fl_X9_34 rfl (by decide) rfl rfl hR h (fun s2 hR h => ?_)
    exact g_return (pc := 10) X Y dX9_clear_10 (Nat.le_of_ble_eq_true rfl) (Nat.le_of_ble_eq_true rfl) ⟨rfl, hR, h⟩
  · unfold W_X9_clear at h
    refine Sp.of (ls0 := [some (.ref (ad o 17))]) miX9_clear rfl (Nat.le_of_ble_eq_true rfl) rfl (fun γ hγ hnm X Y => ?_)
    subst hγ
    have X : gX o γ cX9_clear 1 RX9 := X
    refine g_aload_0 (pc := 0) X dX9_clear_0 ?_
    refine g_iconst (pc := 1) X dX9_clear_1 kiconst_0 ?_
    refine g_putI_w (pc := 2) X dX9_clear_2 fl_X9_30 rfl (by decide) rfl rfl hR h (fun s1 hR h => ?_)
    refine g_aload_0 (pc := 5) X dX9_clear_5 ?_
    refine g_iconst (pc := 6) X dX9_clear_6 kiconst_0 ?_
    refine g_putI_w (pc := 7) X dX9_clear_7 fl_X9_34 rfl (by decide) rfl rfl hR h (fun s2 hR h => ?_)
    exact g_return (pc := 10) X Y dX9_clear_10 (Nat.le_of_ble_eq_true rfl) (Nat.le_of_ble_eq_true rfl) ⟨rfl, hR, h⟩
def W_X9_isFull (r : Nat)  (Q : Int32 → Prop) (σ : gSt) : Prop := (((σ.1 r 0) < (nI 16) → (Q (nI 0))) ∧ (¬ (σ.1 r 0) < (nI 16) → (Q (nI 1))))
set_option maxHeartbeats 4000000 in
theorem t_X9_isFull {o : gOm} {l : Launch} {b : Bool}   {σ : gSt} (hR : σ.2.2 = gRf b) {r : Nat}  {Q : Int32 → Prop} (hr : r = 5 ∨ r = 17) (h : W_X9_isFull r  Q σ) : Sp o l mX9_isFull 1 0 0 [.ref (ad o r)] 116 116 σ (pI (fun x s => σ = s ∧ Q x)) := by
  rcases hr with rfl | rfl
  · unfold W_X9_isFull at h
    refine Sp.of (ls0 := [some (.ref (ad o 5))]) miX9_isFull rfl (Nat.le_of_ble_eq_true rfl) rfl (fun γ hγ hnm X Y => ?_)
    subst hγ
    have X : gX o γ cX9_isFull 1 RX9 := X
    refine g_aload_0 (pc := 0) X dX9_isFull_0 ?_
    refine g_getI (pc := 1) X dX9_isFull_1 rfl (by decide) fl_X9_30 (Or.inl rfl) ?_
    refine g_bipush (pc := 4) X dX9_isFull_4 kbipush_16 ?_
    refine g_icmp_lt (pc := 6) X dX9_isFull_6 (tgt := 13) (by decide) (fun q1 => ?_) (fun q1 => ?_)
    · replace h := h.1 q1
      refine g_iconst (pc := 13) X dX9_isFull_13 kiconst_0 ?_
      exact g_zreturn (pc := 14) X Y dX9_isFull_14 (by first | exact Or.inl rfl | exact Or.inr rfl) (Nat.le_of_ble_eq_true rfl) (Nat.le_of_ble_eq_true rfl) ⟨_, rfl, rfl, h⟩
    · replace h := h.2 q1
      refine g_iconst (pc := 9) X dX9_isFull_9 kiconst_1 ?_
      refine g_goto (pc := 10) X dX9_isFull_10 (tgt := 14) (by decide) ?_
      exact g_zreturn (pc := 14) X Y dX9_isFull_14 (by first | exact Or.inl rfl | exact Or.inr rfl) (Nat.le_of_ble_eq_true rfl) (Nat.le_of_ble_eq_true rfl) ⟨_, rfl, rfl, h⟩
  · unfold W_X9_isFull at h
    refine Sp.of (ls0 := [some (.ref (ad o 17))]) miX9_isFull rfl (Nat.le_of_ble_eq_true rfl) rfl (fun γ hγ hnm X Y => ?_)
    subst hγ
    have X : gX o γ cX9_isFull 1 RX9 := X
    refine g_aload_0 (pc := 0) X dX9_isFull_0 ?_
    refine g_getI (pc := 1) X dX9_isFull_1 rfl (by decide) fl_X9_30 (Or.inl rfl) ?_
    refine g_bipush (pc := 4) X dX9_isFull_4 kbipush_16 ?_
    refine g_icmp_lt (pc := 6) X dX9_isFull_6 (tgt := 13) (by decide) (fun q1 => ?_) (fun q1 => ?_)
    · replace h := h.1 q1
      refine g_iconst (pc := 13) X dX9_isFull_13 kiconst_0 ?_
      exact g_zreturn (pc := 14) X Y dX9_isFull_14 (by first | exact Or.inl rfl | exact Or.inr rfl) (Nat.le_of_ble_eq_true rfl) (Nat.le_of_ble_eq_true rfl) ⟨_, rfl, rfl, h⟩
    · replace h := h.2 q1
      refine g_iconst (pc := 9) X dX9_isFull_9 kiconst_1 ?_
      refine g_goto (pc := 10) X dX9_isFull_10 (tgt := 14) (by decide) ?_
      exact g_zreturn (pc := 14) X Y dX9_isFull_14 (by first | exact Or.inl rfl | exact Or.inr rfl) (Nat.le_of_ble_eq_true rfl) (Nat.le_of_ble_eq_true rfl) ⟨_, rfl, rfl, h⟩
def W_X9_emit (r : Nat) (p0 : Int32) (p1 : Int32) (Q : gSt → Prop) (σ : gSt) : Prop := (((nI 400) ≤ (σ.1 r 5) → (Q σ)) ∧ (¬ (nI 400) ≤ (σ.1 r 5) → (wI σ ((r + 4)) 400 (σ.1 r 5) p0 (fun s2 => wI s2 ((r + 5)) 400 (s2.1 r 5) p1 (fun s3 => fI s3 r 5 ((s3.1 r 5) + (nI 1)) (fun s4 => Q s4))))))
set_option maxHeartbeats 4000000 in
theorem t_X9_emit {o : gOm} {l : Launch} {b : Bool}   {σ : gSt} (hR : σ.2.2 = gRf b) {r : Nat} {p0 : Int32} {p1 : Int32} {Q : gSt → Prop} (hr : r = 5 ∨ r = 17) (h : W_X9_emit r p0 p1 Q σ) : Sp o l mX9_emit 1 0 0 [.ref (ad o r), .int p0, .int p1] 116 116 σ (pV (fun s => s.2.2 = gRf b ∧ Q s)) := by
  rcases hr with rfl | rfl
  · unfold W_X9_emit at h
    refine Sp.of (ls0 := [some (.ref (ad o 5)), some (.int p0), some (.int p1)]) miX9_emit rfl (Nat.le_of_ble_eq_true rfl) rfl (fun γ hγ hnm X Y => ?_)
    subst hγ
    have X : gX o γ cX9_emit 3 RX9 := X
    refine g_aload_0 (pc := 0) X dX9_emit_0 ?_
    refine g_getI (pc := 1) X dX9_emit_1 rfl (by decide) fl_X9_34 (Or.inl rfl) ?_
    refine g_sipush (pc := 4) X dX9_emit_4 ksipush_400 ?_
    refine g_icmp_ge (pc := 7) X dX9_emit_7 (tgt := 40) (by decide) (fun q1 => ?_) (fun q1 => ?_)
    · replace h := h.1 q1
      exact g_return (pc := 40) X Y dX9_emit_40 (Nat.le_of_ble_eq_true rfl) (Nat.le_of_ble_eq_true rfl) ⟨rfl, hR, h⟩
    · replace h := h.2 q1
      refine g_aload_0 (pc := 10) X dX9_emit_10 ?_
      refine g_getRf (pc := 11) X dX9_emit_11 fl_X9_21 rfl (by decide) rfl hR rfl ?_
      refine g_aload_0 (pc := 14) X dX9_emit_14 ?_
      refine g_getI (pc := 15) X dX9_emit_15 rfl (by decide) fl_X9_34 (Or.inl rfl) ?_
      refine g_iload_1 (pc := 18) X dX9_emit_18 ?_
      refine g_iastore_w (pc := 19) X dX9_emit_19 rfl (by decide) hR h (fun s2 hR h => ?_)
      refine g_aload_0 (pc := 20) X dX9_emit_20 ?_
      refine g_getRf (pc := 21) X dX9_emit_21 fl_X9_24 rfl (by decide) rfl hR rfl ?_
      refine g_aload_0 (pc := 24) X dX9_emit_24 ?_
      refine g_getI (pc := 25) X dX9_emit_25 rfl (by decide) fl_X9_34 (Or.inl rfl) ?_
      refine g_iload_2 (pc := 28) X dX9_emit_28 ?_
      refine g_iastore_w (pc := 29) X dX9_emit_29 rfl (by decide) hR h (fun s3 hR h => ?_)
      refine g_aload_0 (pc := 30) X dX9_emit_30 ?_
      refine g_dup (pc := 31) X dX9_emit_31 rfl ?_
      refine g_getI (pc := 32) X dX9_emit_32 rfl (by decide) fl_X9_34 (Or.inl rfl) ?_
      refine g_iconst (pc := 35) X dX9_emit_35 kiconst_1 ?_
      refine g_iadd (pc := 36) X dX9_emit_36 ?_
      refine g_putI_w (pc := 37) X dX9_emit_37 fl_X9_34 rfl (by decide) rfl rfl hR h (fun s4 hR h => ?_)
      exact g_return (pc := 40) X Y dX9_emit_40 (Nat.le_of_ble_eq_true rfl) (Nat.le_of_ble_eq_true rfl) ⟨rfl, hR, h⟩
  · unfold W_X9_emit at h
    refine Sp.of (ls0 := [some (.ref (ad o 17)), some (.int p0), some (.int p1)]) miX9_emit rfl (Nat.le_of_ble_eq_true rfl) rfl (fun γ hγ hnm X Y => ?_)
    subst hγ
    have X : gX o γ cX9_emit 3 RX9 := X
    refine g_aload_0 (pc := 0) X dX9_emit_0 ?_
    refine g_getI (pc := 1) X dX9_emit_1 rfl (by decide) fl_X9_34 (Or.inl rfl) ?_
    refine g_sipush (pc := 4) X dX9_emit_4 ksipush_400 ?_
    refine g_icmp_ge (pc := 7) X dX9_emit_7 (tgt := 40) (by decide) (fun q1 => ?_) (fun q1 => ?_)
    · replace h := h.1 q1
      exact g_return (pc := 40) X Y dX9_emit_40 (Nat.le_of_ble_eq_true rfl) (Nat.le_of_ble_eq_true rfl) ⟨rfl, hR, h⟩
    · replace h := h.2 q1
      refine g_aload_0 (pc := 10) X dX9_emit_10 ?_
      refine g_getRf (pc := 11) X dX9_emit_11 fl_X9_21 rfl (by decide) rfl hR rfl ?_
      refine g_aload_0 (pc := 14) X dX9_emit_14 ?_
      refine g_getI (pc := 15) X dX9_emit_15 rfl (by decide) fl_X9_34 (Or.inl rfl) ?_
      refine g_iload_1 (pc := 18) X dX9_emit_18 ?_
      refine g_iastore_w (pc := 19) X dX9_emit_19 rfl (by decide) hR h (fun s2 hR h => ?_)
      refine g_aload_0 (pc := 20) X dX9_emit_20 ?_
      refine g_getRf (pc := 21) X dX9_emit_21 fl_X9_24 rfl (by decide) rfl hR rfl ?_
      refine g_aload_0 (pc := 24) X dX9_emit_24 ?_
      refine g_getI (pc := 25) X dX9_emit_25 rfl (by decide) fl_X9_34 (Or.inl rfl) ?_
      refine g_iload_2 (pc := 28) X dX9_emit_28 ?_
      refine g_iastore_w (pc := 29) X dX9_emit_29 rfl (by decide) hR h (fun s3 hR h => ?_)
      refine g_aload_0 (pc := 30) X dX9_emit_30 ?_
      refine g_dup (pc := 31) X dX9_emit_31 rfl ?_
      refine g_getI (pc := 32) X dX9_emit_32 rfl (by decide) fl_X9_34 (Or.inl rfl) ?_
      refine g_iconst (pc := 35) X dX9_emit_35 kiconst_1 ?_
      refine g_iadd (pc := 36) X dX9_emit_36 ?_
      refine g_putI_w (pc := 37) X dX9_emit_37 fl_X9_34 rfl (by decide) rfl rfl hR h (fun s4 hR h => ?_)
      exact g_return (pc := 40) X Y dX9_emit_40 (Nat.le_of_ble_eq_true rfl) (Nat.le_of_ble_eq_true rfl) ⟨rfl, hR, h⟩
def W_X9_open (r : Nat) (p0 : Int32) (Q : gSt → Prop) (σ : gSt) : Prop := wI σ ((r + 1)) 16 (σ.1 r 0) p0 (fun s1 => wI s1 ((r + 2)) 17 (s1.1 r 0) (s1.1 r 5) (fun s2 => Q s2))
set_option maxHeartbeats 4000000 in
theorem t_X9_open {o : gOm} {l : Launch} {b : Bool}   {σ : gSt} (hR : σ.2.2 = gRf b) {r : Nat} {p0 : Int32} {Q : gSt → Prop} (hr : r = 5 ∨ r = 17) (h : W_X9_open r p0 Q σ) : Sp o l mX9_open 1 0 0 [.ref (ad o r), .int p0] 116 116 σ (pV (fun s => s.2.2 = gRf b ∧ Q s)) := by
  rcases hr with rfl | rfl
  · unfold W_X9_open at h
    refine Sp.of (ls0 := [some (.ref (ad o 5)), some (.int p0)]) miX9_open rfl (Nat.le_of_ble_eq_true rfl) rfl (fun γ hγ hnm X Y => ?_)
    subst hγ
    have X : gX o γ cX9_open 2 RX9 := X
    refine g_aload_0 (pc := 0) X dX9_open_0 ?_
    refine g_getRf (pc := 1) X dX9_open_1 fl_X9_9 rfl (by decide) rfl hR rfl ?_
    refine g_aload_0 (pc := 4) X dX9_open_4 ?_
    refine g_getI (pc := 5) X dX9_open_5 rfl (by decide) fl_X9_30 (Or.inl rfl) ?_
    refine g_iload_1 (pc := 8) X dX9_open_8 ?_
    refine g_iastore_w (pc := 9) X dX9_open_9 rfl (by decide) hR h (fun s1 hR h => ?_)
    refine g_aload_0 (pc := 10) X dX9_open_10 ?_
    refine g_getRf (pc := 11) X dX9_open_11 fl_X9_15 rfl (by decide) rfl hR rfl ?_
    refine g_aload_0 (pc := 14) X dX9_open_14 ?_
    refine g_getI (pc := 15) X dX9_open_15 rfl (by decide) fl_X9_30 (Or.inl rfl) ?_
    refine g_aload_0 (pc := 18) X dX9_open_18 ?_
    refine g_getI (pc := 19) X dX9_open_19 rfl (by decide) fl_X9_34 (Or.inl rfl) ?_
    refine g_iastore_w (pc := 22) X dX9_open_22 rfl (by decide) hR h (fun s2 hR h => ?_)
    exact g_return (pc := 23) X Y dX9_open_23 (Nat.le_of_ble_eq_true rfl) (Nat.le_of_ble_eq_true rfl) ⟨rfl, hR, h⟩
  · unfold W_X9_open at h
    refine Sp.of (ls0 := [some (.ref (ad o 17)), some (.int p0)]) miX9_open rfl (Nat.le_of_ble_eq_true rfl) rfl (fun γ hγ hnm X Y => ?_)
    subst hγ
    have X : gX o γ cX9_open 2 RX9 := X
    refine g_aload_0 (pc := 0) X dX9_open_0 ?_
    refine g_getRf (pc := 1) X dX9_open_1 fl_X9_9 rfl (by decide) rfl hR rfl ?_
    refine g_aload_0 (pc := 4) X dX9_open_4 ?_
    refine g_getI (pc := 5) X dX9_open_5 rfl (by decide) fl_X9_30 (Or.inl rfl) ?_
    refine g_iload_1 (pc := 8) X dX9_open_8 ?_
    refine g_iastore_w (pc := 9) X dX9_open_9 rfl (by decide) hR h (fun s1 hR h => ?_)
    refine g_aload_0 (pc := 10) X dX9_open_10 ?_
    refine g_getRf (pc := 11) X dX9_open_11 fl_X9_15 rfl (by decide) rfl hR rfl ?_
    refine g_aload_0 (pc := 14) X dX9_open_14 ?_
    refine g_getI (pc := 15) X dX9_open_15 rfl (by decide) fl_X9_30 (Or.inl rfl) ?_
    refine g_aload_0 (pc := 18) X dX9_open_18 ?_
    refine g_getI (pc := 19) X dX9_open_19 rfl (by decide) fl_X9_34 (Or.inl rfl) ?_
    refine g_iastore_w (pc := 22) X dX9_open_22 rfl (by decide) hR h (fun s2 hR h => ?_)
    exact g_return (pc := 23) X Y dX9_open_23 (Nat.le_of_ble_eq_true rfl) (Nat.le_of_ble_eq_true rfl) ⟨rfl, hR, h⟩
def W_X9_beginCondition (r : Nat)  (Q : gSt → Prop) (σ : gSt) : Prop := wI σ ((r + 3)) 16 (σ.1 r 0) (σ.1 r 5) (fun s1 => Q s1)
set_option maxHeartbeats 4000000 in
theorem t_X9_beginCondition {o : gOm} {l : Launch} {b : Bool}   {σ : gSt} (hR : σ.2.2 = gRf b) {r : Nat}  {Q : gSt → Prop} (hr : r = 5 ∨ r = 17) (h : W_X9_beginCondition r  Q σ) : Sp o l mX9_beginCondition 1 0 0 [.ref (ad o r)] 116 116 σ (pV (fun s => s.2.2 = gRf b ∧ Q s)) := by
  rcases hr with rfl | rfl
  · unfold W_X9_beginCondition at h
    refine Sp.of (ls0 := [some (.ref (ad o 5))]) miX9_beginCondition rfl (Nat.le_of_ble_eq_true rfl) rfl (fun γ hγ hnm X Y => ?_)
    subst hγ
    have X : gX o γ cX9_beginCondition 1 RX9 := X
    refine g_aload_0 (pc := 0) X dX9_beginCondition_0 ?_
    refine g_getRf (pc := 1) X dX9_beginCondition_1 fl_X9_18 rfl (by decide) rfl hR rfl ?_
    refine g_aload_0 (pc := 4) X dX9_beginCondition_4 ?_
    refine g_getI (pc := 5) X dX9_beginCondition_5 rfl (by decide) fl_X9_30 (Or.inl rfl) ?_
    refine g_aload_0 (pc := 8) X dX9_beginCondition_8 ?_
    refine g_getI (pc := 9) X dX9_beginCondition_9 rfl (by decide) fl_X9_34 (Or.inl rfl) ?_
    refine g_iastore_w (pc := 12) X dX9_beginCondition_12 rfl (by decide) hR h (fun s1 hR h => ?_)
    exact g_return (pc := 13) X Y dX9_beginCondition_13 (Nat.le_of_ble_eq_true rfl) (Nat.le_of_ble_eq_true rfl) ⟨rfl, hR, h⟩
  · unfold W_X9_beginCondition at h
    refine Sp.of (ls0 := [some (.ref (ad o 17))]) miX9_beginCondition rfl (Nat.le_of_ble_eq_true rfl) rfl (fun γ hγ hnm X Y => ?_)
    subst hγ
    have X : gX o γ cX9_beginCondition 1 RX9 := X
    refine g_aload_0 (pc := 0) X dX9_beginCondition_0 ?_
    refine g_getRf (pc := 1) X dX9_beginCondition_1 fl_X9_18 rfl (by decide) rfl hR rfl ?_
    refine g_aload_0 (pc := 4) X dX9_beginCondition_4 ?_
    refine g_getI (pc := 5) X dX9_beginCondition_5 rfl (by decide) fl_X9_30 (Or.inl rfl) ?_
    refine g_aload_0 (pc := 8) X dX9_beginCondition_8 ?_
    refine g_getI (pc := 9) X dX9_beginCondition_9 rfl (by decide) fl_X9_34 (Or.inl rfl) ?_
    refine g_iastore_w (pc := 12) X dX9_beginCondition_12 rfl (by decide) hR h (fun s1 hR h => ?_)
    exact g_return (pc := 13) X Y dX9_beginCondition_13 (Nat.le_of_ble_eq_true rfl) (Nat.le_of_ble_eq_true rfl) ⟨rfl, hR, h⟩
def W_X9_close (r : Nat)  (Q : gSt → Prop) (σ : gSt) : Prop := fI σ r 0 ((σ.1 r 0) + (nI 1)) (fun s1 => wI s1 ((r + 2)) 17 (s1.1 r 0) (s1.1 r 5) (fun s2 => Q s2))
set_option maxHeartbeats 4000000 in
theorem t_X9_close {o : gOm} {l : Launch} {b : Bool}   {σ : gSt} (hR : σ.2.2 = gRf b) {r : Nat}  {Q : gSt → Prop} (hr : r = 5 ∨ r = 17) (h : W_X9_close r  Q σ) : Sp o l mX9_close 1 0 0 [.ref (ad o r)] 116 116 σ (pV (fun s => s.2.2 = gRf b ∧ Q s)) := by
  rcases hr with rfl | rfl
  · unfold W_X9_close at h
    refine Sp.of (ls0 := [some (.ref (ad o 5))]) miX9_close rfl (Nat.le_of_ble_eq_true rfl) rfl (fun γ hγ hnm X Y => ?_)
    subst hγ
    have X : gX o γ cX9_close 1 RX9 := X
    refine g_aload_0 (pc := 0) X dX9_close_0 ?_
    refine g_dup (pc := 1) X dX9_close_1 rfl ?_
    refine g_getI (pc := 2) X dX9_close_2 rfl (by decide) fl_X9_30 (Or.inl rfl) ?_
    refine g_iconst (pc := 5) X dX9_close_5 kiconst_1 ?_
    refine g_iadd (pc := 6) X dX9_close_6 ?_
    refine g_putI_w (pc := 7) X dX9_close_7 fl_X9_30 rfl (by decide) rfl rfl hR h (fun s1 hR h => ?_)
    refine g_aload_0 (pc := 10) X dX9_close_10 ?_
    refine g_getRf (pc := 11) X dX9_close_11 fl_X9_15 rfl (by decide) rfl hR rfl ?_
    refine g_aload_0 (pc := 14) X dX9_close_14 ?_
    refine g_getI (pc := 15) X dX9_close_15 rfl (by decide) fl_X9_30 (Or.inl rfl) ?_
    refine g_aload_0 (pc := 18) X dX9_close_18 ?_
    refine g_getI (pc := 19) X dX9_close_19 rfl (by decide) fl_X9_34 (Or.inl rfl) ?_
    refine g_iastore_w (pc := 22) X dX9_close_22 rfl (by decide) hR h (fun s2 hR h => ?_)
    exact g_return (pc := 23) X Y dX9_close_23 (Nat.le_of_ble_eq_true rfl) (Nat.le_of_ble_eq_true rfl) ⟨rfl, hR, h⟩
  · unfold W_X9_close at h
    refine Sp.of (ls0 := [some (.ref (ad o 17))]) miX9_close rfl (Nat.le_of_ble_eq_true rfl) rfl (fun γ hγ hnm X Y => ?_)
    subst hγ
    have X : gX o γ cX9_close 1 RX9 := X
    refine g_aload_0 (pc := 0) X dX9_close_0 ?_
    refine g_dup (pc := 1) X dX9_close_1 rfl ?_
    refine g_getI (pc := 2) X dX9_close_2 rfl (by decide) fl_X9_30 (Or.inl rfl) ?_
    refine g_iconst (pc := 5) X dX9_close_5 kiconst_1 ?_
    refine g_iadd (pc := 6) X dX9_close_6 ?_
    refine g_putI_w (pc := 7) X dX9_close_7 fl_X9_30 rfl (by decide) rfl rfl hR h (fun s1 hR h => ?_)
    refine g_aload_0 (pc := 10) X dX9_close_10 ?_
    refine g_getRf (pc := 11) X dX9_close_11 fl_X9_15 rfl (by decide) rfl hR rfl ?_
    refine g_aload_0 (pc := 14) X dX9_close_14 ?_
    refine g_getI (pc := 15) X dX9_close_15 rfl (by decide) fl_X9_30 (Or.inl rfl) ?_
    refine g_aload_0 (pc := 18) X dX9_close_18 ?_
    refine g_getI (pc := 19) X dX9_close_19 rfl (by decide) fl_X9_34 (Or.inl rfl) ?_
    refine g_iastore_w (pc := 22) X dX9_close_22 rfl (by decide) hR h (fun s2 hR h => ?_)
    exact g_return (pc := 23) X Y dX9_close_23 (Nat.le_of_ble_eq_true rfl) (Nat.le_of_ble_eq_true rfl) ⟨rfl, hR, h⟩
def L_X7_takeIn_3 (Q : gSt → Prop) (c1 : Int32) (K : gSt → Prop) : Nat → Int32 → gSt → Prop
  | 0, _, _ => False
  | n3 + 1, v2, s3 => ((v2 < 0 → (K s3)) ∧ (¬ v2 < 0 → ((((nI 400) ≤ (s3.1 4 0) → (L_X7_takeIn_3 Q c1 K n3 (v2 + (-8 : Int32)) s3)) ∧ (¬ (nI 400) ≤ (s3.1 4 0) → (wI s3 12 400 (s3.1 4 0) ((ushr c1 v2) &&& (nI 255)) (fun s7 => fI s7 4 0 ((s7.1 4 0) + (nI 1)) (fun s8 => L_X7_takeIn_3 Q c1 K n3 (v2 + (-8 : Int32)) s8))))))))
def W_X7_takeIn (p0 : Int32) (Q : gSt → Prop) (σ : gSt) : Prop := ∃ m3, L_X7_takeIn_3 Q p0 (fun s10 => Q s10) m3 (nI 24) σ
set_option maxHeartbeats 4000000 in
theorem t_X7_takeIn {o : gOm} {l : Launch} {b : Bool}   {σ : gSt} (hR : σ.2.2 = gRf b) {p0 : Int32} {Q : gSt → Prop} (h : W_X7_takeIn p0 Q σ) : Sp o l mX7_takeIn 1 0 0 [.ref (ad o 4), .int p0] 116 116 σ (pV (fun s => s.2.2 = gRf b ∧ Q s)) := by
  unfold W_X7_takeIn at h
  refine Sp.of (ls0 := [some (.ref (ad o 4)), some (.int p0), none]) miX7_takeIn rfl (Nat.le_of_ble_eq_true rfl) rfl (fun γ hγ hnm X Y => ?_)
  subst hγ
  have X : gX o γ cX7_takeIn 3 RX7 := X
  refine g_bipush (pc := 0) X dX7_takeIn_0 kbipush_24 ?_
  refine g_istore_2 (pc := 2) X dX7_takeIn_2 (by decide) rfl ?_
  obtain ⟨n9, h⟩ := h
  have hL : ∀ (c1 : Int32) (K : gSt → Prop) (_ : ∀  (s4 : gSt), s4.2.2 = gRf b → K s4 → G o γ 0 0 116 s4 49 [some (.ref (ad o 4)), some (.int c1), none] []) (n : Nat) (v2 : Int32) (s3 : gSt), s3.2.2 = gRf b → L_X7_takeIn_3 Q c1 K n v2 s3 → G o γ 0 0 116 s3 3 [some (.ref (ad o 4)), some (.int c1), some (.int v2)] [] := by
    intro c1 K hK n
    induction n with
    | zero => intro v2 s3 hR h; exact False.elim h
    | succ n ih =>
      intro v2 s3 hR h
      rw [L_X7_takeIn_3] at h
      refine g_iload_2 (pc := 3) X dX7_takeIn_3 ?_
      refine g_if_lt (pc := 4) X dX7_takeIn_4 (tgt := 49) (by decide) (fun q5 => ?_) (fun q5 => ?_)
      · replace h := h.1 q5
        exact g_drop (by simp [lsub]) (hK s3 hR h)
      · replace h := h.2 q5
        refine g_aload_0 (pc := 7) X dX7_takeIn_7 ?_
        refine g_getI (pc := 8) X dX7_takeIn_8 rfl (by decide) fl_X7_35 (Or.inl rfl) ?_
        refine g_sipush (pc := 11) X dX7_takeIn_11 ksipush_400 ?_
        refine g_icmp_ge (pc := 14) X dX7_takeIn_14 (tgt := 43) (by decide) (fun q6 => ?_) (fun q6 => ?_)
        · replace h := h.1 q6
          refine g_iinc_2 (pc := 43) X dX7_takeIn_43 (v := v2 + (-8 : Int32)) rfl (by decide) rfl ?_
          refine g_goto (pc := 46) X dX7_takeIn_46 (tgt := 3) (by decide) ?_
          exact ih (v2 + (-8 : Int32)) s3 hR h
        · replace h := h.2 q6
          refine g_aload_0 (pc := 17) X dX7_takeIn_17 ?_
          refine g_getRf (pc := 18) X dX7_takeIn_18 fl_X7_22 rfl (by decide) rfl hR rfl ?_
          refine g_aload_0 (pc := 21) X dX7_takeIn_21 ?_
          refine g_getI (pc := 22) X dX7_takeIn_22 rfl (by decide) fl_X7_35 (Or.inl rfl) ?_
          refine g_iload_1 (pc := 25) X dX7_takeIn_25 ?_
          refine g_iload_2 (pc := 26) X dX7_takeIn_26 ?_
          refine g_iushr (pc := 27) X dX7_takeIn_27 ?_
          refine g_sipush (pc := 28) X dX7_takeIn_28 ksipush_255 ?_
          refine g_iand (pc := 31) X dX7_takeIn_31 ?_
          refine g_iastore_w (pc := 32) X dX7_takeIn_32 rfl (by decide) hR h (fun s7 hR h => ?_)
          refine g_aload_0 (pc := 33) X dX7_takeIn_33 ?_
          refine g_dup (pc := 34) X dX7_takeIn_34 rfl ?_
          refine g_getI (pc := 35) X dX7_takeIn_35 rfl (by decide) fl_X7_35 (Or.inl rfl) ?_
          refine g_iconst (pc := 38) X dX7_takeIn_38 kiconst_1 ?_
          refine g_iadd (pc := 39) X dX7_takeIn_39 ?_
          refine g_putI_w (pc := 40) X dX7_takeIn_40 fl_X7_35 rfl (by decide) rfl rfl hR h (fun s8 hR h => ?_)
          refine g_iinc_2 (pc := 43) X dX7_takeIn_43 (v := v2 + (-8 : Int32)) rfl (by decide) rfl ?_
          refine g_goto (pc := 46) X dX7_takeIn_46 (tgt := 3) (by decide) ?_
          exact ih (v2 + (-8 : Int32)) s8 hR h
  refine hL p0 _ (fun s10 hR h => ?_) n9 (nI 24) σ hR h
  · exact g_return (pc := 49) X Y dX7_takeIn_49 (Nat.le_of_ble_eq_true rfl) (Nat.le_of_ble_eq_true rfl) ⟨rfl, hR, h⟩
def W_X7_isLetter (p0 : Int32) (Q : Int32 → Prop) (σ : gSt) : Prop := ((p0 < (nI 97) → (Q (nI 0))) ∧ (¬ p0 < (nI 97) → ((((nI 122) < p0 → (Q (nI 0))) ∧ (¬ (nI 122) < p0 → (Q (nI 1)))))))
set_option maxHeartbeats 4000000 in
theorem t_X7_isLetter {o : gOm} {l : Launch} {b : Bool}   {σ : gSt} (hR : σ.2.2 = gRf b) {p0 : Int32} {Q : Int32 → Prop} (h : W_X7_isLetter p0 Q σ) : Sp o l mX7_isLetter 1 0 0 [.int p0] 116 116 σ (pI (fun x s => σ = s ∧ Q x)) := by
  unfold W_X7_isLetter at h
  refine Sp.of (ls0 := [some (.int p0)]) miX7_isLetter rfl (Nat.le_of_ble_eq_true rfl) rfl (fun γ hγ hnm X Y => ?_)
  subst hγ
  have X : gX o γ cX7_isLetter 1 RX7 := X
  refine g_iload_0 (pc := 0) X dX7_isLetter_0 ?_
  refine g_bipush (pc := 1) X dX7_isLetter_1 kbipush_97 ?_
  refine g_icmp_lt (pc := 3) X dX7_isLetter_3 (tgt := 16) (by decide) (fun q1 => ?_) (fun q1 => ?_)
  · replace h := h.1 q1
    refine g_iconst (pc := 16) X dX7_isLetter_16 kiconst_0 ?_
    exact g_zreturn (pc := 17) X Y dX7_isLetter_17 (by first | exact Or.inl rfl | exact Or.inr rfl) (Nat.le_of_ble_eq_true rfl) (Nat.le_of_ble_eq_true rfl) ⟨_, rfl, rfl, h⟩
  · replace h := h.2 q1
    refine g_iload_0 (pc := 6) X dX7_isLetter_6 ?_
    refine g_bipush (pc := 7) X dX7_isLetter_7 kbipush_122 ?_
    refine g_icmp_gt (pc := 9) X dX7_isLetter_9 (tgt := 16) (by decide) (fun q2 => ?_) (fun q2 => ?_)
    · replace h := h.1 q2
      refine g_iconst (pc := 16) X dX7_isLetter_16 kiconst_0 ?_
      exact g_zreturn (pc := 17) X Y dX7_isLetter_17 (by first | exact Or.inl rfl | exact Or.inr rfl) (Nat.le_of_ble_eq_true rfl) (Nat.le_of_ble_eq_true rfl) ⟨_, rfl, rfl, h⟩
    · replace h := h.2 q2
      refine g_iconst (pc := 12) X dX7_isLetter_12 kiconst_1 ?_
      refine g_goto (pc := 13) X dX7_isLetter_13 (tgt := 17) (by decide) ?_
      exact g_zreturn (pc := 17) X Y dX7_isLetter_17 (by first | exact Or.inl rfl | exact Or.inr rfl) (Nat.le_of_ble_eq_true rfl) (Nat.le_of_ble_eq_true rfl) ⟨_, rfl, rfl, h⟩
def W_X7_isDigit (p0 : Int32) (Q : Int32 → Prop) (σ : gSt) : Prop := ((p0 < (nI 48) → (Q (nI 0))) ∧ (¬ p0 < (nI 48) → ((((nI 57) < p0 → (Q (nI 0))) ∧ (¬ (nI 57) < p0 → (Q (nI 1)))))))
set_option maxHeartbeats 4000000 in
theorem t_X7_isDigit {o : gOm} {l : Launch} {b : Bool}   {σ : gSt} (hR : σ.2.2 = gRf b) {p0 : Int32} {Q : Int32 → Prop} (h : W_X7_isDigit p0 Q σ) : Sp o l mX7_isDigit 1 0 0 [.int p0] 116 116 σ (pI (fun x s => σ = s ∧ Q x)) := by
  unfold W_X7_isDigit at h
  refine Sp.of (ls0 := [some (.int p0)]) miX7_isDigit rfl (Nat.le_of_ble_eq_true rfl) rfl (fun γ hγ hnm X Y => ?_)
  subst hγ
  have X : gX o γ cX7_isDigit 1 RX7 := X
  refine g_iload_0 (pc := 0) X dX7_isDigit_0 ?_
  refine g_bipush (pc := 1) X dX7_isDigit_1 kbipush_48 ?_
  refine g_icmp_lt (pc := 3) X dX7_isDigit_3 (tgt := 16) (by decide) (fun q1 => ?_) (fun q1 => ?_)
  · replace h := h.1 q1
    refine g_iconst (pc := 16) X dX7_isDigit_16 kiconst_0 ?_
    exact g_zreturn (pc := 17) X Y dX7_isDigit_17 (by first | exact Or.inl rfl | exact Or.inr rfl) (Nat.le_of_ble_eq_true rfl) (Nat.le_of_ble_eq_true rfl) ⟨_, rfl, rfl, h⟩
  · replace h := h.2 q1
    refine g_iload_0 (pc := 6) X dX7_isDigit_6 ?_
    refine g_bipush (pc := 7) X dX7_isDigit_7 kbipush_57 ?_
    refine g_icmp_gt (pc := 9) X dX7_isDigit_9 (tgt := 16) (by decide) (fun q2 => ?_) (fun q2 => ?_)
    · replace h := h.1 q2
      refine g_iconst (pc := 16) X dX7_isDigit_16 kiconst_0 ?_
      exact g_zreturn (pc := 17) X Y dX7_isDigit_17 (by first | exact Or.inl rfl | exact Or.inr rfl) (Nat.le_of_ble_eq_true rfl) (Nat.le_of_ble_eq_true rfl) ⟨_, rfl, rfl, h⟩
    · replace h := h.2 q2
      refine g_iconst (pc := 12) X dX7_isDigit_12 kiconst_1 ?_
      refine g_goto (pc := 13) X dX7_isDigit_13 (tgt := 17) (by decide) ?_
      exact g_zreturn (pc := 17) X Y dX7_isDigit_17 (by first | exact Or.inl rfl | exact Or.inr rfl) (Nat.le_of_ble_eq_true rfl) (Nat.le_of_ble_eq_true rfl) ⟨_, rfl, rfl, h⟩
def W_X7_goesOn (p0 : Int32) (p1 : Int32) (Q : Int32 → Prop) (σ : gSt) : Prop := W_X7_isLetter p0 (fun x1 => ∀ J2 : Prop, ((W_X7_isDigit p0 (fun x3 => ((x3 = 0 → (Q (nI 0))) ∧ (¬ x3 = 0 → (W_X7_isDigit p1 (fun x5 => ((x5 = 0 → (Q (nI 0))) ∧ (¬ x5 = 0 → (Q (nI 1))))) σ)))) σ) → J2) → ((x1 = 0 → J2) ∧ (¬ x1 = 0 → (W_X7_isLetter p1 (fun x8 => ((x8 = 0 → J2) ∧ (¬ x8 = 0 → (Q (nI 1))))) σ)))) σ
set_option maxHeartbeats 4000000 in
theorem t_X7_goesOn {o : gOm} {l : Launch} {b : Bool}   {σ : gSt} (hR : σ.2.2 = gRf b) {p0 : Int32} {p1 : Int32} {Q : Int32 → Prop} (h : W_X7_goesOn p0 p1 Q σ) : Sp o l mX7_goesOn 2 0 0 [.int p0, .int p1] 116 116 σ (pI (fun x s => σ = s ∧ Q x)) := by
  unfold W_X7_goesOn at h
  refine Sp.of (ls0 := [some (.int p0), some (.int p1)]) miX7_goesOn rfl (Nat.le_of_ble_eq_true rfl) rfl (fun γ hγ hnm X Y => ?_)
  subst hγ
  have X : gX o γ cX7_goesOn 2 RX7 := X
  refine g_iload_0 (pc := 0) X dX7_goesOn_0 ?_
  refine g_callS_I (pc := 1) X Y dX7_goesOn_1 miX7_isLetter li_X7_62 (t_X7_isLetter hR  h) rfl ⟨Nat.le_of_ble_eq_true rfl, Nat.le_of_ble_eq_true rfl⟩ (Nat.le_of_ble_eq_true rfl) (Nat.le_of_ble_eq_true rfl) rfl (by exact Nat.le_of_ble_eq_true rfl) (fun x1 σ9 hp => ?_)
  obtain ⟨rfl, h⟩ := hp
  replace h := h (G o γ 0 0 116 σ 14 [some (.int p0), some (.int p1)] []) (by
      intro  h
      refine g_iload_0 (pc := 14) X dX7_goesOn_14 ?_
      refine g_callS_I (pc := 15) X Y dX7_goesOn_15 miX7_isDigit li_X7_70 (t_X7_isDigit hR  h) rfl ⟨Nat.le_of_ble_eq_true rfl, Nat.le_of_ble_eq_true rfl⟩ (Nat.le_of_ble_eq_true rfl) (Nat.le_of_ble_eq_true rfl) rfl (by exact Nat.le_of_ble_eq_true rfl) (fun x3 σ9 hp => ?_)
      obtain ⟨rfl, h⟩ := hp
      refine g_if_eq (pc := 18) X dX7_goesOn_18 (tgt := 32) (by decide) (fun q4 => ?_) (fun q4 => ?_)
      · replace h := h.1 q4
        refine g_iconst (pc := 32) X dX7_goesOn_32 kiconst_0 ?_
        exact g_zreturn (pc := 33) X Y dX7_goesOn_33 (by first | exact Or.inl rfl | exact Or.inr rfl) (Nat.le_of_ble_eq_true rfl) (Nat.le_of_ble_eq_true rfl) ⟨_, rfl, rfl, h⟩
      · replace h := h.2 q4
        refine g_iload_1 (pc := 21) X dX7_goesOn_21 ?_
        refine g_callS_I (pc := 22) X Y dX7_goesOn_22 miX7_isDigit li_X7_70 (t_X7_isDigit hR  h) rfl ⟨Nat.le_of_ble_eq_true rfl, Nat.le_of_ble_eq_true rfl⟩ (Nat.le_of_ble_eq_true rfl) (Nat.le_of_ble_eq_true rfl) rfl (by exact Nat.le_of_ble_eq_true rfl) (fun x5 σ9 hp => ?_)
        obtain ⟨rfl, h⟩ := hp
        refine g_if_eq (pc := 25) X dX7_goesOn_25 (tgt := 32) (by decide) (fun q6 => ?_) (fun q6 => ?_)
        · replace h := h.1 q6
          refine g_iconst (pc := 32) X dX7_goesOn_32 kiconst_0 ?_
          exact g_zreturn (pc := 33) X Y dX7_goesOn_33 (by first | exact Or.inl rfl | exact Or.inr rfl) (Nat.le_of_ble_eq_true rfl) (Nat.le_of_ble_eq_true rfl) ⟨_, rfl, rfl, h⟩
        · replace h := h.2 q6
          refine g_iconst (pc := 28) X dX7_goesOn_28 kiconst_1 ?_
          refine g_goto (pc := 29) X dX7_goesOn_29 (tgt := 33) (by decide) ?_
          exact g_zreturn (pc := 33) X Y dX7_goesOn_33 (by first | exact Or.inl rfl | exact Or.inr rfl) (Nat.le_of_ble_eq_true rfl) (Nat.le_of_ble_eq_true rfl) ⟨_, rfl, rfl, h⟩)
  refine g_if_eq (pc := 4) X dX7_goesOn_4 (tgt := 14) (by decide) (fun q7 => ?_) (fun q7 => ?_)
  · replace h := h.1 q7
    exact h
  · replace h := h.2 q7
    refine g_iload_1 (pc := 7) X dX7_goesOn_7 ?_
    refine g_callS_I (pc := 8) X Y dX7_goesOn_8 miX7_isLetter li_X7_62 (t_X7_isLetter hR  h) rfl ⟨Nat.le_of_ble_eq_true rfl, Nat.le_of_ble_eq_true rfl⟩ (Nat.le_of_ble_eq_true rfl) (Nat.le_of_ble_eq_true rfl) rfl (by exact Nat.le_of_ble_eq_true rfl) (fun x8 σ9 hp => ?_)
    obtain ⟨rfl, h⟩ := hp
    refine g_if_ne (pc := 11) X dX7_goesOn_11 (tgt := 28) (by decide) (fun q9 => ?_) (fun q9 => ?_)
    · replace h := h.2 q9
      refine g_iconst (pc := 28) X dX7_goesOn_28 kiconst_1 ?_
      refine g_goto (pc := 29) X dX7_goesOn_29 (tgt := 33) (by decide) ?_
      exact g_zreturn (pc := 33) X Y dX7_goesOn_33 (by first | exact Or.inl rfl | exact Or.inr rfl) (Nat.le_of_ble_eq_true rfl) (Nat.le_of_ble_eq_true rfl) ⟨_, rfl, rfl, h⟩
    · replace h := h.1 q9
      exact h
def L_X7_numberAt_5 (Q : Int32 → Prop) (c1 : Int32) (σ : gSt) (K : Int32 → Prop) : Nat → Int32 → Int32 → Prop
  | 0, _, _ => False
  | n5 + 1, v2, v3 => ((c1 ≤ v3 → (K v2)) ∧ (¬ c1 ≤ v3 → (rI σ 12 400 v3 (fun x6 => W_X7_isDigit x6 (fun x7 => ((x7 = 0 → (K v2)) ∧ (¬ x7 = 0 → ((((nI 9999) < v2 → (K v2)) ∧ (¬ (nI 9999) < v2 → (rI σ 12 400 v3 (fun x10 => L_X7_numberAt_5 Q c1 σ K n5 (((v2 * (nI 10)) + x10) - (nI 48)) (v3 + nI 1))))))))) σ))))
def W_X7_numberAt (p0 : Int32) (p1 : Int32) (Q : Int32 → Prop) (σ : gSt) : Prop := ∃ m5, L_X7_numberAt_5 Q p1 σ (fun y12 => Q y12) m5 (nI 0) p0
set_option maxHeartbeats 4000000 in
theorem t_X7_numberAt {o : gOm} {l : Launch} {b : Bool}   {σ : gSt} (hR : σ.2.2 = gRf b) {p0 : Int32} {p1 : Int32} {Q : Int32 → Prop} (h : W_X7_numberAt p0 p1 Q σ) : Sp o l mX7_numberAt 2 0 0 [.ref (ad o 4), .int p0, .int p1] 116 116 σ (pI (fun x s => σ = s ∧ Q x)) := by
  unfold W_X7_numberAt at h
  refine Sp.of (ls0 := [some (.ref (ad o 4)), some (.int p0), some (.int p1), none, none]) miX7_numberAt rfl (Nat.le_of_ble_eq_true rfl) rfl (fun γ hγ hnm X Y => ?_)
  subst hγ
  have X : gX o γ cX7_numberAt 5 RX7 := X
  refine g_iconst (pc := 0) X dX7_numberAt_0 kiconst_0 ?_
  refine g_istore_3 (pc := 1) X dX7_numberAt_1 (by decide) rfl ?_
  refine g_iload_1 (pc := 2) X dX7_numberAt_2 ?_
  refine g_istore_4 (pc := 3) X dX7_numberAt_3 (by decide) rfl ?_
  obtain ⟨n11, h⟩ := h
  have hL : ∀ (c1 : Int32) (K : Int32 → Prop) (_ : ∀ (y4 : Int32), K y4 → G o γ 0 0 116 σ 53 [some (.ref (ad o 4)), none, some (.int c1), some (.int y4), none] []) (n : Nat) (v2 : Int32) (v3 : Int32), L_X7_numberAt_5 Q c1 σ K n v2 v3 → G o γ 0 0 116 σ 5 [some (.ref (ad o 4)), none, some (.int c1), some (.int v2), some (.int v3)] [] := by
    intro c1 K hK n
    induction n with
    | zero => intro v2 v3 h; exact False.elim h
    | succ n ih =>
      intro v2 v3 h
      rw [L_X7_numberAt_5] at h
      refine g_iload_4 (pc := 5) X dX7_numberAt_5 ?_
      refine g_iload_2 (pc := 7) X dX7_numberAt_7 ?_
      refine g_icmp_ge (pc := 8) X dX7_numberAt_8 (tgt := 53) (by decide) (fun q5 => ?_) (fun q5 => ?_)
      · replace h := h.1 q5
        exact g_drop (by simp [lsub]) (hK v2 h)
      · replace h := h.2 q5
        refine g_aload_0 (pc := 11) X dX7_numberAt_11 ?_
        refine g_getRf (pc := 12) X dX7_numberAt_12 fl_X7_22 rfl (by decide) rfl hR rfl ?_
        refine g_iload_4 (pc := 15) X dX7_numberAt_15 ?_
        refine g_iaload_w (pc := 17) X dX7_numberAt_17 rfl (by decide) h (fun x6 h => ?_)
        refine g_callS_I (pc := 18) X Y dX7_numberAt_18 miX7_isDigit li_X7_70 (t_X7_isDigit hR  h) rfl ⟨Nat.le_of_ble_eq_true rfl, Nat.le_of_ble_eq_true rfl⟩ (Nat.le_of_ble_eq_true rfl) (Nat.le_of_ble_eq_true rfl) rfl (by exact Nat.le_of_ble_eq_true rfl) (fun x7 σ9 hp => ?_)
        obtain ⟨rfl, h⟩ := hp
        refine g_if_eq (pc := 21) X dX7_numberAt_21 (tgt := 53) (by decide) (fun q8 => ?_) (fun q8 => ?_)
        · replace h := h.1 q8
          exact g_drop (by simp [lsub]) (hK v2 h)
        · replace h := h.2 q8
          refine g_iload_3 (pc := 24) X dX7_numberAt_24 ?_
          refine g_sipush (pc := 25) X dX7_numberAt_25 ksipush_9999 ?_
          refine g_icmp_gt (pc := 28) X dX7_numberAt_28 (tgt := 53) (by decide) (fun q9 => ?_) (fun q9 => ?_)
          · replace h := h.1 q9
            exact g_drop (by simp [lsub]) (hK v2 h)
          · replace h := h.2 q9
            refine g_iload_3 (pc := 31) X dX7_numberAt_31 ?_
            refine g_bipush (pc := 32) X dX7_numberAt_32 kbipush_10 ?_
            refine g_imul (pc := 34) X dX7_numberAt_34 ?_
            refine g_aload_0 (pc := 35) X dX7_numberAt_35 ?_
            refine g_getRf (pc := 36) X dX7_numberAt_36 fl_X7_22 rfl (by decide) rfl hR rfl ?_
            refine g_iload_4 (pc := 39) X dX7_numberAt_39 ?_
            refine g_iaload_w (pc := 41) X dX7_numberAt_41 rfl (by decide) h (fun x10 h => ?_)
            refine g_iadd (pc := 42) X dX7_numberAt_42 ?_
            refine g_bipush (pc := 43) X dX7_numberAt_43 kbipush_48 ?_
            refine g_isub (pc := 45) X dX7_numberAt_45 ?_
            refine g_istore_3 (pc := 46) X dX7_numberAt_46 (by decide) rfl ?_
            refine g_iinc_4 (pc := 47) X dX7_numberAt_47 (v := v3 + nI 1) rfl (by decide) rfl ?_
            refine g_goto (pc := 50) X dX7_numberAt_50 (tgt := 5) (by decide) ?_
            exact ih (((v2 * (nI 10)) + x10) - (nI 48)) (v3 + nI 1) h
  refine g_drop (by simp [lsub]) (hL p1 _ (fun y12 h => ?_) n11 (nI 0) p0 h)
  · refine g_iload_3 (pc := 53) X dX7_numberAt_53 ?_
    exact g_ireturn (pc := 54) X Y dX7_numberAt_54 (Nat.le_of_ble_eq_true rfl) (Nat.le_of_ble_eq_true rfl) ⟨_, rfl, rfl, h⟩
def L_X7_scan_4 (Q : gSt → Prop) (c1 : Int32) (K : Int32 → gSt → Prop) : Nat → Int32 → Int32 → gSt → Prop
  | 0, _, _, _ => False
  | n4 + 1, v2, v3, s4 => ((c1 ≤ v3 → (K v2 s4)) ∧ (¬ c1 ≤ v3 → (rI s4 12 400 v3 (fun x8 => ((x8 = (nI 32) → (L_X7_scan_4 Q c1 K n4 v2 (v3 + nI 1) s4)) ∧ (¬ x8 = (nI 32) → (∀ J10 : Prop, ((wI s4 14 401 v2 v3 (fun s11 => W_X7_isLetter x8 (fun x12 => ∀ J14 : Int32 → Prop, (∀ x13, (wI s11 13 401 v2 x13 (fun s15 => W_X7_isDigit x8 (fun x16 => ∀ J18 : Int32 → Prop, (∀ x17, (wI s15 15 401 v2 x17 (fun s19 => L_X7_scan_4 Q c1 K n4 (v2 + nI 1) (v3 + nI 1) s19)) → J18 x17) → ((x16 = 0 → (J18 (nI 0))) ∧ (¬ x16 = 0 → (W_X7_numberAt v3 c1 (fun x21 => J18 x21) s15)))) s15)) → J14 x13) → ((x12 = 0 → (W_X7_isDigit x8 (fun x23 => ((x23 = 0 → (J14 x8)) ∧ (¬ x23 = 0 → (J14 ((-17 : Int32)))))) s11)) ∧ (¬ x12 = 0 → (WPI mX7_wordAt 12 (fun o => [.ref (ad o 4), .int v3, .int c1]) (fun x25 => J14 x25) s11)))) s11)) → J10) → ((v3 ≤ 0 → J10) ∧ (¬ v3 ≤ 0 → (rI s4 12 400 (v3 - (nI 1)) (fun x27 => W_X7_goesOn x27 x8 (fun x28 => ((x28 = 0 → J10) ∧ (¬ x28 = 0 → (L_X7_scan_4 Q c1 K n4 v2 (v3 + nI 1) s4)))) s4)))))))))))
def W_X7_scan (p0 : Int32) (Q : gSt → Prop) (σ : gSt) : Prop := ∃ m4, L_X7_scan_4 Q p0 (fun y31 s32 => wI s32 14 401 y31 p0 (fun s33 => wI s33 13 401 y31 ((-18 : Int32)) (fun s34 => Q s34))) m4 (nI 0) (nI 0) σ
set_option maxHeartbeats 4000000 in
theorem t_X7_scan {o : gOm} {l : Launch} {b : Bool}   {σ : gSt} (hR : σ.2.2 = gRf b) {p0 : Int32} {Q : gSt → Prop} (h : W_X7_scan p0 Q σ) : Sp o l mX7_scan 13 0 0 [.ref (ad o 4), .int p0] 116 116 σ (pV (fun s => s.2.2 = gRf b ∧ Q s)) := by
  unfold W_X7_scan at h
  refine Sp.of (ls0 := [some (.ref (ad o 4)), some (.int p0), none, none, none]) miX7_scan rfl (Nat.le_of_ble_eq_true rfl) rfl (fun γ hγ hnm X Y => ?_)
  subst hγ
  have X : gX o γ cX7_scan 5 RX7 := X
  refine g_iconst (pc := 0) X dX7_scan_0 kiconst_0 ?_
  refine g_istore_2 (pc := 1) X dX7_scan_1 (by decide) rfl ?_
  refine g_iconst (pc := 2) X dX7_scan_2 kiconst_0 ?_
  refine g_istore_3 (pc := 3) X dX7_scan_3 (by decide) rfl ?_
  obtain ⟨n30, h⟩ := h
  have hL : ∀ (c1 : Int32) (K : Int32 → gSt → Prop) (_ : ∀ (y5 : Int32) (s6 : gSt), s6.2.2 = gRf b → K y5 s6 → G o γ 0 0 116 s6 125 [some (.ref (ad o 4)), some (.int c1), some (.int y5), none, none] []) (n : Nat) (v2 : Int32) (v3 : Int32) (s4 : gSt), s4.2.2 = gRf b → L_X7_scan_4 Q c1 K n v2 v3 s4 → G o γ 0 0 116 s4 4 [some (.ref (ad o 4)), some (.int c1), some (.int v2), some (.int v3), none] [] := by
    intro c1 K hK n
    induction n with
    | zero => intro v2 v3 s4 hR h; exact False.elim h
    | succ n ih =>
      intro v2 v3 s4 hR h
      rw [L_X7_scan_4] at h
      refine g_iload_3 (pc := 4) X dX7_scan_4 ?_
      refine g_iload_1 (pc := 5) X dX7_scan_5 ?_
      refine g_icmp_ge (pc := 6) X dX7_scan_6 (tgt := 125) (by decide) (fun q7 => ?_) (fun q7 => ?_)
      · replace h := h.1 q7
        exact g_drop (by simp [lsub]) (hK v2 s4 hR h)
      · replace h := h.2 q7
        refine g_aload_0 (pc := 9) X dX7_scan_9 ?_
        refine g_getRf (pc := 10) X dX7_scan_10 fl_X7_22 rfl (by decide) rfl hR rfl ?_
        refine g_iload_3 (pc := 13) X dX7_scan_13 ?_
        refine g_iaload_w (pc := 14) X dX7_scan_14 rfl (by decide) h (fun x8 h => ?_)
        refine g_istore_4 (pc := 15) X dX7_scan_15 (by decide) rfl ?_
        refine g_iload_4 (pc := 17) X dX7_scan_17 ?_
        refine g_bipush (pc := 19) X dX7_scan_19 kbipush_32 ?_
        refine g_icmp_eq (pc := 21) X dX7_scan_21 (tgt := 119) (by decide) (fun q9 => ?_) (fun q9 => ?_)
        · replace h := h.1 q9
          refine g_iinc_3 (pc := 119) X dX7_scan_119 (v := v3 + nI 1) rfl (by decide) rfl ?_
          refine g_goto (pc := 122) X dX7_scan_122 (tgt := 4) (by decide) ?_
          exact g_drop (by simp [lsub]) (ih v2 (v3 + nI 1) s4 hR h)
        · replace h := h.2 q9
          refine g_iload_3 (pc := 24) X dX7_scan_24 ?_
          replace h := h (G o γ 0 0 116 s4 47 [some (.ref (ad o 4)), some (.int c1), some (.int v2), some (.int v3), some (.int x8)] []) (by
              intro  h
              refine g_aload_0 (pc := 47) X dX7_scan_47 ?_
              refine g_getRf (pc := 48) X dX7_scan_48 fl_X7_29 rfl (by decide) rfl hR rfl ?_
              refine g_iload_2 (pc := 51) X dX7_scan_51 ?_
              refine g_iload_3 (pc := 52) X dX7_scan_52 ?_
              refine g_iastore_w (pc := 53) X dX7_scan_53 rfl (by decide) hR h (fun s11 hR h => ?_)
              refine g_aload_0 (pc := 54) X dX7_scan_54 ?_
              refine g_getRf (pc := 55) X dX7_scan_55 fl_X7_26 rfl (by decide) rfl hR rfl ?_
              refine g_iload_2 (pc := 58) X dX7_scan_58 ?_
              refine g_iload_4 (pc := 59) X dX7_scan_59 ?_
              refine g_callS_I (pc := 61) X Y dX7_scan_61 miX7_isLetter li_X7_62 (t_X7_isLetter hR  h) rfl ⟨Nat.le_of_ble_eq_true rfl, Nat.le_of_ble_eq_true rfl⟩ (Nat.le_of_ble_eq_true rfl) (Nat.le_of_ble_eq_true rfl) rfl (by exact Nat.le_of_ble_eq_true rfl) (fun x12 σ9 hp => ?_)
              obtain ⟨rfl, h⟩ := hp
              replace h := h (fun x13 => G o γ 0 0 116 s11 91 [some (.ref (ad o 4)), some (.int c1), some (.int v2), some (.int v3), some (.int x8)] [.int x13, .int v2, .ref (ad o 13)]) (by
                  intro x13 h
                  refine g_iastore_w (pc := 91) X dX7_scan_91 rfl (by decide) hR h (fun s15 hR h => ?_)
                  refine g_aload_0 (pc := 92) X dX7_scan_92 ?_
                  refine g_getRf (pc := 93) X dX7_scan_93 fl_X7_32 rfl (by decide) rfl hR rfl ?_
                  refine g_iload_2 (pc := 96) X dX7_scan_96 ?_
                  refine g_iload_4 (pc := 97) X dX7_scan_97 ?_
                  refine g_callS_I (pc := 99) X Y dX7_scan_99 miX7_isDigit li_X7_70 (t_X7_isDigit hR  h) rfl ⟨Nat.le_of_ble_eq_true rfl, Nat.le_of_ble_eq_true rfl⟩ (Nat.le_of_ble_eq_true rfl) (Nat.le_of_ble_eq_true rfl) rfl (by exact Nat.le_of_ble_eq_true rfl) (fun x16 σ9 hp => ?_)
                  obtain ⟨rfl, h⟩ := hp
                  replace h := h (fun x17 => G o γ 0 0 116 s15 115 [some (.ref (ad o 4)), some (.int c1), some (.int v2), some (.int v3), none] [.int x17, .int v2, .ref (ad o 15)]) (by
                      intro x17 h
                      refine g_iastore_w (pc := 115) X dX7_scan_115 rfl (by decide) hR h (fun s19 hR h => ?_)
                      refine g_iinc_2 (pc := 116) X dX7_scan_116 (v := v2 + nI 1) rfl (by decide) rfl ?_
                      refine g_iinc_3 (pc := 119) X dX7_scan_119 (v := v3 + nI 1) rfl (by decide) rfl ?_
                      refine g_goto (pc := 122) X dX7_scan_122 (tgt := 4) (by decide) ?_
                      exact ih (v2 + nI 1) (v3 + nI 1) s19 hR h)
                  refine g_if_eq (pc := 102) X dX7_scan_102 (tgt := 114) (by decide) (fun q20 => ?_) (fun q20 => ?_)
                  · replace h := h.1 q20
                    refine g_iconst (pc := 114) X dX7_scan_114 kiconst_0 ?_
                    exact g_drop (by simp [lsub]) (h)
                  · replace h := h.2 q20
                    refine g_aload_0 (pc := 105) X dX7_scan_105 ?_
                    refine g_iload_3 (pc := 106) X dX7_scan_106 ?_
                    refine g_iload_1 (pc := 107) X dX7_scan_107 ?_
                    refine g_callV_I (pc := 108) X Y dX7_scan_108 miX7_numberAt li_X7_73 (t_X7_numberAt hR  h) rfl (by decide) rfl ⟨_, rfl⟩ rfl ⟨Nat.le_of_ble_eq_true rfl, Nat.le_of_ble_eq_true rfl⟩ (Nat.le_of_ble_eq_true rfl) (Nat.le_of_ble_eq_true rfl) rfl (by exact Nat.le_of_ble_eq_true rfl) (fun x21 σ9 hp => ?_)
                    obtain ⟨rfl, h⟩ := hp
                    refine g_goto (pc := 111) X dX7_scan_111 (tgt := 115) (by decide) ?_
                    exact g_drop (by simp [lsub]) (h))
              refine g_if_eq (pc := 64) X dX7_scan_64 (tgt := 76) (by decide) (fun q22 => ?_) (fun q22 => ?_)
              · replace h := h.1 q22
                refine g_iload_4 (pc := 76) X dX7_scan_76 ?_
                refine g_callS_I (pc := 78) X Y dX7_scan_78 miX7_isDigit li_X7_70 (t_X7_isDigit hR  h) rfl ⟨Nat.le_of_ble_eq_true rfl, Nat.le_of_ble_eq_true rfl⟩ (Nat.le_of_ble_eq_true rfl) (Nat.le_of_ble_eq_true rfl) rfl (by exact Nat.le_of_ble_eq_true rfl) (fun x23 σ9 hp => ?_)
                obtain ⟨rfl, h⟩ := hp
                refine g_if_eq (pc := 81) X dX7_scan_81 (tgt := 89) (by decide) (fun q24 => ?_) (fun q24 => ?_)
                · replace h := h.1 q24
                  refine g_iload_4 (pc := 89) X dX7_scan_89 ?_
                  exact h
                · replace h := h.2 q24
                  refine g_bipush (pc := 84) X dX7_scan_84 kbipush_m17 ?_
                  refine g_goto (pc := 86) X dX7_scan_86 (tgt := 91) (by decide) ?_
                  exact h
              · replace h := h.2 q22
                refine g_aload_0 (pc := 67) X dX7_scan_67 ?_
                refine g_iload_3 (pc := 68) X dX7_scan_68 ?_
                refine g_iload_1 (pc := 69) X dX7_scan_69 ?_
                refine g_callV_I (pc := 70) X Y dX7_scan_70 miX7_wordAt li_X7_66 (t_WPI hR  h) rfl (by decide) rfl ⟨_, rfl⟩ rfl ⟨Nat.le_of_ble_eq_true rfl, Nat.le_of_ble_eq_true rfl⟩ (Nat.le_of_ble_eq_true rfl) (Nat.le_of_ble_eq_true rfl) rfl (by exact Nat.le_of_ble_eq_true rfl) (fun x25 σ9 hp => ?_)
                obtain ⟨rfl, h⟩ := hp
                refine g_goto (pc := 73) X dX7_scan_73 (tgt := 91) (by decide) ?_
                exact h)
          refine g_if_le (pc := 25) X dX7_scan_25 (tgt := 47) (by decide) (fun q26 => ?_) (fun q26 => ?_)
          · replace h := h.1 q26
            exact h
          · replace h := h.2 q26
            refine g_aload_0 (pc := 28) X dX7_scan_28 ?_
            refine g_getRf (pc := 29) X dX7_scan_29 fl_X7_22 rfl (by decide) rfl hR rfl ?_
            refine g_iload_3 (pc := 32) X dX7_scan_32 ?_
            refine g_iconst (pc := 33) X dX7_scan_33 kiconst_1 ?_
            refine g_isub (pc := 34) X dX7_scan_34 ?_
            refine g_iaload_w (pc := 35) X dX7_scan_35 rfl (by decide) h (fun x27 h => ?_)
            refine g_iload_4 (pc := 36) X dX7_scan_36 ?_
            refine g_callS_I (pc := 38) X Y dX7_scan_38 miX7_goesOn li_X7_58 (t_X7_goesOn hR  h) rfl ⟨Nat.le_of_ble_eq_true rfl, Nat.le_of_ble_eq_true rfl⟩ (Nat.le_of_ble_eq_true rfl) (Nat.le_of_ble_eq_true rfl) rfl (by exact Nat.le_of_ble_eq_true rfl) (fun x28 σ9 hp => ?_)
            obtain ⟨rfl, h⟩ := hp
            refine g_if_eq (pc := 41) X dX7_scan_41 (tgt := 47) (by decide) (fun q29 => ?_) (fun q29 => ?_)
            · replace h := h.1 q29
              exact h
            · replace h := h.2 q29
              refine g_goto (pc := 44) X dX7_scan_44 (tgt := 119) (by decide) ?_
              refine g_iinc_3 (pc := 119) X dX7_scan_119 (v := v3 + nI 1) rfl (by decide) rfl ?_
              refine g_goto (pc := 122) X dX7_scan_122 (tgt := 4) (by decide) ?_
              exact g_drop (by simp [lsub]) (ih v2 (v3 + nI 1) s4 hR h)
  refine hL p0 _ (fun y31 s32 hR h => ?_) n30 (nI 0) (nI 0) σ hR h
  · refine g_aload_0 (pc := 125) X dX7_scan_125 ?_
    refine g_getRf (pc := 126) X dX7_scan_126 fl_X7_29 rfl (by decide) rfl hR rfl ?_
    refine g_iload_2 (pc := 129) X dX7_scan_129 ?_
    refine g_iload_1 (pc := 130) X dX7_scan_130 ?_
    refine g_iastore_w (pc := 131) X dX7_scan_131 rfl (by decide) hR h (fun s33 hR h => ?_)
    refine g_aload_0 (pc := 132) X dX7_scan_132 ?_
    refine g_getRf (pc := 133) X dX7_scan_133 fl_X7_26 rfl (by decide) rfl hR rfl ?_
    refine g_iload_2 (pc := 136) X dX7_scan_136 ?_
    refine g_bipush (pc := 137) X dX7_scan_137 kbipush_m18 ?_
    refine g_iastore_w (pc := 139) X dX7_scan_139 rfl (by decide) hR h (fun s34 hR h => ?_)
    exact g_return (pc := 140) X Y dX7_scan_140 (Nat.le_of_ble_eq_true rfl) (Nat.le_of_ble_eq_true rfl) ⟨rfl, hR, h⟩
def W_X7_refuse (p0 : Int32) (Q : Int32 → gSt → Prop) (σ : gSt) : Prop := fI σ 4 1 p0 (fun s1 => rI s1 14 401 (s1.1 4 9) (fun x2 => fI s1 4 2 x2 (fun s3 => Q (nI 0) s3)))
set_option maxHeartbeats 4000000 in
theorem t_X7_refuse {o : gOm} {l : Launch} {b : Bool}   {σ : gSt} (hR : σ.2.2 = gRf b) {p0 : Int32} {Q : Int32 → gSt → Prop} (h : W_X7_refuse p0 Q σ) : Sp o l mX7_refuse 1 0 0 [.ref (ad o 4), .int p0] 116 116 σ (pI (fun x s => s.2.2 = gRf b ∧ Q x s)) := by
  unfold W_X7_refuse at h
  refine Sp.of (ls0 := [some (.ref (ad o 4)), some (.int p0)]) miX7_refuse rfl (Nat.le_of_ble_eq_true rfl) rfl (fun γ hγ hnm X Y => ?_)
  subst hγ
  have X : gX o γ cX7_refuse 2 RX7 := X
  refine g_aload_0 (pc := 0) X dX7_refuse_0 ?_
  refine g_iload_1 (pc := 1) X dX7_refuse_1 ?_
  refine g_putI_w (pc := 2) X dX7_refuse_2 fl_X7_42 rfl (by decide) rfl rfl hR h (fun s1 hR h => ?_)
  refine g_aload_0 (pc := 5) X dX7_refuse_5 ?_
  refine g_aload_0 (pc := 6) X dX7_refuse_6 ?_
  refine g_getRf (pc := 7) X dX7_refuse_7 fl_X7_29 rfl (by decide) rfl hR rfl ?_
  refine g_aload_0 (pc := 10) X dX7_refuse_10 ?_
  refine g_getI (pc := 11) X dX7_refuse_11 rfl (by decide) fl_X7_48 (Or.inl rfl) ?_
  refine g_iaload_w (pc := 14) X dX7_refuse_14 rfl (by decide) h (fun x2 h => ?_)
  refine g_putI_w (pc := 15) X dX7_refuse_15 fl_X7_9 rfl (by decide) rfl rfl hR h (fun s3 hR h => ?_)
  refine g_iconst (pc := 18) X dX7_refuse_18 kiconst_0 ?_
  exact g_zreturn (pc := 19) X Y dX7_refuse_19 (by first | exact Or.inl rfl | exact Or.inr rfl) (Nat.le_of_ble_eq_true rfl) (Nat.le_of_ble_eq_true rfl) ⟨_, rfl, hR, h⟩
def W_X7_advance  (Q : gSt → Prop) (σ : gSt) : Prop := (((σ.1 4 8) = ((-18 : Int32)) → (Q σ)) ∧ (¬ (σ.1 4 8) = ((-18 : Int32)) → (fI σ 4 9 ((σ.1 4 9) + (nI 1)) (fun s2 => rI s2 13 401 (s2.1 4 9) (fun x3 => fI s2 4 8 x3 (fun s4 => Q s4))))))
set_option maxHeartbeats 4000000 in
theorem t_X7_advance {o : gOm} {l : Launch} {b : Bool}   {σ : gSt} (hR : σ.2.2 = gRf b)  {Q : gSt → Prop} (h : W_X7_advance  Q σ) : Sp o l mX7_advance 1 0 0 [.ref (ad o 4)] 116 116 σ (pV (fun s => s.2.2 = gRf b ∧ Q s)) := by
  unfold W_X7_advance at h
  refine Sp.of (ls0 := [some (.ref (ad o 4))]) miX7_advance rfl (Nat.le_of_ble_eq_true rfl) rfl (fun γ hγ hnm X Y => ?_)
  subst hγ
  have X : gX o γ cX7_advance 1 RX7 := X
  refine g_aload_0 (pc := 0) X dX7_advance_0 ?_
  refine g_getI (pc := 1) X dX7_advance_1 rfl (by decide) fl_X7_51 (Or.inl rfl) ?_
  refine g_bipush (pc := 4) X dX7_advance_4 kbipush_m18 ?_
  refine g_icmp_eq (pc := 6) X dX7_advance_6 (tgt := 32) (by decide) (fun q1 => ?_) (fun q1 => ?_)
  · replace h := h.1 q1
    exact g_return (pc := 32) X Y dX7_advance_32 (Nat.le_of_ble_eq_true rfl) (Nat.le_of_ble_eq_true rfl) ⟨rfl, hR, h⟩
  · replace h := h.2 q1
    refine g_aload_0 (pc := 9) X dX7_advance_9 ?_
    refine g_dup (pc := 10) X dX7_advance_10 rfl ?_
    refine g_getI (pc := 11) X dX7_advance_11 rfl (by decide) fl_X7_48 (Or.inl rfl) ?_
    refine g_iconst (pc := 14) X dX7_advance_14 kiconst_1 ?_
    refine g_iadd (pc := 15) X dX7_advance_15 ?_
    refine g_putI_w (pc := 16) X dX7_advance_16 fl_X7_48 rfl (by decide) rfl rfl hR h (fun s2 hR h => ?_)
    refine g_aload_0 (pc := 19) X dX7_advance_19 ?_
    refine g_aload_0 (pc := 20) X dX7_advance_20 ?_
    refine g_getRf (pc := 21) X dX7_advance_21 fl_X7_26 rfl (by decide) rfl hR rfl ?_
    refine g_aload_0 (pc := 24) X dX7_advance_24 ?_
    refine g_getI (pc := 25) X dX7_advance_25 rfl (by decide) fl_X7_48 (Or.inl rfl) ?_
    refine g_iaload_w (pc := 28) X dX7_advance_28 rfl (by decide) h (fun x3 h => ?_)
    refine g_putI_w (pc := 29) X dX7_advance_29 fl_X7_51 rfl (by decide) rfl rfl hR h (fun s4 hR h => ?_)
    exact g_return (pc := 32) X Y dX7_advance_32 (Nat.le_of_ble_eq_true rfl) (Nat.le_of_ble_eq_true rfl) ⟨rfl, hR, h⟩
def W_X7_emit (b : Bool) (p0 : Int32) (Q : Int32 → gSt → Prop) (σ : gSt) : Prop := rI σ 15 401 (σ.1 4 9) (fun x1 => W_X9_emit ((kD b)) p0 x1 (fun s2 => Q (nI 1) s2) σ)
set_option maxHeartbeats 4000000 in
theorem t_X7_emit {o : gOm} {l : Launch} {b : Bool}   {σ : gSt} (hR : σ.2.2 = gRf b) {p0 : Int32} {Q : Int32 → gSt → Prop} (h : W_X7_emit b p0 Q σ) : Sp o l mX7_emit 2 0 0 [.ref (ad o 4), .int p0] 116 116 σ (pI (fun x s => s.2.2 = gRf b ∧ Q x s)) := by
  cases b
  · unfold W_X7_emit at h
    refine Sp.of (ls0 := [some (.ref (ad o 4)), some (.int p0)]) miX7_emit rfl (Nat.le_of_ble_eq_true rfl) rfl (fun γ hγ hnm X Y => ?_)
    subst hγ
    have X : gX o γ cX7_emit 2 RX7 := X
    refine g_aload_0 (pc := 0) X dX7_emit_0 ?_
    refine g_getRf (pc := 1) X dX7_emit_1 fl_X7_18 rfl (by decide) rfl hR rfl ?_
    refine g_iload_1 (pc := 4) X dX7_emit_4 ?_
    refine g_aload_0 (pc := 5) X dX7_emit_5 ?_
    refine g_getRf (pc := 6) X dX7_emit_6 fl_X7_32 rfl (by decide) rfl hR rfl ?_
    refine g_aload_0 (pc := 9) X dX7_emit_9 ?_
    refine g_getI (pc := 10) X dX7_emit_10 rfl (by decide) fl_X7_48 (Or.inl rfl) ?_
    refine g_iaload_w (pc := 13) X dX7_emit_13 rfl (by decide) h (fun x1 h => ?_)
    refine g_callV_V (pc := 14) X Y dX7_emit_14 miX9_emit li_X7_135 (t_X9_emit hR (by decide) h) rfl (by decide) rfl ⟨_, rfl⟩ rfl ⟨Nat.le_of_ble_eq_true rfl, Nat.le_of_ble_eq_true rfl⟩ (Nat.le_of_ble_eq_true rfl) (Nat.le_of_ble_eq_true rfl) rfl (by exact Nat.le_of_ble_eq_true rfl) (fun s2 hp => ?_)
    obtain ⟨hR, h⟩ := hp
    refine g_iconst (pc := 17) X dX7_emit_17 kiconst_1 ?_
    exact g_zreturn (pc := 18) X Y dX7_emit_18 (by first | exact Or.inl rfl | exact Or.inr rfl) (Nat.le_of_ble_eq_true rfl) (Nat.le_of_ble_eq_true rfl) ⟨_, rfl, hR, h⟩
  · unfold W_X7_emit at h
    refine Sp.of (ls0 := [some (.ref (ad o 4)), some (.int p0)]) miX7_emit rfl (Nat.le_of_ble_eq_true rfl) rfl (fun γ hγ hnm X Y => ?_)
    subst hγ
    have X : gX o γ cX7_emit 2 RX7 := X
    refine g_aload_0 (pc := 0) X dX7_emit_0 ?_
    refine g_getRf (pc := 1) X dX7_emit_1 fl_X7_18 rfl (by decide) rfl hR rfl ?_
    refine g_iload_1 (pc := 4) X dX7_emit_4 ?_
    refine g_aload_0 (pc := 5) X dX7_emit_5 ?_
    refine g_getRf (pc := 6) X dX7_emit_6 fl_X7_32 rfl (by decide) rfl hR rfl ?_
    refine g_aload_0 (pc := 9) X dX7_emit_9 ?_
    refine g_getI (pc := 10) X dX7_emit_10 rfl (by decide) fl_X7_48 (Or.inl rfl) ?_
    refine g_iaload_w (pc := 13) X dX7_emit_13 rfl (by decide) h (fun x1 h => ?_)
    refine g_callV_V (pc := 14) X Y dX7_emit_14 miX9_emit li_X7_135 (t_X9_emit hR (by decide) h) rfl (by decide) rfl ⟨_, rfl⟩ rfl ⟨Nat.le_of_ble_eq_true rfl, Nat.le_of_ble_eq_true rfl⟩ (Nat.le_of_ble_eq_true rfl) (Nat.le_of_ble_eq_true rfl) rfl (by exact Nat.le_of_ble_eq_true rfl) (fun s2 hp => ?_)
    obtain ⟨hR, h⟩ := hp
    refine g_iconst (pc := 17) X dX7_emit_17 kiconst_1 ?_
    exact g_zreturn (pc := 18) X Y dX7_emit_18 (by first | exact Or.inl rfl | exact Or.inr rfl) (Nat.le_of_ble_eq_true rfl) (Nat.le_of_ble_eq_true rfl) ⟨_, rfl, hR, h⟩
def W_X7_pass (p0 : Int32) (Q : Int32 → gSt → Prop) (σ : gSt) : Prop := (((σ.1 4 8) = p0 → (W_X7_advance (fun s2 => Q (nI 1) s2) σ)) ∧ (¬ (σ.1 4 8) = p0 → (W_X7_refuse (nI 1) (fun x3 s4 => ((x3 = 0 ∨ x3 = 1) ∧ Q x3 s4)) σ)))
set_option maxHeartbeats 4000000 in
theorem t_X7_pass {o : gOm} {l : Launch} {b : Bool}   {σ : gSt} (hR : σ.2.2 = gRf b) {p0 : Int32} {Q : Int32 → gSt → Prop} (h : W_X7_pass p0 Q σ) : Sp o l mX7_pass 2 0 0 [.ref (ad o 4), .int p0] 116 116 σ (pI (fun x s => s.2.2 = gRf b ∧ Q x s)) := by
  unfold W_X7_pass at h
  refine Sp.of (ls0 := [some (.ref (ad o 4)), some (.int p0)]) miX7_pass rfl (Nat.le_of_ble_eq_true rfl) rfl (fun γ hγ hnm X Y => ?_)
  subst hγ
  have X : gX o γ cX7_pass 2 RX7 := X
  refine g_aload_0 (pc := 0) X dX7_pass_0 ?_
  refine g_getI (pc := 1) X dX7_pass_1 rfl (by decide) fl_X7_51 (Or.inl rfl) ?_
  refine g_iload_1 (pc := 4) X dX7_pass_4 ?_
  refine g_icmp_eq (pc := 5) X dX7_pass_5 (tgt := 14) (by decide) (fun q1 => ?_) (fun q1 => ?_)
  · replace h := h.1 q1
    refine g_aload_0 (pc := 14) X dX7_pass_14 ?_
    refine g_callV_V (pc := 15) X Y dX7_pass_15 miX7_advance li_X7_129 (t_X7_advance hR  h) rfl (by decide) rfl ⟨_, rfl⟩ rfl ⟨Nat.le_of_ble_eq_true rfl, Nat.le_of_ble_eq_true rfl⟩ (Nat.le_of_ble_eq_true rfl) (Nat.le_of_ble_eq_true rfl) rfl (by exact Nat.le_of_ble_eq_true rfl) (fun s2 hp => ?_)
    obtain ⟨hR, h⟩ := hp
    refine g_iconst (pc := 18) X dX7_pass_18 kiconst_1 ?_
    exact g_zreturn (pc := 19) X Y dX7_pass_19 (by first | exact Or.inl rfl | exact Or.inr rfl) (Nat.le_of_ble_eq_true rfl) (Nat.le_of_ble_eq_true rfl) ⟨_, rfl, hR, h⟩
  · replace h := h.2 q1
    refine g_aload_0 (pc := 8) X dX7_pass_8 ?_
    refine g_iconst (pc := 9) X dX7_pass_9 kiconst_1 ?_
    refine g_callV_I (pc := 10) X Y dX7_pass_10 miX7_refuse li_X7_126 (t_X7_refuse hR  h) rfl (by decide) rfl ⟨_, rfl⟩ rfl ⟨Nat.le_of_ble_eq_true rfl, Nat.le_of_ble_eq_true rfl⟩ (Nat.le_of_ble_eq_true rfl) (Nat.le_of_ble_eq_true rfl) rfl (by exact Nat.le_of_ble_eq_true rfl) (fun x3 s4 hp => ?_)
    obtain ⟨hR, h⟩ := hp
    exact g_zreturn (pc := 13) X Y dX7_pass_13 h.1 (Nat.le_of_ble_eq_true rfl) (Nat.le_of_ble_eq_true rfl) ⟨_, rfl, hR, h.2⟩
def W_X7_open (p0 : Int32) (p1 : Int32) (Q : Int32 → gSt → Prop) (σ : gSt) : Prop := ∀ J1 : Prop, ((W_X7_pass p0 (fun x2 s3 => ((x2 = 0 ∨ x2 = 1) ∧ Q x2 s3)) σ) → J1) → (((σ.1 4 8) = p0 → (((p1 < (nI 6) → J1) ∧ (¬ p1 < (nI 6) → (W_X7_refuse (nI 3) (fun x6 s7 => ((x6 = 0 ∨ x6 = 1) ∧ Q x6 s7)) σ))))) ∧ (¬ (σ.1 4 8) = p0 → J1))
set_option maxHeartbeats 4000000 in
theorem t_X7_open {o : gOm} {l : Launch} {b : Bool}   {σ : gSt} (hR : σ.2.2 = gRf b) {p0 : Int32} {p1 : Int32} {Q : Int32 → gSt → Prop} (h : W_X7_open p0 p1 Q σ) : Sp o l mX7_open 3 0 0 [.ref (ad o 4), .int p0, .int p1] 116 116 σ (pI (fun x s => s.2.2 = gRf b ∧ Q x s)) := by
  unfold W_X7_open at h
  refine Sp.of (ls0 := [some (.ref (ad o 4)), some (.int p0), some (.int p1)]) miX7_open rfl (Nat.le_of_ble_eq_true rfl) rfl (fun γ hγ hnm X Y => ?_)
  subst hγ
  have X : gX o γ cX7_open 3 RX7 := X
  refine g_aload_0 (pc := 0) X dX7_open_0 ?_
  refine g_getI (pc := 1) X dX7_open_1 rfl (by decide) fl_X7_51 (Or.inl rfl) ?_
  refine g_iload_1 (pc := 4) X dX7_open_4 ?_
  replace h := h (G o γ 0 0 116 σ 20 [some (.ref (ad o 4)), some (.int p0), none] []) (by
      intro  h
      refine g_aload_0 (pc := 20) X dX7_open_20 ?_
      refine g_iload_1 (pc := 21) X dX7_open_21 ?_
      refine g_callV_I (pc := 22) X Y dX7_open_22 miX7_pass li_X7_132 (t_X7_pass hR  h) rfl (by decide) rfl ⟨_, rfl⟩ rfl ⟨Nat.le_of_ble_eq_true rfl, Nat.le_of_ble_eq_true rfl⟩ (Nat.le_of_ble_eq_true rfl) (Nat.le_of_ble_eq_true rfl) rfl (by exact Nat.le_of_ble_eq_true rfl) (fun x2 s3 hp => ?_)
      obtain ⟨hR, h⟩ := hp
      exact g_zreturn (pc := 25) X Y dX7_open_25 h.1 (Nat.le_of_ble_eq_true rfl) (Nat.le_of_ble_eq_true rfl) ⟨_, rfl, hR, h.2⟩)
  refine g_icmp_ne (pc := 5) X dX7_open_5 (tgt := 20) (by decide) (fun q4 => ?_) (fun q4 => ?_)
  · replace h := h.2 q4
    exact g_drop (by simp [lsub]) (h)
  · replace h := h.1 q4
    refine g_iload_2 (pc := 8) X dX7_open_8 ?_
    refine g_bipush (pc := 9) X dX7_open_9 kbipush_6 ?_
    refine g_icmp_lt (pc := 11) X dX7_open_11 (tgt := 20) (by decide) (fun q5 => ?_) (fun q5 => ?_)
    · replace h := h.1 q5
      exact g_drop (by simp [lsub]) (h)
    · replace h := h.2 q5
      refine g_aload_0 (pc := 14) X dX7_open_14 ?_
      refine g_iconst (pc := 15) X dX7_open_15 kiconst_3 ?_
      refine g_callV_I (pc := 16) X Y dX7_open_16 miX7_refuse li_X7_126 (t_X7_refuse hR  h) rfl (by decide) rfl ⟨_, rfl⟩ rfl ⟨Nat.le_of_ble_eq_true rfl, Nat.le_of_ble_eq_true rfl⟩ (Nat.le_of_ble_eq_true rfl) (Nat.le_of_ble_eq_true rfl) rfl (by exact Nat.le_of_ble_eq_true rfl) (fun x6 s7 hp => ?_)
      obtain ⟨hR, h⟩ := hp
      exact g_zreturn (pc := 19) X Y dX7_open_19 h.1 (Nat.le_of_ble_eq_true rfl) (Nat.le_of_ble_eq_true rfl) ⟨_, rfl, hR, h.2⟩
def L_X7_readProduct_12 (b : Bool) (R_X7_readProduct : Int32 → (Int32 → gSt → Prop) → gSt → Prop) (R_X7_readSum : Int32 → (Int32 → gSt → Prop) → gSt → Prop) (R_X7_readUnit : Int32 → (Int32 → gSt → Prop) → gSt → Prop) (Q : Int32 → gSt → Prop) (c4 : Int32) (K : gSt → Prop) : Nat → Int32 → gSt → Prop
  | 0, _, _ => False
  | n12 + 1, v5, s6 => (((nI 400) ≤ v5 → (K s6)) ∧ (¬ (nI 400) ≤ v5 → (∀ J9 : Prop, ((∀ J11 : Int32 → Prop, (∀ x10, (W_X7_advance (fun s12 => R_X7_readUnit c4 (fun x13 s14 => ((x13 = 0 → (Q (nI 0) s14)) ∧ (¬ x13 = 0 → (W_X7_emit b x10 (fun x16 s17 => L_X7_readProduct_12 b R_X7_readProduct R_X7_readSum R_X7_readUnit Q c4 K n12 (v5 + nI 1) s17) s14)))) s12) s6) → J11 x10) → (((s6.1 4 8) = (nI 42) → (J11 (nI 10))) ∧ (¬ (s6.1 4 8) = (nI 42) → (J11 (nI 11))))) → J9) → (((s6.1 4 8) = (nI 42) → J9) ∧ (¬ (s6.1 4 8) = (nI 42) → ((((s6.1 4 8) = (nI 47) → J9) ∧ (¬ (s6.1 4 8) = (nI 47) → (K s6)))))))))
def S_X7_readProduct (b : Bool) (R_X7_readProduct : Int32 → (Int32 → gSt → Prop) → gSt → Prop) (R_X7_readSum : Int32 → (Int32 → gSt → Prop) → gSt → Prop) (R_X7_readUnit : Int32 → (Int32 → gSt → Prop) → gSt → Prop) (p0 : Int32) (Q : Int32 → gSt → Prop) (σ : gSt) : Prop := R_X7_readUnit p0 (fun x1 s2 => ((x1 = 0 → (Q (nI 0) s2)) ∧ (¬ x1 = 0 → (∃ m12, L_X7_readProduct_12 b R_X7_readProduct R_X7_readSum R_X7_readUnit Q p0 (fun s22 => Q (nI 1) s22) m12 (nI 0) s2)))) σ
set_option maxHeartbeats 4000000 in
theorem ts_X7_readProduct {o : gOm} {l : Launch} {d1 : Nat} {b : Bool} {R_X7_readProduct : Int32 → (Int32 → gSt → Prop) → gSt → Prop} {R_X7_readSum : Int32 → (Int32 → gSt → Prop) → gSt → Prop} {R_X7_readUnit : Int32 → (Int32 → gSt → Prop) → gSt → Prop} (hR_X7_readProduct : ∀ {σ : gSt} (_ : σ.2.2 = gRf b) {a0 : Int32} {Q : Int32 → gSt → Prop} (_ : R_X7_readProduct a0 Q σ), Sp o l mX7_readProduct d1 0 0 [.ref (ad o 4), .int a0] 116 116 σ (pI (fun x s => s.2.2 = gRf b ∧ Q x s))) (hR_X7_readSum : ∀ {σ : gSt} (_ : σ.2.2 = gRf b) {a0 : Int32} {Q : Int32 → gSt → Prop} (_ : R_X7_readSum a0 Q σ), Sp o l mX7_readSum d1 0 0 [.ref (ad o 4), .int a0] 116 116 σ (pI (fun x s => s.2.2 = gRf b ∧ Q x s))) (hR_X7_readUnit : ∀ {σ : gSt} (_ : σ.2.2 = gRf b) {a0 : Int32} {Q : Int32 → gSt → Prop} (_ : R_X7_readUnit a0 Q σ), Sp o l mX7_readUnit d1 0 0 [.ref (ad o 4), .int a0] 116 116 σ (pI (fun x s => s.2.2 = gRf b ∧ Q x s))) (hd1 : 2 ≤ d1) {σ : gSt} (hR : σ.2.2 = gRf b) {p0 : Int32} {Q : Int32 → gSt → Prop} (h : S_X7_readProduct b R_X7_readProduct R_X7_readSum R_X7_readUnit p0 Q σ) : Sp o l mX7_readProduct (d1 + 1) 0 0 [.ref (ad o 4), .int p0] 116 116 σ (pI (fun x s => s.2.2 = gRf b ∧ Q x s)) := by
  unfold S_X7_readProduct at h
  refine Sp.of (ls0 := [some (.ref (ad o 4)), some (.int p0), none, none]) miX7_readProduct rfl (Nat.le_of_ble_eq_true rfl) rfl (fun γ hγ hnm X Y => ?_)
  subst hγ
  have X : gX o γ cX7_readProduct 4 RX7 := X
  refine g_aload_0 (pc := 0) X dX7_readProduct_0 ?_
  refine g_iload_1 (pc := 1) X dX7_readProduct_1 ?_
  refine g_callV_I (pc := 2) X Y dX7_readProduct_2 miX7_readUnit li_X7_162 (hR_X7_readUnit hR  h) rfl (by decide) rfl ⟨_, rfl⟩ rfl ⟨by omega, by show 8 + (3 + 11) + 40 * d1 ≤ 40 * (d1 + 1); omega⟩ (Nat.le_of_ble_eq_true rfl) (Nat.le_of_ble_eq_true rfl) rfl (by exact Nat.le_of_ble_eq_true rfl) (fun x1 s2 hp => ?_)
  obtain ⟨hR, h⟩ := hp
  refine g_if_ne (pc := 5) X dX7_readProduct_5 (tgt := 10) (by decide) (fun q3 => ?_) (fun q3 => ?_)
  · replace h := h.2 q3
    refine g_iconst (pc := 10) X dX7_readProduct_10 kiconst_0 ?_
    refine g_istore_2 (pc := 11) X dX7_readProduct_11 (by decide) rfl ?_
    obtain ⟨n21, h⟩ := h
    have hL : ∀ (c4 : Int32) (K : gSt → Prop) (_ : ∀  (s7 : gSt), s7.2.2 = gRf b → K s7 → G o γ 0 0 116 s7 80 [some (.ref (ad o 4)), some (.int c4), none, none] []) (n : Nat) (v5 : Int32) (s6 : gSt), s6.2.2 = gRf b → L_X7_readProduct_12 b R_X7_readProduct R_X7_readSum R_X7_readUnit Q c4 K n v5 s6 → G o γ 0 0 116 s6 12 [some (.ref (ad o 4)), some (.int c4), some (.int v5), none] [] := by
      intro c4 K hK n
      induction n with
      | zero => intro v5 s6 hR h; exact False.elim h
      | succ n ih =>
        intro v5 s6 hR h
        rw [L_X7_readProduct_12] at h
        refine g_iload_2 (pc := 12) X dX7_readProduct_12 ?_
        refine g_sipush (pc := 13) X dX7_readProduct_13 ksipush_400 ?_
        refine g_icmp_ge (pc := 16) X dX7_readProduct_16 (tgt := 80) (by decide) (fun q8 => ?_) (fun q8 => ?_)
        · replace h := h.1 q8
          exact g_drop (by simp [lsub]) (hK s6 hR h)
        · replace h := h.2 q8
          refine g_aload_0 (pc := 19) X dX7_readProduct_19 ?_
          refine g_getI (pc := 20) X dX7_readProduct_20 rfl (by decide) fl_X7_51 (Or.inl rfl) ?_
          refine g_bipush (pc := 23) X dX7_readProduct_23 kbipush_42 ?_
          replace h := h (G o γ 0 0 116 s6 37 [some (.ref (ad o 4)), some (.int c4), some (.int v5), none] []) (by
              intro  h
              refine g_aload_0 (pc := 37) X dX7_readProduct_37 ?_
              refine g_getI (pc := 38) X dX7_readProduct_38 rfl (by decide) fl_X7_51 (Or.inl rfl) ?_
              refine g_bipush (pc := 41) X dX7_readProduct_41 kbipush_42 ?_
              replace h := h (fun x10 => G o γ 0 0 116 s6 53 [some (.ref (ad o 4)), some (.int c4), some (.int v5), none] [.int x10]) (by
                  intro x10 h
                  refine g_istore_3 (pc := 53) X dX7_readProduct_53 (by decide) rfl ?_
                  refine g_aload_0 (pc := 54) X dX7_readProduct_54 ?_
                  refine g_callV_V (pc := 55) X Y dX7_readProduct_55 miX7_advance li_X7_129 (t_X7_advance hR  h) rfl (by decide) rfl ⟨_, rfl⟩ rfl ⟨by omega, by show 8 + (1 + 11) + 40 * 1 ≤ 40 * (d1 + 1); omega⟩ (Nat.le_of_ble_eq_true rfl) (Nat.le_of_ble_eq_true rfl) rfl (by exact Nat.le_of_ble_eq_true rfl) (fun s12 hp => ?_)
                  obtain ⟨hR, h⟩ := hp
                  refine g_aload_0 (pc := 58) X dX7_readProduct_58 ?_
                  refine g_iload_1 (pc := 59) X dX7_readProduct_59 ?_
                  refine g_callV_I (pc := 60) X Y dX7_readProduct_60 miX7_readUnit li_X7_162 (hR_X7_readUnit hR  h) rfl (by decide) rfl ⟨_, rfl⟩ rfl ⟨by omega, by show 8 + (3 + 11) + 40 * d1 ≤ 40 * (d1 + 1); omega⟩ (Nat.le_of_ble_eq_true rfl) (Nat.le_of_ble_eq_true rfl) rfl (by exact Nat.le_of_ble_eq_true rfl) (fun x13 s14 hp => ?_)
                  obtain ⟨hR, h⟩ := hp
                  refine g_if_ne (pc := 63) X dX7_readProduct_63 (tgt := 68) (by decide) (fun q15 => ?_) (fun q15 => ?_)
                  · replace h := h.2 q15
                    refine g_aload_0 (pc := 68) X dX7_readProduct_68 ?_
                    refine g_iload_3 (pc := 69) X dX7_readProduct_69 ?_
                    refine g_callV_I (pc := 70) X Y dX7_readProduct_70 miX7_emit li_X7_160 (t_X7_emit hR  h) rfl (by decide) rfl ⟨_, rfl⟩ rfl ⟨by omega, by show 8 + (2 + 11) + 40 * 2 ≤ 40 * (d1 + 1); omega⟩ (Nat.le_of_ble_eq_true rfl) (Nat.le_of_ble_eq_true rfl) rfl (by exact Nat.le_of_ble_eq_true rfl) (fun x16 s17 hp => ?_)
                    obtain ⟨hR, h⟩ := hp
                    refine g_pop (pc := 73) X dX7_readProduct_73 rfl ?_
                    refine g_iinc_2 (pc := 74) X dX7_readProduct_74 (v := v5 + nI 1) rfl (by decide) rfl ?_
                    refine g_goto (pc := 77) X dX7_readProduct_77 (tgt := 12) (by decide) ?_
                    exact g_drop (by simp [lsub]) (ih (v5 + nI 1) s17 hR h)
                  · replace h := h.1 q15
                    refine g_iconst (pc := 66) X dX7_readProduct_66 kiconst_0 ?_
                    exact g_zreturn (pc := 67) X Y dX7_readProduct_67 (by first | exact Or.inl rfl | exact Or.inr rfl) (Nat.le_of_ble_eq_true rfl) (Nat.le_of_ble_eq_true rfl) ⟨_, rfl, hR, h⟩)
              refine g_icmp_ne (pc := 43) X dX7_readProduct_43 (tgt := 51) (by decide) (fun q18 => ?_) (fun q18 => ?_)
              · replace h := h.2 q18
                refine g_bipush (pc := 51) X dX7_readProduct_51 kbipush_11 ?_
                exact h
              · replace h := h.1 q18
                refine g_bipush (pc := 46) X dX7_readProduct_46 kbipush_10 ?_
                refine g_goto (pc := 48) X dX7_readProduct_48 (tgt := 53) (by decide) ?_
                exact h)
          refine g_icmp_eq (pc := 25) X dX7_readProduct_25 (tgt := 37) (by decide) (fun q19 => ?_) (fun q19 => ?_)
          · replace h := h.1 q19
            exact h
          · replace h := h.2 q19
            refine g_aload_0 (pc := 28) X dX7_readProduct_28 ?_
            refine g_getI (pc := 29) X dX7_readProduct_29 rfl (by decide) fl_X7_51 (Or.inl rfl) ?_
            refine g_bipush (pc := 32) X dX7_readProduct_32 kbipush_47 ?_
            refine g_icmp_ne (pc := 34) X dX7_readProduct_34 (tgt := 80) (by decide) (fun q20 => ?_) (fun q20 => ?_)
            · replace h := h.2 q20
              exact g_drop (by simp [lsub]) (hK s6 hR h)
            · replace h := h.1 q20
              exact h
    refine hL p0 _ (fun s22 hR h => ?_) n21 (nI 0) s2 hR h
    · refine g_iconst (pc := 80) X dX7_readProduct_80 kiconst_1 ?_
      exact g_zreturn (pc := 81) X Y dX7_readProduct_81 (by first | exact Or.inl rfl | exact Or.inr rfl) (Nat.le_of_ble_eq_true rfl) (Nat.le_of_ble_eq_true rfl) ⟨_, rfl, hR, h⟩
  · replace h := h.1 q3
    refine g_iconst (pc := 8) X dX7_readProduct_8 kiconst_0 ?_
    exact g_zreturn (pc := 9) X Y dX7_readProduct_9 (by first | exact Or.inl rfl | exact Or.inr rfl) (Nat.le_of_ble_eq_true rfl) (Nat.le_of_ble_eq_true rfl) ⟨_, rfl, hR, h⟩
def L_X7_readSum_12 (b : Bool) (R_X7_readProduct : Int32 → (Int32 → gSt → Prop) → gSt → Prop) (R_X7_readSum : Int32 → (Int32 → gSt → Prop) → gSt → Prop) (R_X7_readUnit : Int32 → (Int32 → gSt → Prop) → gSt → Prop) (Q : Int32 → gSt → Prop) (c4 : Int32) (K : gSt → Prop) : Nat → Int32 → gSt → Prop
  | 0, _, _ => False
  | n12 + 1, v5, s6 => (((nI 400) ≤ v5 → (K s6)) ∧ (¬ (nI 400) ≤ v5 → (∀ J9 : Prop, ((∀ J11 : Int32 → Prop, (∀ x10, (W_X7_advance (fun s12 => R_X7_readProduct c4 (fun x13 s14 => ((x13 = 0 → (Q (nI 0) s14)) ∧ (¬ x13 = 0 → (W_X7_emit b x10 (fun x16 s17 => L_X7_readSum_12 b R_X7_readProduct R_X7_readSum R_X7_readUnit Q c4 K n12 (v5 + nI 1) s17) s14)))) s12) s6) → J11 x10) → (((s6.1 4 8) = (nI 43) → (J11 (nI 8))) ∧ (¬ (s6.1 4 8) = (nI 43) → (J11 (nI 9))))) → J9) → (((s6.1 4 8) = (nI 43) → J9) ∧ (¬ (s6.1 4 8) = (nI 43) → ((((s6.1 4 8) = (nI 45) → J9) ∧ (¬ (s6.1 4 8) = (nI 45) → (K s6)))))))))
def S_X7_readSum (b : Bool) (R_X7_readProduct : Int32 → (Int32 → gSt → Prop) → gSt → Prop) (R_X7_readSum : Int32 → (Int32 → gSt → Prop) → gSt → Prop) (R_X7_readUnit : Int32 → (Int32 → gSt → Prop) → gSt → Prop) (p0 : Int32) (Q : Int32 → gSt → Prop) (σ : gSt) : Prop := R_X7_readProduct p0 (fun x1 s2 => ((x1 = 0 → (Q (nI 0) s2)) ∧ (¬ x1 = 0 → (∃ m12, L_X7_readSum_12 b R_X7_readProduct R_X7_readSum R_X7_readUnit Q p0 (fun s22 => Q (nI 1) s22) m12 (nI 0) s2)))) σ
set_option maxHeartbeats 4000000 in
theorem ts_X7_readSum {o : gOm} {l : Launch} {d1 : Nat} {b : Bool} {R_X7_readProduct : Int32 → (Int32 → gSt → Prop) → gSt → Prop} {R_X7_readSum : Int32 → (Int32 → gSt → Prop) → gSt → Prop} {R_X7_readUnit : Int32 → (Int32 → gSt → Prop) → gSt → Prop} (hR_X7_readProduct : ∀ {σ : gSt} (_ : σ.2.2 = gRf b) {a0 : Int32} {Q : Int32 → gSt → Prop} (_ : R_X7_readProduct a0 Q σ), Sp o l mX7_readProduct d1 0 0 [.ref (ad o 4), .int a0] 116 116 σ (pI (fun x s => s.2.2 = gRf b ∧ Q x s))) (hR_X7_readSum : ∀ {σ : gSt} (_ : σ.2.2 = gRf b) {a0 : Int32} {Q : Int32 → gSt → Prop} (_ : R_X7_readSum a0 Q σ), Sp o l mX7_readSum d1 0 0 [.ref (ad o 4), .int a0] 116 116 σ (pI (fun x s => s.2.2 = gRf b ∧ Q x s))) (hR_X7_readUnit : ∀ {σ : gSt} (_ : σ.2.2 = gRf b) {a0 : Int32} {Q : Int32 → gSt → Prop} (_ : R_X7_readUnit a0 Q σ), Sp o l mX7_readUnit d1 0 0 [.ref (ad o 4), .int a0] 116 116 σ (pI (fun x s => s.2.2 = gRf b ∧ Q x s))) (hd1 : 2 ≤ d1) {σ : gSt} (hR : σ.2.2 = gRf b) {p0 : Int32} {Q : Int32 → gSt → Prop} (h : S_X7_readSum b R_X7_readProduct R_X7_readSum R_X7_readUnit p0 Q σ) : Sp o l mX7_readSum (d1 + 1) 0 0 [.ref (ad o 4), .int p0] 116 116 σ (pI (fun x s => s.2.2 = gRf b ∧ Q x s)) := by
  unfold S_X7_readSum at h
  refine Sp.of (ls0 := [some (.ref (ad o 4)), some (.int p0), none, none]) miX7_readSum rfl (Nat.le_of_ble_eq_true rfl) rfl (fun γ hγ hnm X Y => ?_)
  subst hγ
  have X : gX o γ cX7_readSum 4 RX7 := X
  refine g_aload_0 (pc := 0) X dX7_readSum_0 ?_
  refine g_iload_1 (pc := 1) X dX7_readSum_1 ?_
  refine g_callV_I (pc := 2) X Y dX7_readSum_2 miX7_readProduct li_X7_157 (hR_X7_readProduct hR  h) rfl (by decide) rfl ⟨_, rfl⟩ rfl ⟨by omega, by show 8 + (4 + 11) + 40 * d1 ≤ 40 * (d1 + 1); omega⟩ (Nat.le_of_ble_eq_true rfl) (Nat.le_of_ble_eq_true rfl) rfl (by exact Nat.le_of_ble_eq_true rfl) (fun x1 s2 hp => ?_)
  obtain ⟨hR, h⟩ := hp
  refine g_if_ne (pc := 5) X dX7_readSum_5 (tgt := 10) (by decide) (fun q3 => ?_) (fun q3 => ?_)
  · replace h := h.2 q3
    refine g_iconst (pc := 10) X dX7_readSum_10 kiconst_0 ?_
    refine g_istore_2 (pc := 11) X dX7_readSum_11 (by decide) rfl ?_
    obtain ⟨n21, h⟩ := h
    have hL : ∀ (c4 : Int32) (K : gSt → Prop) (_ : ∀  (s7 : gSt), s7.2.2 = gRf b → K s7 → G o γ 0 0 116 s7 80 [some (.ref (ad o 4)), some (.int c4), none, none] []) (n : Nat) (v5 : Int32) (s6 : gSt), s6.2.2 = gRf b → L_X7_readSum_12 b R_X7_readProduct R_X7_readSum R_X7_readUnit Q c4 K n v5 s6 → G o γ 0 0 116 s6 12 [some (.ref (ad o 4)), some (.int c4), some (.int v5), none] [] := by
      intro c4 K hK n
      induction n with
      | zero => intro v5 s6 hR h; exact False.elim h
      | succ n ih =>
        intro v5 s6 hR h
        rw [L_X7_readSum_12] at h
        refine g_iload_2 (pc := 12) X dX7_readSum_12 ?_
        refine g_sipush (pc := 13) X dX7_readSum_13 ksipush_400 ?_
        refine g_icmp_ge (pc := 16) X dX7_readSum_16 (tgt := 80) (by decide) (fun q8 => ?_) (fun q8 => ?_)
        · replace h := h.1 q8
          exact g_drop (by simp [lsub]) (hK s6 hR h)
        · replace h := h.2 q8
          refine g_aload_0 (pc := 19) X dX7_readSum_19 ?_
          refine g_getI (pc := 20) X dX7_readSum_20 rfl (by decide) fl_X7_51 (Or.inl rfl) ?_
          refine g_bipush (pc := 23) X dX7_readSum_23 kbipush_43 ?_
          replace h := h (G o γ 0 0 116 s6 37 [some (.ref (ad o 4)), some (.int c4), some (.int v5), none] []) (by
              intro  h
              refine g_aload_0 (pc := 37) X dX7_readSum_37 ?_
              refine g_getI (pc := 38) X dX7_readSum_38 rfl (by decide) fl_X7_51 (Or.inl rfl) ?_
              refine g_bipush (pc := 41) X dX7_readSum_41 kbipush_43 ?_
              replace h := h (fun x10 => G o γ 0 0 116 s6 53 [some (.ref (ad o 4)), some (.int c4), some (.int v5), none] [.int x10]) (by
                  intro x10 h
                  refine g_istore_3 (pc := 53) X dX7_readSum_53 (by decide) rfl ?_
                  refine g_aload_0 (pc := 54) X dX7_readSum_54 ?_
                  refine g_callV_V (pc := 55) X Y dX7_readSum_55 miX7_advance li_X7_129 (t_X7_advance hR  h) rfl (by decide) rfl ⟨_, rfl⟩ rfl ⟨by omega, by show 8 + (1 + 11) + 40 * 1 ≤ 40 * (d1 + 1); omega⟩ (Nat.le_of_ble_eq_true rfl) (Nat.le_of_ble_eq_true rfl) rfl (by exact Nat.le_of_ble_eq_true rfl) (fun s12 hp => ?_)
                  obtain ⟨hR, h⟩ := hp
                  refine g_aload_0 (pc := 58) X dX7_readSum_58 ?_
                  refine g_iload_1 (pc := 59) X dX7_readSum_59 ?_
                  refine g_callV_I (pc := 60) X Y dX7_readSum_60 miX7_readProduct li_X7_157 (hR_X7_readProduct hR  h) rfl (by decide) rfl ⟨_, rfl⟩ rfl ⟨by omega, by show 8 + (4 + 11) + 40 * d1 ≤ 40 * (d1 + 1); omega⟩ (Nat.le_of_ble_eq_true rfl) (Nat.le_of_ble_eq_true rfl) rfl (by exact Nat.le_of_ble_eq_true rfl) (fun x13 s14 hp => ?_)
                  obtain ⟨hR, h⟩ := hp
                  refine g_if_ne (pc := 63) X dX7_readSum_63 (tgt := 68) (by decide) (fun q15 => ?_) (fun q15 => ?_)
                  · replace h := h.2 q15
                    refine g_aload_0 (pc := 68) X dX7_readSum_68 ?_
                    refine g_iload_3 (pc := 69) X dX7_readSum_69 ?_
                    refine g_callV_I (pc := 70) X Y dX7_readSum_70 miX7_emit li_X7_160 (t_X7_emit hR  h) rfl (by decide) rfl ⟨_, rfl⟩ rfl ⟨by omega, by show 8 + (2 + 11) + 40 * 2 ≤ 40 * (d1 + 1); omega⟩ (Nat.le_of_ble_eq_true rfl) (Nat.le_of_ble_eq_true rfl) rfl (by exact Nat.le_of_ble_eq_true rfl) (fun x16 s17 hp => ?_)
                    obtain ⟨hR, h⟩ := hp
                    refine g_pop (pc := 73) X dX7_readSum_73 rfl ?_
                    refine g_iinc_2 (pc := 74) X dX7_readSum_74 (v := v5 + nI 1) rfl (by decide) rfl ?_
                    refine g_goto (pc := 77) X dX7_readSum_77 (tgt := 12) (by decide) ?_
                    exact g_drop (by simp [lsub]) (ih (v5 + nI 1) s17 hR h)
                  · replace h := h.1 q15
                    refine g_iconst (pc := 66) X dX7_readSum_66 kiconst_0 ?_
                    exact g_zreturn (pc := 67) X Y dX7_readSum_67 (by first | exact Or.inl rfl | exact Or.inr rfl) (Nat.le_of_ble_eq_true rfl) (Nat.le_of_ble_eq_true rfl) ⟨_, rfl, hR, h⟩)
              refine g_icmp_ne (pc := 43) X dX7_readSum_43 (tgt := 51) (by decide) (fun q18 => ?_) (fun q18 => ?_)
              · replace h := h.2 q18
                refine g_bipush (pc := 51) X dX7_readSum_51 kbipush_9 ?_
                exact h
              · replace h := h.1 q18
                refine g_bipush (pc := 46) X dX7_readSum_46 kbipush_8 ?_
                refine g_goto (pc := 48) X dX7_readSum_48 (tgt := 53) (by decide) ?_
                exact h)
          refine g_icmp_eq (pc := 25) X dX7_readSum_25 (tgt := 37) (by decide) (fun q19 => ?_) (fun q19 => ?_)
          · replace h := h.1 q19
            exact h
          · replace h := h.2 q19
            refine g_aload_0 (pc := 28) X dX7_readSum_28 ?_
            refine g_getI (pc := 29) X dX7_readSum_29 rfl (by decide) fl_X7_51 (Or.inl rfl) ?_
            refine g_bipush (pc := 32) X dX7_readSum_32 kbipush_45 ?_
            refine g_icmp_ne (pc := 34) X dX7_readSum_34 (tgt := 80) (by decide) (fun q20 => ?_) (fun q20 => ?_)
            · replace h := h.2 q20
              exact g_drop (by simp [lsub]) (hK s6 hR h)
            · replace h := h.1 q20
              exact h
    refine hL p0 _ (fun s22 hR h => ?_) n21 (nI 0) s2 hR h
    · refine g_iconst (pc := 80) X dX7_readSum_80 kiconst_1 ?_
      exact g_zreturn (pc := 81) X Y dX7_readSum_81 (by first | exact Or.inl rfl | exact Or.inr rfl) (Nat.le_of_ble_eq_true rfl) (Nat.le_of_ble_eq_true rfl) ⟨_, rfl, hR, h⟩
  · replace h := h.1 q3
    refine g_iconst (pc := 8) X dX7_readSum_8 kiconst_0 ?_
    exact g_zreturn (pc := 9) X Y dX7_readSum_9 (by first | exact Or.inl rfl | exact Or.inr rfl) (Nat.le_of_ble_eq_true rfl) (Nat.le_of_ble_eq_true rfl) ⟨_, rfl, hR, h⟩
def S_X7_readUnit (b : Bool) (R_X7_readProduct : Int32 → (Int32 → gSt → Prop) → gSt → Prop) (R_X7_readSum : Int32 → (Int32 → gSt → Prop) → gSt → Prop) (R_X7_readUnit : Int32 → (Int32 → gSt → Prop) → gSt → Prop) (p0 : Int32) (Q : Int32 → gSt → Prop) (σ : gSt) : Prop := (((σ.1 4 8) = ((-17 : Int32)) → (rI σ 15 401 (σ.1 4 9) (fun x42 => ((x42 ≤ (nI 9999) → (W_X7_emit b (nI 6) (fun x44 s45 => W_X7_advance (fun s46 => Q (nI 1) s46) s45) σ)) ∧ (¬ x42 ≤ (nI 9999) → (W_X7_refuse (nI 2) (fun x47 s48 => ((x47 = 0 ∨ x47 = 1) ∧ Q x47 s48)) σ)))))) ∧ (¬ (σ.1 4 8) = ((-17 : Int32)) → (∀ J2 : Prop, ((∀ J3 : Prop, ((∀ J5 : Int32 → Prop, (∀ x4, (W_X7_advance (fun s6 => W_X7_open (nI 40) p0 (fun x7 s8 => ((x7 = 0 → (Q (nI 0) s8)) ∧ (¬ x7 = 0 → (R_X7_readSum (p0 + (nI 1)) (fun x10 s11 => ((x10 = 0 → (Q (nI 0) s11)) ∧ (¬ x10 = 0 → (W_X7_pass (nI 44) (fun x13 s14 => ((x13 = 0 → (Q (nI 0) s14)) ∧ (¬ x13 = 0 → (R_X7_readSum (p0 + (nI 1)) (fun x16 s17 => ((x16 = 0 → (Q (nI 0) s17)) ∧ (¬ x16 = 0 → (W_X7_pass (nI 41) (fun x19 s20 => ((x19 = 0 → (Q (nI 0) s20)) ∧ (¬ x19 = 0 → (W_X7_emit b x4 (fun x22 s23 => ((x22 = 0 → (Q (nI 0) s23)) ∧ (¬ x22 = 0 → (Q (nI 1) s23)))) s20)))) s17)))) s14)))) s11)))) s8)))) s6) σ) → J5 x4) → (((σ.1 4 8) = ((-7 : Int32)) → (J5 (nI 12))) ∧ (¬ (σ.1 4 8) = ((-7 : Int32)) → (J5 (nI 13))))) → J3) → (((σ.1 4 8) = ((-7 : Int32)) → J3) ∧ (¬ (σ.1 4 8) = ((-7 : Int32)) → ((((σ.1 4 8) = ((-8 : Int32)) → J3) ∧ (¬ (σ.1 4 8) = ((-8 : Int32)) → (W_X7_open (nI 40) p0 (fun x28 s29 => ((x28 = 0 → (Q (nI 0) s29)) ∧ (¬ x28 = 0 → (R_X7_readSum (p0 + (nI 1)) (fun x31 s32 => ((x31 = 0 → (Q (nI 0) s32)) ∧ (¬ x31 = 0 → (W_X7_pass (nI 41) (fun x34 s35 => ((x34 = 0 → (Q (nI 0) s35)) ∧ (¬ x34 = 0 → (Q (nI 1) s35)))) s32)))) s29)))) σ))))))) → J2) → ((((-1 : Int32)) < (σ.1 4 8) → J2) ∧ (¬ ((-1 : Int32)) < (σ.1 4 8) → ((((σ.1 4 8) < ((-6 : Int32)) → J2) ∧ (¬ (σ.1 4 8) < ((-6 : Int32)) → (W_X7_emit b (((-1 : Int32)) - (σ.1 4 8)) (fun x39 s40 => W_X7_advance (fun s41 => Q (nI 1) s41) s40) σ)))))))))
set_option maxHeartbeats 4000000 in
theorem ts_X7_readUnit {o : gOm} {l : Launch} {d1 : Nat} {b : Bool} {R_X7_readProduct : Int32 → (Int32 → gSt → Prop) → gSt → Prop} {R_X7_readSum : Int32 → (Int32 → gSt → Prop) → gSt → Prop} {R_X7_readUnit : Int32 → (Int32 → gSt → Prop) → gSt → Prop} (hR_X7_readProduct : ∀ {σ : gSt} (_ : σ.2.2 = gRf b) {a0 : Int32} {Q : Int32 → gSt → Prop} (_ : R_X7_readProduct a0 Q σ), Sp o l mX7_readProduct d1 0 0 [.ref (ad o 4), .int a0] 116 116 σ (pI (fun x s => s.2.2 = gRf b ∧ Q x s))) (hR_X7_readSum : ∀ {σ : gSt} (_ : σ.2.2 = gRf b) {a0 : Int32} {Q : Int32 → gSt → Prop} (_ : R_X7_readSum a0 Q σ), Sp o l mX7_readSum d1 0 0 [.ref (ad o 4), .int a0] 116 116 σ (pI (fun x s => s.2.2 = gRf b ∧ Q x s))) (hR_X7_readUnit : ∀ {σ : gSt} (_ : σ.2.2 = gRf b) {a0 : Int32} {Q : Int32 → gSt → Prop} (_ : R_X7_readUnit a0 Q σ), Sp o l mX7_readUnit d1 0 0 [.ref (ad o 4), .int a0] 116 116 σ (pI (fun x s => s.2.2 = gRf b ∧ Q x s))) (hd1 : 3 ≤ d1) {σ : gSt} (hR : σ.2.2 = gRf b) {p0 : Int32} {Q : Int32 → gSt → Prop} (h : S_X7_readUnit b R_X7_readProduct R_X7_readSum R_X7_readUnit p0 Q σ) : Sp o l mX7_readUnit (d1 + 1) 0 0 [.ref (ad o 4), .int p0] 116 116 σ (pI (fun x s => s.2.2 = gRf b ∧ Q x s)) := by
  unfold S_X7_readUnit at h
  refine Sp.of (ls0 := [some (.ref (ad o 4)), some (.int p0), none]) miX7_readUnit rfl (Nat.le_of_ble_eq_true rfl) rfl (fun γ hγ hnm X Y => ?_)
  subst hγ
  have X : gX o γ cX7_readUnit 3 RX7 := X
  refine g_aload_0 (pc := 0) X dX7_readUnit_0 ?_
  refine g_getI (pc := 1) X dX7_readUnit_1 rfl (by decide) fl_X7_51 (Or.inl rfl) ?_
  refine g_bipush (pc := 4) X dX7_readUnit_4 kbipush_m17 ?_
  refine g_icmp_ne (pc := 6) X dX7_readUnit_6 (tgt := 43) (by decide) (fun q1 => ?_) (fun q1 => ?_)
  · replace h := h.2 q1
    refine g_aload_0 (pc := 43) X dX7_readUnit_43 ?_
    refine g_getI (pc := 44) X dX7_readUnit_44 rfl (by decide) fl_X7_51 (Or.inl rfl) ?_
    refine g_iconst (pc := 47) X dX7_readUnit_47 kiconst_m1 ?_
    replace h := h (G o γ 0 0 116 σ 77 [some (.ref (ad o 4)), some (.int p0), none] []) (by
        intro  h
        refine g_aload_0 (pc := 77) X dX7_readUnit_77 ?_
        refine g_getI (pc := 78) X dX7_readUnit_78 rfl (by decide) fl_X7_51 (Or.inl rfl) ?_
        refine g_bipush (pc := 81) X dX7_readUnit_81 kbipush_m7 ?_
        replace h := h (G o γ 0 0 116 σ 95 [some (.ref (ad o 4)), some (.int p0), none] []) (by
            intro  h
            refine g_aload_0 (pc := 95) X dX7_readUnit_95 ?_
            refine g_getI (pc := 96) X dX7_readUnit_96 rfl (by decide) fl_X7_51 (Or.inl rfl) ?_
            refine g_bipush (pc := 99) X dX7_readUnit_99 kbipush_m7 ?_
            replace h := h (fun x4 => G o γ 0 0 116 σ 111 [some (.ref (ad o 4)), some (.int p0), none] [.int x4]) (by
                intro x4 h
                refine g_istore_2 (pc := 111) X dX7_readUnit_111 (by decide) rfl ?_
                refine g_aload_0 (pc := 112) X dX7_readUnit_112 ?_
                refine g_callV_V (pc := 113) X Y dX7_readUnit_113 miX7_advance li_X7_129 (t_X7_advance hR  h) rfl (by decide) rfl ⟨_, rfl⟩ rfl ⟨by omega, by show 8 + (1 + 11) + 40 * 1 ≤ 40 * (d1 + 1); omega⟩ (Nat.le_of_ble_eq_true rfl) (Nat.le_of_ble_eq_true rfl) rfl (by exact Nat.le_of_ble_eq_true rfl) (fun s6 hp => ?_)
                obtain ⟨hR, h⟩ := hp
                refine g_aload_0 (pc := 116) X dX7_readUnit_116 ?_
                refine g_bipush (pc := 117) X dX7_readUnit_117 kbipush_40 ?_
                refine g_iload_1 (pc := 119) X dX7_readUnit_119 ?_
                refine g_callV_I (pc := 120) X Y dX7_readUnit_120 miX7_open li_X7_165 (t_X7_open hR  h) rfl (by decide) rfl ⟨_, rfl⟩ rfl ⟨by omega, by show 8 + (3 + 11) + 40 * 3 ≤ 40 * (d1 + 1); omega⟩ (Nat.le_of_ble_eq_true rfl) (Nat.le_of_ble_eq_true rfl) rfl (by exact Nat.le_of_ble_eq_true rfl) (fun x7 s8 hp => ?_)
                obtain ⟨hR, h⟩ := hp
                refine g_if_eq (pc := 123) X dX7_readUnit_123 (tgt := 176) (by decide) (fun q9 => ?_) (fun q9 => ?_)
                · replace h := h.1 q9
                  refine g_iconst (pc := 176) X dX7_readUnit_176 kiconst_0 ?_
                  exact g_zreturn (pc := 177) X Y dX7_readUnit_177 (by first | exact Or.inl rfl | exact Or.inr rfl) (Nat.le_of_ble_eq_true rfl) (Nat.le_of_ble_eq_true rfl) ⟨_, rfl, hR, h⟩
                · replace h := h.2 q9
                  refine g_aload_0 (pc := 126) X dX7_readUnit_126 ?_
                  refine g_iload_1 (pc := 127) X dX7_readUnit_127 ?_
                  refine g_iconst (pc := 128) X dX7_readUnit_128 kiconst_1 ?_
                  refine g_iadd (pc := 129) X dX7_readUnit_129 ?_
                  refine g_callV_I (pc := 130) X Y dX7_readUnit_130 miX7_readSum li_X7_145 (hR_X7_readSum hR  h) rfl (by decide) rfl ⟨_, rfl⟩ rfl ⟨by omega, by show 8 + (4 + 11) + 40 * d1 ≤ 40 * (d1 + 1); omega⟩ (Nat.le_of_ble_eq_true rfl) (Nat.le_of_ble_eq_true rfl) rfl (by exact Nat.le_of_ble_eq_true rfl) (fun x10 s11 hp => ?_)
                  obtain ⟨hR, h⟩ := hp
                  refine g_if_eq (pc := 133) X dX7_readUnit_133 (tgt := 176) (by decide) (fun q12 => ?_) (fun q12 => ?_)
                  · replace h := h.1 q12
                    refine g_iconst (pc := 176) X dX7_readUnit_176 kiconst_0 ?_
                    exact g_zreturn (pc := 177) X Y dX7_readUnit_177 (by first | exact Or.inl rfl | exact Or.inr rfl) (Nat.le_of_ble_eq_true rfl) (Nat.le_of_ble_eq_true rfl) ⟨_, rfl, hR, h⟩
                  · replace h := h.2 q12
                    refine g_aload_0 (pc := 136) X dX7_readUnit_136 ?_
                    refine g_bipush (pc := 137) X dX7_readUnit_137 kbipush_44 ?_
                    refine g_callV_I (pc := 139) X Y dX7_readUnit_139 miX7_pass li_X7_132 (t_X7_pass hR  h) rfl (by decide) rfl ⟨_, rfl⟩ rfl ⟨by omega, by show 8 + (2 + 11) + 40 * 2 ≤ 40 * (d1 + 1); omega⟩ (Nat.le_of_ble_eq_true rfl) (Nat.le_of_ble_eq_true rfl) rfl (by exact Nat.le_of_ble_eq_true rfl) (fun x13 s14 hp => ?_)
                    obtain ⟨hR, h⟩ := hp
                    refine g_if_eq (pc := 142) X dX7_readUnit_142 (tgt := 176) (by decide) (fun q15 => ?_) (fun q15 => ?_)
                    · replace h := h.1 q15
                      refine g_iconst (pc := 176) X dX7_readUnit_176 kiconst_0 ?_
                      exact g_zreturn (pc := 177) X Y dX7_readUnit_177 (by first | exact Or.inl rfl | exact Or.inr rfl) (Nat.le_of_ble_eq_true rfl) (Nat.le_of_ble_eq_true rfl) ⟨_, rfl, hR, h⟩
                    · replace h := h.2 q15
                      refine g_aload_0 (pc := 145) X dX7_readUnit_145 ?_
                      refine g_iload_1 (pc := 146) X dX7_readUnit_146 ?_
                      refine g_iconst (pc := 147) X dX7_readUnit_147 kiconst_1 ?_
                      refine g_iadd (pc := 148) X dX7_readUnit_148 ?_
                      refine g_callV_I (pc := 149) X Y dX7_readUnit_149 miX7_readSum li_X7_145 (hR_X7_readSum hR  h) rfl (by decide) rfl ⟨_, rfl⟩ rfl ⟨by omega, by show 8 + (4 + 11) + 40 * d1 ≤ 40 * (d1 + 1); omega⟩ (Nat.le_of_ble_eq_true rfl) (Nat.le_of_ble_eq_true rfl) rfl (by exact Nat.le_of_ble_eq_true rfl) (fun x16 s17 hp => ?_)
                      obtain ⟨hR, h⟩ := hp
                      refine g_if_eq (pc := 152) X dX7_readUnit_152 (tgt := 176) (by decide) (fun q18 => ?_) (fun q18 => ?_)
                      · replace h := h.1 q18
                        refine g_iconst (pc := 176) X dX7_readUnit_176 kiconst_0 ?_
                        exact g_zreturn (pc := 177) X Y dX7_readUnit_177 (by first | exact Or.inl rfl | exact Or.inr rfl) (Nat.le_of_ble_eq_true rfl) (Nat.le_of_ble_eq_true rfl) ⟨_, rfl, hR, h⟩
                      · replace h := h.2 q18
                        refine g_aload_0 (pc := 155) X dX7_readUnit_155 ?_
                        refine g_bipush (pc := 156) X dX7_readUnit_156 kbipush_41 ?_
                        refine g_callV_I (pc := 158) X Y dX7_readUnit_158 miX7_pass li_X7_132 (t_X7_pass hR  h) rfl (by decide) rfl ⟨_, rfl⟩ rfl ⟨by omega, by show 8 + (2 + 11) + 40 * 2 ≤ 40 * (d1 + 1); omega⟩ (Nat.le_of_ble_eq_true rfl) (Nat.le_of_ble_eq_true rfl) rfl (by exact Nat.le_of_ble_eq_true rfl) (fun x19 s20 hp => ?_)
                        obtain ⟨hR, h⟩ := hp
                        refine g_if_eq (pc := 161) X dX7_readUnit_161 (tgt := 176) (by decide) (fun q21 => ?_) (fun q21 => ?_)
                        · replace h := h.1 q21
                          refine g_iconst (pc := 176) X dX7_readUnit_176 kiconst_0 ?_
                          exact g_zreturn (pc := 177) X Y dX7_readUnit_177 (by first | exact Or.inl rfl | exact Or.inr rfl) (Nat.le_of_ble_eq_true rfl) (Nat.le_of_ble_eq_true rfl) ⟨_, rfl, hR, h⟩
                        · replace h := h.2 q21
                          refine g_aload_0 (pc := 164) X dX7_readUnit_164 ?_
                          refine g_iload_2 (pc := 165) X dX7_readUnit_165 ?_
                          refine g_callV_I (pc := 166) X Y dX7_readUnit_166 miX7_emit li_X7_160 (t_X7_emit hR  h) rfl (by decide) rfl ⟨_, rfl⟩ rfl ⟨by omega, by show 8 + (2 + 11) + 40 * 2 ≤ 40 * (d1 + 1); omega⟩ (Nat.le_of_ble_eq_true rfl) (Nat.le_of_ble_eq_true rfl) rfl (by exact Nat.le_of_ble_eq_true rfl) (fun x22 s23 hp => ?_)
                          obtain ⟨hR, h⟩ := hp
                          refine g_if_eq (pc := 169) X dX7_readUnit_169 (tgt := 176) (by decide) (fun q24 => ?_) (fun q24 => ?_)
                          · replace h := h.1 q24
                            refine g_iconst (pc := 176) X dX7_readUnit_176 kiconst_0 ?_
                            exact g_zreturn (pc := 177) X Y dX7_readUnit_177 (by first | exact Or.inl rfl | exact Or.inr rfl) (Nat.le_of_ble_eq_true rfl) (Nat.le_of_ble_eq_true rfl) ⟨_, rfl, hR, h⟩
                          · replace h := h.2 q24
                            refine g_iconst (pc := 172) X dX7_readUnit_172 kiconst_1 ?_
                            refine g_goto (pc := 173) X dX7_readUnit_173 (tgt := 177) (by decide) ?_
                            exact g_zreturn (pc := 177) X Y dX7_readUnit_177 (by first | exact Or.inl rfl | exact Or.inr rfl) (Nat.le_of_ble_eq_true rfl) (Nat.le_of_ble_eq_true rfl) ⟨_, rfl, hR, h⟩)
            refine g_icmp_ne (pc := 101) X dX7_readUnit_101 (tgt := 109) (by decide) (fun q25 => ?_) (fun q25 => ?_)
            · replace h := h.2 q25
              refine g_bipush (pc := 109) X dX7_readUnit_109 kbipush_13 ?_
              exact h
            · replace h := h.1 q25
              refine g_bipush (pc := 104) X dX7_readUnit_104 kbipush_12 ?_
              refine g_goto (pc := 106) X dX7_readUnit_106 (tgt := 111) (by decide) ?_
              exact h)
        refine g_icmp_eq (pc := 83) X dX7_readUnit_83 (tgt := 95) (by decide) (fun q26 => ?_) (fun q26 => ?_)
        · replace h := h.1 q26
          exact h
        · replace h := h.2 q26
          refine g_aload_0 (pc := 86) X dX7_readUnit_86 ?_
          refine g_getI (pc := 87) X dX7_readUnit_87 rfl (by decide) fl_X7_51 (Or.inl rfl) ?_
          refine g_bipush (pc := 90) X dX7_readUnit_90 kbipush_m8 ?_
          refine g_icmp_ne (pc := 92) X dX7_readUnit_92 (tgt := 178) (by decide) (fun q27 => ?_) (fun q27 => ?_)
          · replace h := h.2 q27
            refine g_aload_0 (pc := 178) X dX7_readUnit_178 ?_
            refine g_bipush (pc := 179) X dX7_readUnit_179 kbipush_40 ?_
            refine g_iload_1 (pc := 181) X dX7_readUnit_181 ?_
            refine g_callV_I (pc := 182) X Y dX7_readUnit_182 miX7_open li_X7_165 (t_X7_open hR  h) rfl (by decide) rfl ⟨_, rfl⟩ rfl ⟨by omega, by show 8 + (3 + 11) + 40 * 3 ≤ 40 * (d1 + 1); omega⟩ (Nat.le_of_ble_eq_true rfl) (Nat.le_of_ble_eq_true rfl) rfl (by exact Nat.le_of_ble_eq_true rfl) (fun x28 s29 hp => ?_)
            obtain ⟨hR, h⟩ := hp
            refine g_if_eq (pc := 185) X dX7_readUnit_185 (tgt := 211) (by decide) (fun q30 => ?_) (fun q30 => ?_)
            · replace h := h.1 q30
              refine g_iconst (pc := 211) X dX7_readUnit_211 kiconst_0 ?_
              exact g_zreturn (pc := 212) X Y dX7_readUnit_212 (by first | exact Or.inl rfl | exact Or.inr rfl) (Nat.le_of_ble_eq_true rfl) (Nat.le_of_ble_eq_true rfl) ⟨_, rfl, hR, h⟩
            · replace h := h.2 q30
              refine g_aload_0 (pc := 188) X dX7_readUnit_188 ?_
              refine g_iload_1 (pc := 189) X dX7_readUnit_189 ?_
              refine g_iconst (pc := 190) X dX7_readUnit_190 kiconst_1 ?_
              refine g_iadd (pc := 191) X dX7_readUnit_191 ?_
              refine g_callV_I (pc := 192) X Y dX7_readUnit_192 miX7_readSum li_X7_145 (hR_X7_readSum hR  h) rfl (by decide) rfl ⟨_, rfl⟩ rfl ⟨by omega, by show 8 + (4 + 11) + 40 * d1 ≤ 40 * (d1 + 1); omega⟩ (Nat.le_of_ble_eq_true rfl) (Nat.le_of_ble_eq_true rfl) rfl (by exact Nat.le_of_ble_eq_true rfl) (fun x31 s32 hp => ?_)
              obtain ⟨hR, h⟩ := hp
              refine g_if_eq (pc := 195) X dX7_readUnit_195 (tgt := 211) (by decide) (fun q33 => ?_) (fun q33 => ?_)
              · replace h := h.1 q33
                refine g_iconst (pc := 211) X dX7_readUnit_211 kiconst_0 ?_
                exact g_zreturn (pc := 212) X Y dX7_readUnit_212 (by first | exact Or.inl rfl | exact Or.inr rfl) (Nat.le_of_ble_eq_true rfl) (Nat.le_of_ble_eq_true rfl) ⟨_, rfl, hR, h⟩
              · replace h := h.2 q33
                refine g_aload_0 (pc := 198) X dX7_readUnit_198 ?_
                refine g_bipush (pc := 199) X dX7_readUnit_199 kbipush_41 ?_
                refine g_callV_I (pc := 201) X Y dX7_readUnit_201 miX7_pass li_X7_132 (t_X7_pass hR  h) rfl (by decide) rfl ⟨_, rfl⟩ rfl ⟨by omega, by show 8 + (2 + 11) + 40 * 2 ≤ 40 * (d1 + 1); omega⟩ (Nat.le_of_ble_eq_true rfl) (Nat.le_of_ble_eq_true rfl) rfl (by exact Nat.le_of_ble_eq_true rfl) (fun x34 s35 hp => ?_)
                obtain ⟨hR, h⟩ := hp
                refine g_if_eq (pc := 204) X dX7_readUnit_204 (tgt := 211) (by decide) (fun q36 => ?_) (fun q36 => ?_)
                · replace h := h.1 q36
                  refine g_iconst (pc := 211) X dX7_readUnit_211 kiconst_0 ?_
                  exact g_zreturn (pc := 212) X Y dX7_readUnit_212 (by first | exact Or.inl rfl | exact Or.inr rfl) (Nat.le_of_ble_eq_true rfl) (Nat.le_of_ble_eq_true rfl) ⟨_, rfl, hR, h⟩
                · replace h := h.2 q36
                  refine g_iconst (pc := 207) X dX7_readUnit_207 kiconst_1 ?_
                  refine g_goto (pc := 208) X dX7_readUnit_208 (tgt := 212) (by decide) ?_
                  exact g_zreturn (pc := 212) X Y dX7_readUnit_212 (by first | exact Or.inl rfl | exact Or.inr rfl) (Nat.le_of_ble_eq_true rfl) (Nat.le_of_ble_eq_true rfl) ⟨_, rfl, hR, h⟩
          · replace h := h.1 q27
            exact h)
    refine g_icmp_gt (pc := 48) X dX7_readUnit_48 (tgt := 77) (by decide) (fun q37 => ?_) (fun q37 => ?_)
    · replace h := h.1 q37
      exact h
    · replace h := h.2 q37
      refine g_aload_0 (pc := 51) X dX7_readUnit_51 ?_
      refine g_getI (pc := 52) X dX7_readUnit_52 rfl (by decide) fl_X7_51 (Or.inl rfl) ?_
      refine g_bipush (pc := 55) X dX7_readUnit_55 kbipush_m6 ?_
      refine g_icmp_lt (pc := 57) X dX7_readUnit_57 (tgt := 77) (by decide) (fun q38 => ?_) (fun q38 => ?_)
      · replace h := h.1 q38
        exact h
      · replace h := h.2 q38
        refine g_aload_0 (pc := 60) X dX7_readUnit_60 ?_
        refine g_iconst (pc := 61) X dX7_readUnit_61 kiconst_m1 ?_
        refine g_aload_0 (pc := 62) X dX7_readUnit_62 ?_
        refine g_getI (pc := 63) X dX7_readUnit_63 rfl (by decide) fl_X7_51 (Or.inl rfl) ?_
        refine g_isub (pc := 66) X dX7_readUnit_66 ?_
        refine g_callV_I (pc := 67) X Y dX7_readUnit_67 miX7_emit li_X7_160 (t_X7_emit hR  h) rfl (by decide) rfl ⟨_, rfl⟩ rfl ⟨by omega, by show 8 + (2 + 11) + 40 * 2 ≤ 40 * (d1 + 1); omega⟩ (Nat.le_of_ble_eq_true rfl) (Nat.le_of_ble_eq_true rfl) rfl (by exact Nat.le_of_ble_eq_true rfl) (fun x39 s40 hp => ?_)
        obtain ⟨hR, h⟩ := hp
        refine g_pop (pc := 70) X dX7_readUnit_70 rfl ?_
        refine g_aload_0 (pc := 71) X dX7_readUnit_71 ?_
        refine g_callV_V (pc := 72) X Y dX7_readUnit_72 miX7_advance li_X7_129 (t_X7_advance hR  h) rfl (by decide) rfl ⟨_, rfl⟩ rfl ⟨by omega, by show 8 + (1 + 11) + 40 * 1 ≤ 40 * (d1 + 1); omega⟩ (Nat.le_of_ble_eq_true rfl) (Nat.le_of_ble_eq_true rfl) rfl (by exact Nat.le_of_ble_eq_true rfl) (fun s41 hp => ?_)
        obtain ⟨hR, h⟩ := hp
        refine g_iconst (pc := 75) X dX7_readUnit_75 kiconst_1 ?_
        exact g_zreturn (pc := 76) X Y dX7_readUnit_76 (by first | exact Or.inl rfl | exact Or.inr rfl) (Nat.le_of_ble_eq_true rfl) (Nat.le_of_ble_eq_true rfl) ⟨_, rfl, hR, h⟩
  · replace h := h.1 q1
    refine g_aload_0 (pc := 9) X dX7_readUnit_9 ?_
    refine g_getRf (pc := 10) X dX7_readUnit_10 fl_X7_32 rfl (by decide) rfl hR rfl ?_
    refine g_aload_0 (pc := 13) X dX7_readUnit_13 ?_
    refine g_getI (pc := 14) X dX7_readUnit_14 rfl (by decide) fl_X7_48 (Or.inl rfl) ?_
    refine g_iaload_w (pc := 17) X dX7_readUnit_17 rfl (by decide) h (fun x42 h => ?_)
    refine g_sipush (pc := 18) X dX7_readUnit_18 ksipush_9999 ?_
    refine g_icmp_le (pc := 21) X dX7_readUnit_21 (tgt := 30) (by decide) (fun q43 => ?_) (fun q43 => ?_)
    · replace h := h.1 q43
      refine g_aload_0 (pc := 30) X dX7_readUnit_30 ?_
      refine g_bipush (pc := 31) X dX7_readUnit_31 kbipush_6 ?_
      refine g_callV_I (pc := 33) X Y dX7_readUnit_33 miX7_emit li_X7_160 (t_X7_emit hR  h) rfl (by decide) rfl ⟨_, rfl⟩ rfl ⟨by omega, by show 8 + (2 + 11) + 40 * 2 ≤ 40 * (d1 + 1); omega⟩ (Nat.le_of_ble_eq_true rfl) (Nat.le_of_ble_eq_true rfl) rfl (by exact Nat.le_of_ble_eq_true rfl) (fun x44 s45 hp => ?_)
      obtain ⟨hR, h⟩ := hp
      refine g_pop (pc := 36) X dX7_readUnit_36 rfl ?_
      refine g_aload_0 (pc := 37) X dX7_readUnit_37 ?_
      refine g_callV_V (pc := 38) X Y dX7_readUnit_38 miX7_advance li_X7_129 (t_X7_advance hR  h) rfl (by decide) rfl ⟨_, rfl⟩ rfl ⟨by omega, by show 8 + (1 + 11) + 40 * 1 ≤ 40 * (d1 + 1); omega⟩ (Nat.le_of_ble_eq_true rfl) (Nat.le_of_ble_eq_true rfl) rfl (by exact Nat.le_of_ble_eq_true rfl) (fun s46 hp => ?_)
      obtain ⟨hR, h⟩ := hp
      refine g_iconst (pc := 41) X dX7_readUnit_41 kiconst_1 ?_
      exact g_zreturn (pc := 42) X Y dX7_readUnit_42 (by first | exact Or.inl rfl | exact Or.inr rfl) (Nat.le_of_ble_eq_true rfl) (Nat.le_of_ble_eq_true rfl) ⟨_, rfl, hR, h⟩
    · replace h := h.2 q43
      refine g_aload_0 (pc := 24) X dX7_readUnit_24 ?_
      refine g_iconst (pc := 25) X dX7_readUnit_25 kiconst_2 ?_
      refine g_callV_I (pc := 26) X Y dX7_readUnit_26 miX7_refuse li_X7_126 (t_X7_refuse hR  h) rfl (by decide) rfl ⟨_, rfl⟩ rfl ⟨by omega, by show 8 + (2 + 11) + 40 * 1 ≤ 40 * (d1 + 1); omega⟩ (Nat.le_of_ble_eq_true rfl) (Nat.le_of_ble_eq_true rfl) rfl (by exact Nat.le_of_ble_eq_true rfl) (fun x47 s48 hp => ?_)
      obtain ⟨hR, h⟩ := hp
      exact g_zreturn (pc := 29) X Y dX7_readUnit_29 h.1 (Nat.le_of_ble_eq_true rfl) (Nat.le_of_ble_eq_true rfl) ⟨_, rfl, hR, h.2⟩
def WR_X7_readProduct (b : Bool) : Nat → (Int32 → (Int32 → gSt → Prop) → gSt → Prop) × (Int32 → (Int32 → gSt → Prop) → gSt → Prop) × (Int32 → (Int32 → gSt → Prop) → gSt → Prop)
  | 0 => ((fun _ _ _ => False), (fun _ _ _ => False), (fun _ _ _ => False))
  | n + 1 => (S_X7_readProduct b ((WR_X7_readProduct b n).1) ((WR_X7_readProduct b n).2.1) ((WR_X7_readProduct b n).2.2), S_X7_readSum b ((WR_X7_readProduct b n).1) ((WR_X7_readProduct b n).2.1) ((WR_X7_readProduct b n).2.2), S_X7_readUnit b ((WR_X7_readProduct b n).1) ((WR_X7_readProduct b n).2.1) ((WR_X7_readProduct b n).2.2))
theorem tr_X7_readProduct {o : gOm} {l : Launch} {b : Bool} : ∀ n : Nat, (∀ {σ : gSt} (_ : σ.2.2 = gRf b) {a0 : Int32} {Q : Int32 → gSt → Prop} (_ : (WR_X7_readProduct b n).1 a0 Q σ), Sp o l mX7_readProduct (3 + n) 0 0 [.ref (ad o 4), .int a0] 116 116 σ (pI (fun x s => s.2.2 = gRf b ∧ Q x s))) ∧ (∀ {σ : gSt} (_ : σ.2.2 = gRf b) {a0 : Int32} {Q : Int32 → gSt → Prop} (_ : (WR_X7_readProduct b n).2.1 a0 Q σ), Sp o l mX7_readSum (3 + n) 0 0 [.ref (ad o 4), .int a0] 116 116 σ (pI (fun x s => s.2.2 = gRf b ∧ Q x s))) ∧ (∀ {σ : gSt} (_ : σ.2.2 = gRf b) {a0 : Int32} {Q : Int32 → gSt → Prop} (_ : (WR_X7_readProduct b n).2.2 a0 Q σ), Sp o l mX7_readUnit (3 + n) 0 0 [.ref (ad o 4), .int a0] 116 116 σ (pI (fun x s => s.2.2 = gRf b ∧ Q x s)))
  | 0 => ⟨fun {_} _ {_} {_} h => False.elim h, fun {_} _ {_} {_} h => False.elim h, fun {_} _ {_} {_} h => False.elim h⟩
  | n + 1 => ⟨fun {_} hR {_} {_} h => ts_X7_readProduct (d1 := 3 + n) ((tr_X7_readProduct (o := o) (l := l) (b := b) n).1) ((tr_X7_readProduct (o := o) (l := l) (b := b) n).2.1) ((tr_X7_readProduct (o := o) (l := l) (b := b) n).2.2) (by omega) hR h, fun {_} hR {_} {_} h => ts_X7_readSum (d1 := 3 + n) ((tr_X7_readProduct (o := o) (l := l) (b := b) n).1) ((tr_X7_readProduct (o := o) (l := l) (b := b) n).2.1) ((tr_X7_readProduct (o := o) (l := l) (b := b) n).2.2) (by omega) hR h, fun {_} hR {_} {_} h => ts_X7_readUnit (d1 := 3 + n) ((tr_X7_readProduct (o := o) (l := l) (b := b) n).1) ((tr_X7_readProduct (o := o) (l := l) (b := b) n).2.1) ((tr_X7_readProduct (o := o) (l := l) (b := b) n).2.2) (by omega) hR h⟩
def W_X7_readProduct (b : Bool) (a0 : Int32) (Q : Int32 → gSt → Prop) (σ : gSt) : Prop := (WR_X7_readProduct b 60).1 a0 Q σ
theorem t_X7_readProduct {o : gOm} {l : Launch} {b : Bool} {σ : gSt} (hR : σ.2.2 = gRf b) {a0 : Int32} {Q : Int32 → gSt → Prop} (h : W_X7_readProduct b a0 Q σ) : Sp o l mX7_readProduct 63 0 0 [.ref (ad o 4), .int a0] 116 116 σ (pI (fun x s => s.2.2 = gRf b ∧ Q x s)) := (tr_X7_readProduct (o := o) (l := l) (b := b) 60).1 hR h
def W_X7_readSum (b : Bool) (a0 : Int32) (Q : Int32 → gSt → Prop) (σ : gSt) : Prop := (WR_X7_readProduct b 60).2.1 a0 Q σ
theorem t_X7_readSum {o : gOm} {l : Launch} {b : Bool} {σ : gSt} (hR : σ.2.2 = gRf b) {a0 : Int32} {Q : Int32 → gSt → Prop} (h : W_X7_readSum b a0 Q σ) : Sp o l mX7_readSum 63 0 0 [.ref (ad o 4), .int a0] 116 116 σ (pI (fun x s => s.2.2 = gRf b ∧ Q x s)) := (tr_X7_readProduct (o := o) (l := l) (b := b) 60).2.1 hR h
def W_X7_readUnit (b : Bool) (a0 : Int32) (Q : Int32 → gSt → Prop) (σ : gSt) : Prop := (WR_X7_readProduct b 60).2.2 a0 Q σ
theorem t_X7_readUnit {o : gOm} {l : Launch} {b : Bool} {σ : gSt} (hR : σ.2.2 = gRf b) {a0 : Int32} {Q : Int32 → gSt → Prop} (h : W_X7_readUnit b a0 Q σ) : Sp o l mX7_readUnit 63 0 0 [.ref (ad o 4), .int a0] 116 116 σ (pI (fun x s => s.2.2 = gRf b ∧ Q x s)) := (tr_X7_readProduct (o := o) (l := l) (b := b) 60).2.2 hR h
def L_X7_readAny_12 (b : Bool) (R_X7_readAny : Int32 → (Int32 → gSt → Prop) → gSt → Prop) (R_X7_readEach : Int32 → (Int32 → gSt → Prop) → gSt → Prop) (R_X7_readNot : Int32 → (Int32 → gSt → Prop) → gSt → Prop) (R_X7_readTest : Int32 → (Int32 → gSt → Prop) → gSt → Prop) (Q : Int32 → gSt → Prop) (c4 : Int32) (K : gSt → Prop) : Nat → Int32 → gSt → Prop
  | 0, _, _ => False
  | n12 + 1, v5, s6 => (((nI 400) ≤ v5 → (K s6)) ∧ (¬ (nI 400) ≤ v5 → ((((s6.1 4 8) = ((-14 : Int32)) → (W_X7_advance (fun s10 => R_X7_readEach c4 (fun x11 s12 => ((x11 = 0 → (Q (nI 0) s12)) ∧ (¬ x11 = 0 → (W_X7_emit b (nI 17) (fun x14 s15 => L_X7_readAny_12 b R_X7_readAny R_X7_readEach R_X7_readNot R_X7_readTest Q c4 K n12 (v5 + nI 1) s15) s12)))) s10) s6)) ∧ (¬ (s6.1 4 8) = ((-14 : Int32)) → (K s6))))))
def S_X7_readAny (b : Bool) (R_X7_readAny : Int32 → (Int32 → gSt → Prop) → gSt → Prop) (R_X7_readEach : Int32 → (Int32 → gSt → Prop) → gSt → Prop) (R_X7_readNot : Int32 → (Int32 → gSt → Prop) → gSt → Prop) (R_X7_readTest : Int32 → (Int32 → gSt → Prop) → gSt → Prop) (p0 : Int32) (Q : Int32 → gSt → Prop) (σ : gSt) : Prop := R_X7_readEach p0 (fun x1 s2 => ((x1 = 0 → (Q (nI 0) s2)) ∧ (¬ x1 = 0 → (∃ m12, L_X7_readAny_12 b R_X7_readAny R_X7_readEach R_X7_readNot R_X7_readTest Q p0 (fun s17 => Q (nI 1) s17) m12 (nI 0) s2)))) σ
set_option maxHeartbeats 4000000 in
theorem ts_X7_readAny {o : gOm} {l : Launch} {d1 : Nat} {b : Bool} {R_X7_readAny : Int32 → (Int32 → gSt → Prop) → gSt → Prop} {R_X7_readEach : Int32 → (Int32 → gSt → Prop) → gSt → Prop} {R_X7_readNot : Int32 → (Int32 → gSt → Prop) → gSt → Prop} {R_X7_readTest : Int32 → (Int32 → gSt → Prop) → gSt → Prop} (hR_X7_readAny : ∀ {σ : gSt} (_ : σ.2.2 = gRf b) {a0 : Int32} {Q : Int32 → gSt → Prop} (_ : R_X7_readAny a0 Q σ), Sp o l mX7_readAny d1 0 0 [.ref (ad o 4), .int a0] 116 116 σ (pI (fun x s => s.2.2 = gRf b ∧ Q x s))) (hR_X7_readEach : ∀ {σ : gSt} (_ : σ.2.2 = gRf b) {a0 : Int32} {Q : Int32 → gSt → Prop} (_ : R_X7_readEach a0 Q σ), Sp o l mX7_readEach d1 0 0 [.ref (ad o 4), .int a0] 116 116 σ (pI (fun x s => s.2.2 = gRf b ∧ Q x s))) (hR_X7_readNot : ∀ {σ : gSt} (_ : σ.2.2 = gRf b) {a0 : Int32} {Q : Int32 → gSt → Prop} (_ : R_X7_readNot a0 Q σ), Sp o l mX7_readNot d1 0 0 [.ref (ad o 4), .int a0] 116 116 σ (pI (fun x s => s.2.2 = gRf b ∧ Q x s))) (hR_X7_readTest : ∀ {σ : gSt} (_ : σ.2.2 = gRf b) {a0 : Int32} {Q : Int32 → gSt → Prop} (_ : R_X7_readTest a0 Q σ), Sp o l mX7_readTest d1 0 0 [.ref (ad o 4), .int a0] 116 116 σ (pI (fun x s => s.2.2 = gRf b ∧ Q x s))) (hd1 : 2 ≤ d1) {σ : gSt} (hR : σ.2.2 = gRf b) {p0 : Int32} {Q : Int32 → gSt → Prop} (h : S_X7_readAny b R_X7_readAny R_X7_readEach R_X7_readNot R_X7_readTest p0 Q σ) : Sp o l mX7_readAny (d1 + 1) 0 0 [.ref (ad o 4), .int p0] 116 116 σ (pI (fun x s => s.2.2 = gRf b ∧ Q x s)) := by
  unfold S_X7_readAny at h
  refine Sp.of (ls0 := [some (.ref (ad o 4)), some (.int p0), none]) miX7_readAny rfl (Nat.le_of_ble_eq_true rfl) rfl (fun γ hγ hnm X Y => ?_)
  subst hγ
  have X : gX o γ cX7_readAny 3 RX7 := X
  refine g_aload_0 (pc := 0) X dX7_readAny_0 ?_
  refine g_iload_1 (pc := 1) X dX7_readAny_1 ?_
  refine g_callV_I (pc := 2) X Y dX7_readAny_2 miX7_readEach li_X7_167 (hR_X7_readEach hR  h) rfl (by decide) rfl ⟨_, rfl⟩ rfl ⟨by omega, by show 8 + (3 + 11) + 40 * d1 ≤ 40 * (d1 + 1); omega⟩ (Nat.le_of_ble_eq_true rfl) (Nat.le_of_ble_eq_true rfl) rfl (by exact Nat.le_of_ble_eq_true rfl) (fun x1 s2 hp => ?_)
  obtain ⟨hR, h⟩ := hp
  refine g_if_ne (pc := 5) X dX7_readAny_5 (tgt := 10) (by decide) (fun q3 => ?_) (fun q3 => ?_)
  · replace h := h.2 q3
    refine g_iconst (pc := 10) X dX7_readAny_10 kiconst_0 ?_
    refine g_istore_2 (pc := 11) X dX7_readAny_11 (by decide) rfl ?_
    obtain ⟨n16, h⟩ := h
    have hL : ∀ (c4 : Int32) (K : gSt → Prop) (_ : ∀  (s7 : gSt), s7.2.2 = gRf b → K s7 → G o γ 0 0 116 s7 55 [some (.ref (ad o 4)), some (.int c4), none] []) (n : Nat) (v5 : Int32) (s6 : gSt), s6.2.2 = gRf b → L_X7_readAny_12 b R_X7_readAny R_X7_readEach R_X7_readNot R_X7_readTest Q c4 K n v5 s6 → G o γ 0 0 116 s6 12 [some (.ref (ad o 4)), some (.int c4), some (.int v5)] [] := by
      intro c4 K hK n
      induction n with
      | zero => intro v5 s6 hR h; exact False.elim h
      | succ n ih =>
        intro v5 s6 hR h
        rw [L_X7_readAny_12] at h
        refine g_iload_2 (pc := 12) X dX7_readAny_12 ?_
        refine g_sipush (pc := 13) X dX7_readAny_13 ksipush_400 ?_
        refine g_icmp_ge (pc := 16) X dX7_readAny_16 (tgt := 55) (by decide) (fun q8 => ?_) (fun q8 => ?_)
        · replace h := h.1 q8
          exact g_drop (by simp [lsub]) (hK s6 hR h)
        · replace h := h.2 q8
          refine g_aload_0 (pc := 19) X dX7_readAny_19 ?_
          refine g_getI (pc := 20) X dX7_readAny_20 rfl (by decide) fl_X7_51 (Or.inl rfl) ?_
          refine g_bipush (pc := 23) X dX7_readAny_23 kbipush_m14 ?_
          refine g_icmp_ne (pc := 25) X dX7_readAny_25 (tgt := 55) (by decide) (fun q9 => ?_) (fun q9 => ?_)
          · replace h := h.2 q9
            exact g_drop (by simp [lsub]) (hK s6 hR h)
          · replace h := h.1 q9
            refine g_aload_0 (pc := 28) X dX7_readAny_28 ?_
            refine g_callV_V (pc := 29) X Y dX7_readAny_29 miX7_advance li_X7_129 (t_X7_advance hR  h) rfl (by decide) rfl ⟨_, rfl⟩ rfl ⟨by omega, by show 8 + (1 + 11) + 40 * 1 ≤ 40 * (d1 + 1); omega⟩ (Nat.le_of_ble_eq_true rfl) (Nat.le_of_ble_eq_true rfl) rfl (by exact Nat.le_of_ble_eq_true rfl) (fun s10 hp => ?_)
            obtain ⟨hR, h⟩ := hp
            refine g_aload_0 (pc := 32) X dX7_readAny_32 ?_
            refine g_iload_1 (pc := 33) X dX7_readAny_33 ?_
            refine g_callV_I (pc := 34) X Y dX7_readAny_34 miX7_readEach li_X7_167 (hR_X7_readEach hR  h) rfl (by decide) rfl ⟨_, rfl⟩ rfl ⟨by omega, by show 8 + (3 + 11) + 40 * d1 ≤ 40 * (d1 + 1); omega⟩ (Nat.le_of_ble_eq_true rfl) (Nat.le_of_ble_eq_true rfl) rfl (by exact Nat.le_of_ble_eq_true rfl) (fun x11 s12 hp => ?_)
            obtain ⟨hR, h⟩ := hp
            refine g_if_ne (pc := 37) X dX7_readAny_37 (tgt := 42) (by decide) (fun q13 => ?_) (fun q13 => ?_)
            · replace h := h.2 q13
              refine g_aload_0 (pc := 42) X dX7_readAny_42 ?_
              refine g_bipush (pc := 43) X dX7_readAny_43 kbipush_17 ?_
              refine g_callV_I (pc := 45) X Y dX7_readAny_45 miX7_emit li_X7_160 (t_X7_emit hR  h) rfl (by decide) rfl ⟨_, rfl⟩ rfl ⟨by omega, by show 8 + (2 + 11) + 40 * 2 ≤ 40 * (d1 + 1); omega⟩ (Nat.le_of_ble_eq_true rfl) (Nat.le_of_ble_eq_true rfl) rfl (by exact Nat.le_of_ble_eq_true rfl) (fun x14 s15 hp => ?_)
              obtain ⟨hR, h⟩ := hp
              refine g_pop (pc := 48) X dX7_readAny_48 rfl ?_
              refine g_iinc_2 (pc := 49) X dX7_readAny_49 (v := v5 + nI 1) rfl (by decide) rfl ?_
              refine g_goto (pc := 52) X dX7_readAny_52 (tgt := 12) (by decide) ?_
              exact ih (v5 + nI 1) s15 hR h
            · replace h := h.1 q13
              refine g_iconst (pc := 40) X dX7_readAny_40 kiconst_0 ?_
              exact g_zreturn (pc := 41) X Y dX7_readAny_41 (by first | exact Or.inl rfl | exact Or.inr rfl) (Nat.le_of_ble_eq_true rfl) (Nat.le_of_ble_eq_true rfl) ⟨_, rfl, hR, h⟩
    refine hL p0 _ (fun s17 hR h => ?_) n16 (nI 0) s2 hR h
    · refine g_iconst (pc := 55) X dX7_readAny_55 kiconst_1 ?_
      exact g_zreturn (pc := 56) X Y dX7_readAny_56 (by first | exact Or.inl rfl | exact Or.inr rfl) (Nat.le_of_ble_eq_true rfl) (Nat.le_of_ble_eq_true rfl) ⟨_, rfl, hR, h⟩
  · replace h := h.1 q3
    refine g_iconst (pc := 8) X dX7_readAny_8 kiconst_0 ?_
    exact g_zreturn (pc := 9) X Y dX7_readAny_9 (by first | exact Or.inl rfl | exact Or.inr rfl) (Nat.le_of_ble_eq_true rfl) (Nat.le_of_ble_eq_true rfl) ⟨_, rfl, hR, h⟩
def L_X7_readEach_12 (b : Bool) (R_X7_readAny : Int32 → (Int32 → gSt → Prop) → gSt → Prop) (R_X7_readEach : Int32 → (Int32 → gSt → Prop) → gSt → Prop) (R_X7_readNot : Int32 → (Int32 → gSt → Prop) → gSt → Prop) (R_X7_readTest : Int32 → (Int32 → gSt → Prop) → gSt → Prop) (Q : Int32 → gSt → Prop) (c4 : Int32) (K : gSt → Prop) : Nat → Int32 → gSt → Prop
  | 0, _, _ => False
  | n12 + 1, v5, s6 => (((nI 400) ≤ v5 → (K s6)) ∧ (¬ (nI 400) ≤ v5 → ((((s6.1 4 8) = ((-15 : Int32)) → (W_X7_advance (fun s10 => R_X7_readTest c4 (fun x11 s12 => ((x11 = 0 → (Q (nI 0) s12)) ∧ (¬ x11 = 0 → (W_X7_emit b (nI 18) (fun x14 s15 => L_X7_readEach_12 b R_X7_readAny R_X7_readEach R_X7_readNot R_X7_readTest Q c4 K n12 (v5 + nI 1) s15) s12)))) s10) s6)) ∧ (¬ (s6.1 4 8) = ((-15 : Int32)) → (K s6))))))
def S_X7_readEach (b : Bool) (R_X7_readAny : Int32 → (Int32 → gSt → Prop) → gSt → Prop) (R_X7_readEach : Int32 → (Int32 → gSt → Prop) → gSt → Prop) (R_X7_readNot : Int32 → (Int32 → gSt → Prop) → gSt → Prop) (R_X7_readTest : Int32 → (Int32 → gSt → Prop) → gSt → Prop) (p0 : Int32) (Q : Int32 → gSt → Prop) (σ : gSt) : Prop := R_X7_readTest p0 (fun x1 s2 => ((x1 = 0 → (Q (nI 0) s2)) ∧ (¬ x1 = 0 → (∃ m12, L_X7_readEach_12 b R_X7_readAny R_X7_readEach R_X7_readNot R_X7_readTest Q p0 (fun s17 => Q (nI 1) s17) m12 (nI 0) s2)))) σ
set_option maxHeartbeats 4000000 in
theorem ts_X7_readEach {o : gOm} {l : Launch} {d1 : Nat} {b : Bool} {R_X7_readAny : Int32 → (Int32 → gSt → Prop) → gSt → Prop} {R_X7_readEach : Int32 → (Int32 → gSt → Prop) → gSt → Prop} {R_X7_readNot : Int32 → (Int32 → gSt → Prop) → gSt → Prop} {R_X7_readTest : Int32 → (Int32 → gSt → Prop) → gSt → Prop} (hR_X7_readAny : ∀ {σ : gSt} (_ : σ.2.2 = gRf b) {a0 : Int32} {Q : Int32 → gSt → Prop} (_ : R_X7_readAny a0 Q σ), Sp o l mX7_readAny d1 0 0 [.ref (ad o 4), .int a0] 116 116 σ (pI (fun x s => s.2.2 = gRf b ∧ Q x s))) (hR_X7_readEach : ∀ {σ : gSt} (_ : σ.2.2 = gRf b) {a0 : Int32} {Q : Int32 → gSt → Prop} (_ : R_X7_readEach a0 Q σ), Sp o l mX7_readEach d1 0 0 [.ref (ad o 4), .int a0] 116 116 σ (pI (fun x s => s.2.2 = gRf b ∧ Q x s))) (hR_X7_readNot : ∀ {σ : gSt} (_ : σ.2.2 = gRf b) {a0 : Int32} {Q : Int32 → gSt → Prop} (_ : R_X7_readNot a0 Q σ), Sp o l mX7_readNot d1 0 0 [.ref (ad o 4), .int a0] 116 116 σ (pI (fun x s => s.2.2 = gRf b ∧ Q x s))) (hR_X7_readTest : ∀ {σ : gSt} (_ : σ.2.2 = gRf b) {a0 : Int32} {Q : Int32 → gSt → Prop} (_ : R_X7_readTest a0 Q σ), Sp o l mX7_readTest d1 0 0 [.ref (ad o 4), .int a0] 116 116 σ (pI (fun x s => s.2.2 = gRf b ∧ Q x s))) (hd1 : 2 ≤ d1) {σ : gSt} (hR : σ.2.2 = gRf b) {p0 : Int32} {Q : Int32 → gSt → Prop} (h : S_X7_readEach b R_X7_readAny R_X7_readEach R_X7_readNot R_X7_readTest p0 Q σ) : Sp o l mX7_readEach (d1 + 1) 0 0 [.ref (ad o 4), .int p0] 116 116 σ (pI (fun x s => s.2.2 = gRf b ∧ Q x s)) := by
  unfold S_X7_readEach at h
  refine Sp.of (ls0 := [some (.ref (ad o 4)), some (.int p0), none]) miX7_readEach rfl (Nat.le_of_ble_eq_true rfl) rfl (fun γ hγ hnm X Y => ?_)
  subst hγ
  have X : gX o γ cX7_readEach 3 RX7 := X
  refine g_aload_0 (pc := 0) X dX7_readEach_0 ?_
  refine g_iload_1 (pc := 1) X dX7_readEach_1 ?_
  refine g_callV_I (pc := 2) X Y dX7_readEach_2 miX7_readTest li_X7_170 (hR_X7_readTest hR  h) rfl (by decide) rfl ⟨_, rfl⟩ rfl ⟨by omega, by show 8 + (3 + 11) + 40 * d1 ≤ 40 * (d1 + 1); omega⟩ (Nat.le_of_ble_eq_true rfl) (Nat.le_of_ble_eq_true rfl) rfl (by exact Nat.le_of_ble_eq_true rfl) (fun x1 s2 hp => ?_)
  obtain ⟨hR, h⟩ := hp
  refine g_if_ne (pc := 5) X dX7_readEach_5 (tgt := 10) (by decide) (fun q3 => ?_) (fun q3 => ?_)
  · replace h := h.2 q3
    refine g_iconst (pc := 10) X dX7_readEach_10 kiconst_0 ?_
    refine g_istore_2 (pc := 11) X dX7_readEach_11 (by decide) rfl ?_
    obtain ⟨n16, h⟩ := h
    have hL : ∀ (c4 : Int32) (K : gSt → Prop) (_ : ∀  (s7 : gSt), s7.2.2 = gRf b → K s7 → G o γ 0 0 116 s7 55 [some (.ref (ad o 4)), some (.int c4), none] []) (n : Nat) (v5 : Int32) (s6 : gSt), s6.2.2 = gRf b → L_X7_readEach_12 b R_X7_readAny R_X7_readEach R_X7_readNot R_X7_readTest Q c4 K n v5 s6 → G o γ 0 0 116 s6 12 [some (.ref (ad o 4)), some (.int c4), some (.int v5)] [] := by
      intro c4 K hK n
      induction n with
      | zero => intro v5 s6 hR h; exact False.elim h
      | succ n ih =>
        intro v5 s6 hR h
        rw [L_X7_readEach_12] at h
        refine g_iload_2 (pc := 12) X dX7_readEach_12 ?_
        refine g_sipush (pc := 13) X dX7_readEach_13 ksipush_400 ?_
        refine g_icmp_ge (pc := 16) X dX7_readEach_16 (tgt := 55) (by decide) (fun q8 => ?_) (fun q8 => ?_)
        · replace h := h.1 q8
          exact g_drop (by simp [lsub]) (hK s6 hR h)
        · replace h := h.2 q8
          refine g_aload_0 (pc := 19) X dX7_readEach_19 ?_
          refine g_getI (pc := 20) X dX7_readEach_20 rfl (by decide) fl_X7_51 (Or.inl rfl) ?_
          refine g_bipush (pc := 23) X dX7_readEach_23 kbipush_m15 ?_
          refine g_icmp_ne (pc := 25) X dX7_readEach_25 (tgt := 55) (by decide) (fun q9 => ?_) (fun q9 => ?_)
          · replace h := h.2 q9
            exact g_drop (by simp [lsub]) (hK s6 hR h)
          · replace h := h.1 q9
            refine g_aload_0 (pc := 28) X dX7_readEach_28 ?_
            refine g_callV_V (pc := 29) X Y dX7_readEach_29 miX7_advance li_X7_129 (t_X7_advance hR  h) rfl (by decide) rfl ⟨_, rfl⟩ rfl ⟨by omega, by show 8 + (1 + 11) + 40 * 1 ≤ 40 * (d1 + 1); omega⟩ (Nat.le_of_ble_eq_true rfl) (Nat.le_of_ble_eq_true rfl) rfl (by exact Nat.le_of_ble_eq_true rfl) (fun s10 hp => ?_)
            obtain ⟨hR, h⟩ := hp
            refine g_aload_0 (pc := 32) X dX7_readEach_32 ?_
            refine g_iload_1 (pc := 33) X dX7_readEach_33 ?_
            refine g_callV_I (pc := 34) X Y dX7_readEach_34 miX7_readTest li_X7_170 (hR_X7_readTest hR  h) rfl (by decide) rfl ⟨_, rfl⟩ rfl ⟨by omega, by show 8 + (3 + 11) + 40 * d1 ≤ 40 * (d1 + 1); omega⟩ (Nat.le_of_ble_eq_true rfl) (Nat.le_of_ble_eq_true rfl) rfl (by exact Nat.le_of_ble_eq_true rfl) (fun x11 s12 hp => ?_)
            obtain ⟨hR, h⟩ := hp
            refine g_if_ne (pc := 37) X dX7_readEach_37 (tgt := 42) (by decide) (fun q13 => ?_) (fun q13 => ?_)
            · replace h := h.2 q13
              refine g_aload_0 (pc := 42) X dX7_readEach_42 ?_
              refine g_bipush (pc := 43) X dX7_readEach_43 kbipush_18 ?_
              refine g_callV_I (pc := 45) X Y dX7_readEach_45 miX7_emit li_X7_160 (t_X7_emit hR  h) rfl (by decide) rfl ⟨_, rfl⟩ rfl ⟨by omega, by show 8 + (2 + 11) + 40 * 2 ≤ 40 * (d1 + 1); omega⟩ (Nat.le_of_ble_eq_true rfl) (Nat.le_of_ble_eq_true rfl) rfl (by exact Nat.le_of_ble_eq_true rfl) (fun x14 s15 hp => ?_)
              obtain ⟨hR, h⟩ := hp
              refine g_pop (pc := 48) X dX7_readEach_48 rfl ?_
              refine g_iinc_2 (pc := 49) X dX7_readEach_49 (v := v5 + nI 1) rfl (by decide) rfl ?_
              refine g_goto (pc := 52) X dX7_readEach_52 (tgt := 12) (by decide) ?_
              exact ih (v5 + nI 1) s15 hR h
            · replace h := h.1 q13
              refine g_iconst (pc := 40) X dX7_readEach_40 kiconst_0 ?_
              exact g_zreturn (pc := 41) X Y dX7_readEach_41 (by first | exact Or.inl rfl | exact Or.inr rfl) (Nat.le_of_ble_eq_true rfl) (Nat.le_of_ble_eq_true rfl) ⟨_, rfl, hR, h⟩
    refine hL p0 _ (fun s17 hR h => ?_) n16 (nI 0) s2 hR h
    · refine g_iconst (pc := 55) X dX7_readEach_55 kiconst_1 ?_
      exact g_zreturn (pc := 56) X Y dX7_readEach_56 (by first | exact Or.inl rfl | exact Or.inr rfl) (Nat.le_of_ble_eq_true rfl) (Nat.le_of_ble_eq_true rfl) ⟨_, rfl, hR, h⟩
  · replace h := h.1 q3
    refine g_iconst (pc := 8) X dX7_readEach_8 kiconst_0 ?_
    exact g_zreturn (pc := 9) X Y dX7_readEach_9 (by first | exact Or.inl rfl | exact Or.inr rfl) (Nat.le_of_ble_eq_true rfl) (Nat.le_of_ble_eq_true rfl) ⟨_, rfl, hR, h⟩
def S_X7_readNot (b : Bool) (R_X7_readAny : Int32 → (Int32 → gSt → Prop) → gSt → Prop) (R_X7_readEach : Int32 → (Int32 → gSt → Prop) → gSt → Prop) (R_X7_readNot : Int32 → (Int32 → gSt → Prop) → gSt → Prop) (R_X7_readTest : Int32 → (Int32 → gSt → Prop) → gSt → Prop) (p0 : Int32) (Q : Int32 → gSt → Prop) (σ : gSt) : Prop := W_X7_open ((-16 : Int32)) p0 (fun x1 s2 => ((x1 = 0 → (Q (nI 0) s2)) ∧ (¬ x1 = 0 → (R_X7_readTest (p0 + (nI 1)) (fun x4 s5 => ((x4 = 0 → (Q (nI 0) s5)) ∧ (¬ x4 = 0 → (W_X7_emit b (nI 7) (fun x7 s8 => ((x7 = 0 → (Q (nI 0) s8)) ∧ (¬ x7 = 0 → (Q (nI 1) s8)))) s5)))) s2)))) σ
set_option maxHeartbeats 4000000 in
theorem ts_X7_readNot {o : gOm} {l : Launch} {d1 : Nat} {b : Bool} {R_X7_readAny : Int32 → (Int32 → gSt → Prop) → gSt → Prop} {R_X7_readEach : Int32 → (Int32 → gSt → Prop) → gSt → Prop} {R_X7_readNot : Int32 → (Int32 → gSt → Prop) → gSt → Prop} {R_X7_readTest : Int32 → (Int32 → gSt → Prop) → gSt → Prop} (hR_X7_readAny : ∀ {σ : gSt} (_ : σ.2.2 = gRf b) {a0 : Int32} {Q : Int32 → gSt → Prop} (_ : R_X7_readAny a0 Q σ), Sp o l mX7_readAny d1 0 0 [.ref (ad o 4), .int a0] 116 116 σ (pI (fun x s => s.2.2 = gRf b ∧ Q x s))) (hR_X7_readEach : ∀ {σ : gSt} (_ : σ.2.2 = gRf b) {a0 : Int32} {Q : Int32 → gSt → Prop} (_ : R_X7_readEach a0 Q σ), Sp o l mX7_readEach d1 0 0 [.ref (ad o 4), .int a0] 116 116 σ (pI (fun x s => s.2.2 = gRf b ∧ Q x s))) (hR_X7_readNot : ∀ {σ : gSt} (_ : σ.2.2 = gRf b) {a0 : Int32} {Q : Int32 → gSt → Prop} (_ : R_X7_readNot a0 Q σ), Sp o l mX7_readNot d1 0 0 [.ref (ad o 4), .int a0] 116 116 σ (pI (fun x s => s.2.2 = gRf b ∧ Q x s))) (hR_X7_readTest : ∀ {σ : gSt} (_ : σ.2.2 = gRf b) {a0 : Int32} {Q : Int32 → gSt → Prop} (_ : R_X7_readTest a0 Q σ), Sp o l mX7_readTest d1 0 0 [.ref (ad o 4), .int a0] 116 116 σ (pI (fun x s => s.2.2 = gRf b ∧ Q x s))) (hd1 : 3 ≤ d1) {σ : gSt} (hR : σ.2.2 = gRf b) {p0 : Int32} {Q : Int32 → gSt → Prop} (h : S_X7_readNot b R_X7_readAny R_X7_readEach R_X7_readNot R_X7_readTest p0 Q σ) : Sp o l mX7_readNot (d1 + 1) 0 0 [.ref (ad o 4), .int p0] 116 116 σ (pI (fun x s => s.2.2 = gRf b ∧ Q x s)) := by
  unfold S_X7_readNot at h
  refine Sp.of (ls0 := [some (.ref (ad o 4)), some (.int p0)]) miX7_readNot rfl (Nat.le_of_ble_eq_true rfl) rfl (fun γ hγ hnm X Y => ?_)
  subst hγ
  have X : gX o γ cX7_readNot 2 RX7 := X
  refine g_aload_0 (pc := 0) X dX7_readNot_0 ?_
  refine g_bipush (pc := 1) X dX7_readNot_1 kbipush_m16 ?_
  refine g_iload_1 (pc := 3) X dX7_readNot_3 ?_
  refine g_callV_I (pc := 4) X Y dX7_readNot_4 miX7_open li_X7_165 (t_X7_open hR  h) rfl (by decide) rfl ⟨_, rfl⟩ rfl ⟨by omega, by show 8 + (3 + 11) + 40 * 3 ≤ 40 * (d1 + 1); omega⟩ (Nat.le_of_ble_eq_true rfl) (Nat.le_of_ble_eq_true rfl) rfl (by exact Nat.le_of_ble_eq_true rfl) (fun x1 s2 hp => ?_)
  obtain ⟨hR, h⟩ := hp
  refine g_if_eq (pc := 7) X dX7_readNot_7 (tgt := 33) (by decide) (fun q3 => ?_) (fun q3 => ?_)
  · replace h := h.1 q3
    refine g_iconst (pc := 33) X dX7_readNot_33 kiconst_0 ?_
    exact g_zreturn (pc := 34) X Y dX7_readNot_34 (by first | exact Or.inl rfl | exact Or.inr rfl) (Nat.le_of_ble_eq_true rfl) (Nat.le_of_ble_eq_true rfl) ⟨_, rfl, hR, h⟩
  · replace h := h.2 q3
    refine g_aload_0 (pc := 10) X dX7_readNot_10 ?_
    refine g_iload_1 (pc := 11) X dX7_readNot_11 ?_
    refine g_iconst (pc := 12) X dX7_readNot_12 kiconst_1 ?_
    refine g_iadd (pc := 13) X dX7_readNot_13 ?_
    refine g_callV_I (pc := 14) X Y dX7_readNot_14 miX7_readTest li_X7_170 (hR_X7_readTest hR  h) rfl (by decide) rfl ⟨_, rfl⟩ rfl ⟨by omega, by show 8 + (3 + 11) + 40 * d1 ≤ 40 * (d1 + 1); omega⟩ (Nat.le_of_ble_eq_true rfl) (Nat.le_of_ble_eq_true rfl) rfl (by exact Nat.le_of_ble_eq_true rfl) (fun x4 s5 hp => ?_)
    obtain ⟨hR, h⟩ := hp
    refine g_if_eq (pc := 17) X dX7_readNot_17 (tgt := 33) (by decide) (fun q6 => ?_) (fun q6 => ?_)
    · replace h := h.1 q6
      refine g_iconst (pc := 33) X dX7_readNot_33 kiconst_0 ?_
      exact g_zreturn (pc := 34) X Y dX7_readNot_34 (by first | exact Or.inl rfl | exact Or.inr rfl) (Nat.le_of_ble_eq_true rfl) (Nat.le_of_ble_eq_true rfl) ⟨_, rfl, hR, h⟩
    · replace h := h.2 q6
      refine g_aload_0 (pc := 20) X dX7_readNot_20 ?_
      refine g_bipush (pc := 21) X dX7_readNot_21 kbipush_7 ?_
      refine g_callV_I (pc := 23) X Y dX7_readNot_23 miX7_emit li_X7_160 (t_X7_emit hR  h) rfl (by decide) rfl ⟨_, rfl⟩ rfl ⟨by omega, by show 8 + (2 + 11) + 40 * 2 ≤ 40 * (d1 + 1); omega⟩ (Nat.le_of_ble_eq_true rfl) (Nat.le_of_ble_eq_true rfl) rfl (by exact Nat.le_of_ble_eq_true rfl) (fun x7 s8 hp => ?_)
      obtain ⟨hR, h⟩ := hp
      refine g_if_eq (pc := 26) X dX7_readNot_26 (tgt := 33) (by decide) (fun q9 => ?_) (fun q9 => ?_)
      · replace h := h.1 q9
        refine g_iconst (pc := 33) X dX7_readNot_33 kiconst_0 ?_
        exact g_zreturn (pc := 34) X Y dX7_readNot_34 (by first | exact Or.inl rfl | exact Or.inr rfl) (Nat.le_of_ble_eq_true rfl) (Nat.le_of_ble_eq_true rfl) ⟨_, rfl, hR, h⟩
      · replace h := h.2 q9
        refine g_iconst (pc := 29) X dX7_readNot_29 kiconst_1 ?_
        refine g_goto (pc := 30) X dX7_readNot_30 (tgt := 34) (by decide) ?_
        exact g_zreturn (pc := 34) X Y dX7_readNot_34 (by first | exact Or.inl rfl | exact Or.inr rfl) (Nat.le_of_ble_eq_true rfl) (Nat.le_of_ble_eq_true rfl) ⟨_, rfl, hR, h⟩
def S_X7_readTest (b : Bool) (R_X7_readAny : Int32 → (Int32 → gSt → Prop) → gSt → Prop) (R_X7_readEach : Int32 → (Int32 → gSt → Prop) → gSt → Prop) (R_X7_readNot : Int32 → (Int32 → gSt → Prop) → gSt → Prop) (R_X7_readTest : Int32 → (Int32 → gSt → Prop) → gSt → Prop) (p0 : Int32) (Q : Int32 → gSt → Prop) (σ : gSt) : Prop := (((σ.1 4 8) = ((-16 : Int32)) → (R_X7_readNot p0 (fun x32 s33 => ((x32 = 0 ∨ x32 = 1) ∧ Q x32 s33)) σ)) ∧ (¬ (σ.1 4 8) = ((-16 : Int32)) → ((((σ.1 4 8) = (nI 91) → (W_X7_open (nI 91) p0 (fun x23 s24 => ((x23 = 0 → (Q (nI 0) s24)) ∧ (¬ x23 = 0 → (R_X7_readAny (p0 + (nI 1)) (fun x26 s27 => ((x26 = 0 → (Q (nI 0) s27)) ∧ (¬ x26 = 0 → (W_X7_pass (nI 93) (fun x29 s30 => ((x29 = 0 → (Q (nI 0) s30)) ∧ (¬ x29 = 0 → (Q (nI 1) s30)))) s27)))) s24)))) σ)) ∧ (¬ (σ.1 4 8) = (nI 91) → (W_X7_readSum b p0 (fun x3 s4 => ((x3 = 0 → (Q (nI 0) s4)) ∧ (¬ x3 = 0 → (∀ J6 : Prop, ((∀ J8 : Int32 → Prop, (∀ x7, (W_X7_advance (fun s9 => W_X7_readSum b p0 (fun x10 s11 => ((x10 = 0 → (Q (nI 0) s11)) ∧ (¬ x10 = 0 → (W_X7_emit b x7 (fun x13 s14 => ((x13 = 0 → (Q (nI 0) s14)) ∧ (¬ x13 = 0 → (Q (nI 1) s14)))) s11)))) s9) s4) → J8 x7) → (((s4.1 4 8) = (nI 60) → (J8 (nI 14))) ∧ (¬ (s4.1 4 8) = (nI 60) → ((((s4.1 4 8) = (nI 62) → (J8 (nI 15))) ∧ (¬ (s4.1 4 8) = (nI 62) → (J8 (nI 16)))))))) → J6) → (((s4.1 4 8) = (nI 60) → J6) ∧ (¬ (s4.1 4 8) = (nI 60) → ((((s4.1 4 8) = (nI 62) → J6) ∧ (¬ (s4.1 4 8) = (nI 62) → ((((s4.1 4 8) = (nI 61) → J6) ∧ (¬ (s4.1 4 8) = (nI 61) → (W_X7_refuse (nI 1) (fun x21 s22 => ((x21 = 0 ∨ x21 = 1) ∧ Q x21 s22)) s4))))))))))))) σ))))))
set_option maxHeartbeats 4000000 in
theorem ts_X7_readTest {o : gOm} {l : Launch} {d1 : Nat} {b : Bool} {R_X7_readAny : Int32 → (Int32 → gSt → Prop) → gSt → Prop} {R_X7_readEach : Int32 → (Int32 → gSt → Prop) → gSt → Prop} {R_X7_readNot : Int32 → (Int32 → gSt → Prop) → gSt → Prop} {R_X7_readTest : Int32 → (Int32 → gSt → Prop) → gSt → Prop} (hR_X7_readAny : ∀ {σ : gSt} (_ : σ.2.2 = gRf b) {a0 : Int32} {Q : Int32 → gSt → Prop} (_ : R_X7_readAny a0 Q σ), Sp o l mX7_readAny d1 0 0 [.ref (ad o 4), .int a0] 116 116 σ (pI (fun x s => s.2.2 = gRf b ∧ Q x s))) (hR_X7_readEach : ∀ {σ : gSt} (_ : σ.2.2 = gRf b) {a0 : Int32} {Q : Int32 → gSt → Prop} (_ : R_X7_readEach a0 Q σ), Sp o l mX7_readEach d1 0 0 [.ref (ad o 4), .int a0] 116 116 σ (pI (fun x s => s.2.2 = gRf b ∧ Q x s))) (hR_X7_readNot : ∀ {σ : gSt} (_ : σ.2.2 = gRf b) {a0 : Int32} {Q : Int32 → gSt → Prop} (_ : R_X7_readNot a0 Q σ), Sp o l mX7_readNot d1 0 0 [.ref (ad o 4), .int a0] 116 116 σ (pI (fun x s => s.2.2 = gRf b ∧ Q x s))) (hR_X7_readTest : ∀ {σ : gSt} (_ : σ.2.2 = gRf b) {a0 : Int32} {Q : Int32 → gSt → Prop} (_ : R_X7_readTest a0 Q σ), Sp o l mX7_readTest d1 0 0 [.ref (ad o 4), .int a0] 116 116 σ (pI (fun x s => s.2.2 = gRf b ∧ Q x s))) (hd1 : 63 ≤ d1) {σ : gSt} (hR : σ.2.2 = gRf b) {p0 : Int32} {Q : Int32 → gSt → Prop} (h : S_X7_readTest b R_X7_readAny R_X7_readEach R_X7_readNot R_X7_readTest p0 Q σ) : Sp o l mX7_readTest (d1 + 1) 0 0 [.ref (ad o 4), .int p0] 116 116 σ (pI (fun x s => s.2.2 = gRf b ∧ Q x s)) := by
  unfold S_X7_readTest at h
  refine Sp.of (ls0 := [some (.ref (ad o 4)), some (.int p0), none]) miX7_readTest rfl (Nat.le_of_ble_eq_true rfl) rfl (fun γ hγ hnm X Y => ?_)
  subst hγ
  have X : gX o γ cX7_readTest 3 RX7 := X
  refine g_aload_0 (pc := 0) X dX7_readTest_0 ?_
  refine g_getI (pc := 1) X dX7_readTest_1 rfl (by decide) fl_X7_51 (Or.inl rfl) ?_
  refine g_bipush (pc := 4) X dX7_readTest_4 kbipush_m16 ?_
  refine g_icmp_ne (pc := 6) X dX7_readTest_6 (tgt := 15) (by decide) (fun q1 => ?_) (fun q1 => ?_)
  · replace h := h.2 q1
    refine g_aload_0 (pc := 15) X dX7_readTest_15 ?_
    refine g_getI (pc := 16) X dX7_readTest_16 rfl (by decide) fl_X7_51 (Or.inl rfl) ?_
    refine g_bipush (pc := 19) X dX7_readTest_19 kbipush_91 ?_
    refine g_icmp_ne (pc := 21) X dX7_readTest_21 (tgt := 59) (by decide) (fun q2 => ?_) (fun q2 => ?_)
    · replace h := h.2 q2
      refine g_aload_0 (pc := 59) X dX7_readTest_59 ?_
      refine g_iload_1 (pc := 60) X dX7_readTest_60 ?_
      refine g_callV_I (pc := 61) X Y dX7_readTest_61 miX7_readSum li_X7_145 (t_X7_readSum hR  h) rfl (by decide) rfl ⟨_, rfl⟩ rfl ⟨by omega, by show 8 + (4 + 11) + 40 * 63 ≤ 40 * (d1 + 1); omega⟩ (Nat.le_of_ble_eq_true rfl) (Nat.le_of_ble_eq_true rfl) rfl (by exact Nat.le_of_ble_eq_true rfl) (fun x3 s4 hp => ?_)
      obtain ⟨hR, h⟩ := hp
      refine g_if_ne (pc := 64) X dX7_readTest_64 (tgt := 69) (by decide) (fun q5 => ?_) (fun q5 => ?_)
      · replace h := h.2 q5
        refine g_aload_0 (pc := 69) X dX7_readTest_69 ?_
        refine g_getI (pc := 70) X dX7_readTest_70 rfl (by decide) fl_X7_51 (Or.inl rfl) ?_
        refine g_bipush (pc := 73) X dX7_readTest_73 kbipush_60 ?_
        replace h := h (G o γ 0 0 116 s4 102 [some (.ref (ad o 4)), some (.int p0), none] []) (by
            intro  h
            refine g_aload_0 (pc := 102) X dX7_readTest_102 ?_
            refine g_getI (pc := 103) X dX7_readTest_103 rfl (by decide) fl_X7_51 (Or.inl rfl) ?_
            refine g_bipush (pc := 106) X dX7_readTest_106 kbipush_60 ?_
            replace h := h (fun x7 => G o γ 0 0 116 s4 132 [some (.ref (ad o 4)), some (.int p0), none] [.int x7]) (by
                intro x7 h
                refine g_istore_2 (pc := 132) X dX7_readTest_132 (by decide) rfl ?_
                refine g_aload_0 (pc := 133) X dX7_readTest_133 ?_
                refine g_callV_V (pc := 134) X Y dX7_readTest_134 miX7_advance li_X7_129 (t_X7_advance hR  h) rfl (by decide) rfl ⟨_, rfl⟩ rfl ⟨by omega, by show 8 + (1 + 11) + 40 * 1 ≤ 40 * (d1 + 1); omega⟩ (Nat.le_of_ble_eq_true rfl) (Nat.le_of_ble_eq_true rfl) rfl (by exact Nat.le_of_ble_eq_true rfl) (fun s9 hp => ?_)
                obtain ⟨hR, h⟩ := hp
                refine g_aload_0 (pc := 137) X dX7_readTest_137 ?_
                refine g_iload_1 (pc := 138) X dX7_readTest_138 ?_
                refine g_callV_I (pc := 139) X Y dX7_readTest_139 miX7_readSum li_X7_145 (t_X7_readSum hR  h) rfl (by decide) rfl ⟨_, rfl⟩ rfl ⟨by omega, by show 8 + (4 + 11) + 40 * 63 ≤ 40 * (d1 + 1); omega⟩ (Nat.le_of_ble_eq_true rfl) (Nat.le_of_ble_eq_true rfl) rfl (by exact Nat.le_of_ble_eq_true rfl) (fun x10 s11 hp => ?_)
                obtain ⟨hR, h⟩ := hp
                refine g_if_eq (pc := 142) X dX7_readTest_142 (tgt := 157) (by decide) (fun q12 => ?_) (fun q12 => ?_)
                · replace h := h.1 q12
                  refine g_iconst (pc := 157) X dX7_readTest_157 kiconst_0 ?_
                  exact g_zreturn (pc := 158) X Y dX7_readTest_158 (by first | exact Or.inl rfl | exact Or.inr rfl) (Nat.le_of_ble_eq_true rfl) (Nat.le_of_ble_eq_true rfl) ⟨_, rfl, hR, h⟩
                · replace h := h.2 q12
                  refine g_aload_0 (pc := 145) X dX7_readTest_145 ?_
                  refine g_iload_2 (pc := 146) X dX7_readTest_146 ?_
                  refine g_callV_I (pc := 147) X Y dX7_readTest_147 miX7_emit li_X7_160 (t_X7_emit hR  h) rfl (by decide) rfl ⟨_, rfl⟩ rfl ⟨by omega, by show 8 + (2 + 11) + 40 * 2 ≤ 40 * (d1 + 1); omega⟩ (Nat.le_of_ble_eq_true rfl) (Nat.le_of_ble_eq_true rfl) rfl (by exact Nat.le_of_ble_eq_true rfl) (fun x13 s14 hp => ?_)
                  obtain ⟨hR, h⟩ := hp
                  refine g_if_eq (pc := 150) X dX7_readTest_150 (tgt := 157) (by decide) (fun q15 => ?_) (fun q15 => ?_)
                  · replace h := h.1 q15
                    refine g_iconst (pc := 157) X dX7_readTest_157 kiconst_0 ?_
                    exact g_zreturn (pc := 158) X Y dX7_readTest_158 (by first | exact Or.inl rfl | exact Or.inr rfl) (Nat.le_of_ble_eq_true rfl) (Nat.le_of_ble_eq_true rfl) ⟨_, rfl, hR, h⟩
                  · replace h := h.2 q15
                    refine g_iconst (pc := 153) X dX7_readTest_153 kiconst_1 ?_
                    refine g_goto (pc := 154) X dX7_readTest_154 (tgt := 158) (by decide) ?_
                    exact g_zreturn (pc := 158) X Y dX7_readTest_158 (by first | exact Or.inl rfl | exact Or.inr rfl) (Nat.le_of_ble_eq_true rfl) (Nat.le_of_ble_eq_true rfl) ⟨_, rfl, hR, h⟩)
            refine g_icmp_ne (pc := 108) X dX7_readTest_108 (tgt := 116) (by decide) (fun q16 => ?_) (fun q16 => ?_)
            · replace h := h.2 q16
              refine g_aload_0 (pc := 116) X dX7_readTest_116 ?_
              refine g_getI (pc := 117) X dX7_readTest_117 rfl (by decide) fl_X7_51 (Or.inl rfl) ?_
              refine g_bipush (pc := 120) X dX7_readTest_120 kbipush_62 ?_
              refine g_icmp_ne (pc := 122) X dX7_readTest_122 (tgt := 130) (by decide) (fun q17 => ?_) (fun q17 => ?_)
              · replace h := h.2 q17
                refine g_bipush (pc := 130) X dX7_readTest_130 kbipush_16 ?_
                exact h
              · replace h := h.1 q17
                refine g_bipush (pc := 125) X dX7_readTest_125 kbipush_15 ?_
                refine g_goto (pc := 127) X dX7_readTest_127 (tgt := 132) (by decide) ?_
                exact h
            · replace h := h.1 q16
              refine g_bipush (pc := 111) X dX7_readTest_111 kbipush_14 ?_
              refine g_goto (pc := 113) X dX7_readTest_113 (tgt := 132) (by decide) ?_
              exact h)
        refine g_icmp_eq (pc := 75) X dX7_readTest_75 (tgt := 102) (by decide) (fun q18 => ?_) (fun q18 => ?_)
        · replace h := h.1 q18
          exact h
        · replace h := h.2 q18
          refine g_aload_0 (pc := 78) X dX7_readTest_78 ?_
          refine g_getI (pc := 79) X dX7_readTest_79 rfl (by decide) fl_X7_51 (Or.inl rfl) ?_
          refine g_bipush (pc := 82) X dX7_readTest_82 kbipush_62 ?_
          refine g_icmp_eq (pc := 84) X dX7_readTest_84 (tgt := 102) (by decide) (fun q19 => ?_) (fun q19 => ?_)
          · replace h := h.1 q19
            exact h
          · replace h := h.2 q19
            refine g_aload_0 (pc := 87) X dX7_readTest_87 ?_
            refine g_getI (pc := 88) X dX7_readTest_88 rfl (by decide) fl_X7_51 (Or.inl rfl) ?_
            refine g_bipush (pc := 91) X dX7_readTest_91 kbipush_61 ?_
            refine g_icmp_eq (pc := 93) X dX7_readTest_93 (tgt := 102) (by decide) (fun q20 => ?_) (fun q20 => ?_)
            · replace h := h.1 q20
              exact h
            · replace h := h.2 q20
              refine g_aload_0 (pc := 96) X dX7_readTest_96 ?_
              refine g_iconst (pc := 97) X dX7_readTest_97 kiconst_1 ?_
              refine g_callV_I (pc := 98) X Y dX7_readTest_98 miX7_refuse li_X7_126 (t_X7_refuse hR  h) rfl (by decide) rfl ⟨_, rfl⟩ rfl ⟨by omega, by show 8 + (2 + 11) + 40 * 1 ≤ 40 * (d1 + 1); omega⟩ (Nat.le_of_ble_eq_true rfl) (Nat.le_of_ble_eq_true rfl) rfl (by exact Nat.le_of_ble_eq_true rfl) (fun x21 s22 hp => ?_)
              obtain ⟨hR, h⟩ := hp
              exact g_zreturn (pc := 101) X Y dX7_readTest_101 h.1 (Nat.le_of_ble_eq_true rfl) (Nat.le_of_ble_eq_true rfl) ⟨_, rfl, hR, h.2⟩
      · replace h := h.1 q5
        refine g_iconst (pc := 67) X dX7_readTest_67 kiconst_0 ?_
        exact g_zreturn (pc := 68) X Y dX7_readTest_68 (by first | exact Or.inl rfl | exact Or.inr rfl) (Nat.le_of_ble_eq_true rfl) (Nat.le_of_ble_eq_true rfl) ⟨_, rfl, hR, h⟩
    · replace h := h.1 q2
      refine g_aload_0 (pc := 24) X dX7_readTest_24 ?_
      refine g_bipush (pc := 25) X dX7_readTest_25 kbipush_91 ?_
      refine g_iload_1 (pc := 27) X dX7_readTest_27 ?_
      refine g_callV_I (pc := 28) X Y dX7_readTest_28 miX7_open li_X7_165 (t_X7_open hR  h) rfl (by decide) rfl ⟨_, rfl⟩ rfl ⟨by omega, by show 8 + (3 + 11) + 40 * 3 ≤ 40 * (d1 + 1); omega⟩ (Nat.le_of_ble_eq_true rfl) (Nat.le_of_ble_eq_true rfl) rfl (by exact Nat.le_of_ble_eq_true rfl) (fun x23 s24 hp => ?_)
      obtain ⟨hR, h⟩ := hp
      refine g_if_eq (pc := 31) X dX7_readTest_31 (tgt := 57) (by decide) (fun q25 => ?_) (fun q25 => ?_)
      · replace h := h.1 q25
        refine g_iconst (pc := 57) X dX7_readTest_57 kiconst_0 ?_
        exact g_zreturn (pc := 58) X Y dX7_readTest_58 (by first | exact Or.inl rfl | exact Or.inr rfl) (Nat.le_of_ble_eq_true rfl) (Nat.le_of_ble_eq_true rfl) ⟨_, rfl, hR, h⟩
      · replace h := h.2 q25
        refine g_aload_0 (pc := 34) X dX7_readTest_34 ?_
        refine g_iload_1 (pc := 35) X dX7_readTest_35 ?_
        refine g_iconst (pc := 36) X dX7_readTest_36 kiconst_1 ?_
        refine g_iadd (pc := 37) X dX7_readTest_37 ?_
        refine g_callV_I (pc := 38) X Y dX7_readTest_38 miX7_readAny li_X7_151 (hR_X7_readAny hR  h) rfl (by decide) rfl ⟨_, rfl⟩ rfl ⟨by omega, by show 8 + (3 + 11) + 40 * d1 ≤ 40 * (d1 + 1); omega⟩ (Nat.le_of_ble_eq_true rfl) (Nat.le_of_ble_eq_true rfl) rfl (by exact Nat.le_of_ble_eq_true rfl) (fun x26 s27 hp => ?_)
        obtain ⟨hR, h⟩ := hp
        refine g_if_eq (pc := 41) X dX7_readTest_41 (tgt := 57) (by decide) (fun q28 => ?_) (fun q28 => ?_)
        · replace h := h.1 q28
          refine g_iconst (pc := 57) X dX7_readTest_57 kiconst_0 ?_
          exact g_zreturn (pc := 58) X Y dX7_readTest_58 (by first | exact Or.inl rfl | exact Or.inr rfl) (Nat.le_of_ble_eq_true rfl) (Nat.le_of_ble_eq_true rfl) ⟨_, rfl, hR, h⟩
        · replace h := h.2 q28
          refine g_aload_0 (pc := 44) X dX7_readTest_44 ?_
          refine g_bipush (pc := 45) X dX7_readTest_45 kbipush_93 ?_
          refine g_callV_I (pc := 47) X Y dX7_readTest_47 miX7_pass li_X7_132 (t_X7_pass hR  h) rfl (by decide) rfl ⟨_, rfl⟩ rfl ⟨by omega, by show 8 + (2 + 11) + 40 * 2 ≤ 40 * (d1 + 1); omega⟩ (Nat.le_of_ble_eq_true rfl) (Nat.le_of_ble_eq_true rfl) rfl (by exact Nat.le_of_ble_eq_true rfl) (fun x29 s30 hp => ?_)
          obtain ⟨hR, h⟩ := hp
          refine g_if_eq (pc := 50) X dX7_readTest_50 (tgt := 57) (by decide) (fun q31 => ?_) (fun q31 => ?_)
          · replace h := h.1 q31
            refine g_iconst (pc := 57) X dX7_readTest_57 kiconst_0 ?_
            exact g_zreturn (pc := 58) X Y dX7_readTest_58 (by first | exact Or.inl rfl | exact Or.inr rfl) (Nat.le_of_ble_eq_true rfl) (Nat.le_of_ble_eq_true rfl) ⟨_, rfl, hR, h⟩
          · replace h := h.2 q31
            refine g_iconst (pc := 53) X dX7_readTest_53 kiconst_1 ?_
            refine g_goto (pc := 54) X dX7_readTest_54 (tgt := 58) (by decide) ?_
            exact g_zreturn (pc := 58) X Y dX7_readTest_58 (by first | exact Or.inl rfl | exact Or.inr rfl) (Nat.le_of_ble_eq_true rfl) (Nat.le_of_ble_eq_true rfl) ⟨_, rfl, hR, h⟩
  · replace h := h.1 q1
    refine g_aload_0 (pc := 9) X dX7_readTest_9 ?_
    refine g_iload_1 (pc := 10) X dX7_readTest_10 ?_
    refine g_callV_I (pc := 11) X Y dX7_readTest_11 miX7_readNot li_X7_173 (hR_X7_readNot hR  h) rfl (by decide) rfl ⟨_, rfl⟩ rfl ⟨by omega, by show 8 + (2 + 11) + 40 * d1 ≤ 40 * (d1 + 1); omega⟩ (Nat.le_of_ble_eq_true rfl) (Nat.le_of_ble_eq_true rfl) rfl (by exact Nat.le_of_ble_eq_true rfl) (fun x32 s33 hp => ?_)
    obtain ⟨hR, h⟩ := hp
    exact g_zreturn (pc := 14) X Y dX7_readTest_14 h.1 (Nat.le_of_ble_eq_true rfl) (Nat.le_of_ble_eq_true rfl) ⟨_, rfl, hR, h.2⟩
def WR_X7_readAny (b : Bool) : Nat → (Int32 → (Int32 → gSt → Prop) → gSt → Prop) × (Int32 → (Int32 → gSt → Prop) → gSt → Prop) × (Int32 → (Int32 → gSt → Prop) → gSt → Prop) × (Int32 → (Int32 → gSt → Prop) → gSt → Prop)
  | 0 => ((fun _ _ _ => False), (fun _ _ _ => False), (fun _ _ _ => False), (fun _ _ _ => False))
  | n + 1 => (S_X7_readAny b ((WR_X7_readAny b n).1) ((WR_X7_readAny b n).2.1) ((WR_X7_readAny b n).2.2.1) ((WR_X7_readAny b n).2.2.2), S_X7_readEach b ((WR_X7_readAny b n).1) ((WR_X7_readAny b n).2.1) ((WR_X7_readAny b n).2.2.1) ((WR_X7_readAny b n).2.2.2), S_X7_readNot b ((WR_X7_readAny b n).1) ((WR_X7_readAny b n).2.1) ((WR_X7_readAny b n).2.2.1) ((WR_X7_readAny b n).2.2.2), S_X7_readTest b ((WR_X7_readAny b n).1) ((WR_X7_readAny b n).2.1) ((WR_X7_readAny b n).2.2.1) ((WR_X7_readAny b n).2.2.2))
theorem tr_X7_readAny {o : gOm} {l : Launch} {b : Bool} : ∀ n : Nat, (∀ {σ : gSt} (_ : σ.2.2 = gRf b) {a0 : Int32} {Q : Int32 → gSt → Prop} (_ : (WR_X7_readAny b n).1 a0 Q σ), Sp o l mX7_readAny (63 + n) 0 0 [.ref (ad o 4), .int a0] 116 116 σ (pI (fun x s => s.2.2 = gRf b ∧ Q x s))) ∧ (∀ {σ : gSt} (_ : σ.2.2 = gRf b) {a0 : Int32} {Q : Int32 → gSt → Prop} (_ : (WR_X7_readAny b n).2.1 a0 Q σ), Sp o l mX7_readEach (63 + n) 0 0 [.ref (ad o 4), .int a0] 116 116 σ (pI (fun x s => s.2.2 = gRf b ∧ Q x s))) ∧ (∀ {σ : gSt} (_ : σ.2.2 = gRf b) {a0 : Int32} {Q : Int32 → gSt → Prop} (_ : (WR_X7_readAny b n).2.2.1 a0 Q σ), Sp o l mX7_readNot (63 + n) 0 0 [.ref (ad o 4), .int a0] 116 116 σ (pI (fun x s => s.2.2 = gRf b ∧ Q x s))) ∧ (∀ {σ : gSt} (_ : σ.2.2 = gRf b) {a0 : Int32} {Q : Int32 → gSt → Prop} (_ : (WR_X7_readAny b n).2.2.2 a0 Q σ), Sp o l mX7_readTest (63 + n) 0 0 [.ref (ad o 4), .int a0] 116 116 σ (pI (fun x s => s.2.2 = gRf b ∧ Q x s)))
  | 0 => ⟨fun {_} _ {_} {_} h => False.elim h, fun {_} _ {_} {_} h => False.elim h, fun {_} _ {_} {_} h => False.elim h, fun {_} _ {_} {_} h => False.elim h⟩
  | n + 1 => ⟨fun {_} hR {_} {_} h => ts_X7_readAny (d1 := 63 + n) ((tr_X7_readAny (o := o) (l := l) (b := b) n).1) ((tr_X7_readAny (o := o) (l := l) (b := b) n).2.1) ((tr_X7_readAny (o := o) (l := l) (b := b) n).2.2.1) ((tr_X7_readAny (o := o) (l := l) (b := b) n).2.2.2) (by omega) hR h, fun {_} hR {_} {_} h => ts_X7_readEach (d1 := 63 + n) ((tr_X7_readAny (o := o) (l := l) (b := b) n).1) ((tr_X7_readAny (o := o) (l := l) (b := b) n).2.1) ((tr_X7_readAny (o := o) (l := l) (b := b) n).2.2.1) ((tr_X7_readAny (o := o) (l := l) (b := b) n).2.2.2) (by omega) hR h, fun {_} hR {_} {_} h => ts_X7_readNot (d1 := 63 + n) ((tr_X7_readAny (o := o) (l := l) (b := b) n).1) ((tr_X7_readAny (o := o) (l := l) (b := b) n).2.1) ((tr_X7_readAny (o := o) (l := l) (b := b) n).2.2.1) ((tr_X7_readAny (o := o) (l := l) (b := b) n).2.2.2) (by omega) hR h, fun {_} hR {_} {_} h => ts_X7_readTest (d1 := 63 + n) ((tr_X7_readAny (o := o) (l := l) (b := b) n).1) ((tr_X7_readAny (o := o) (l := l) (b := b) n).2.1) ((tr_X7_readAny (o := o) (l := l) (b := b) n).2.2.1) ((tr_X7_readAny (o := o) (l := l) (b := b) n).2.2.2) (by omega) hR h⟩
def W_X7_readAny (b : Bool) (a0 : Int32) (Q : Int32 → gSt → Prop) (σ : gSt) : Prop := (WR_X7_readAny b 60).1 a0 Q σ
theorem t_X7_readAny {o : gOm} {l : Launch} {b : Bool} {σ : gSt} (hR : σ.2.2 = gRf b) {a0 : Int32} {Q : Int32 → gSt → Prop} (h : W_X7_readAny b a0 Q σ) : Sp o l mX7_readAny 123 0 0 [.ref (ad o 4), .int a0] 116 116 σ (pI (fun x s => s.2.2 = gRf b ∧ Q x s)) := (tr_X7_readAny (o := o) (l := l) (b := b) 60).1 hR h
def W_X7_readEach (b : Bool) (a0 : Int32) (Q : Int32 → gSt → Prop) (σ : gSt) : Prop := (WR_X7_readAny b 60).2.1 a0 Q σ
theorem t_X7_readEach {o : gOm} {l : Launch} {b : Bool} {σ : gSt} (hR : σ.2.2 = gRf b) {a0 : Int32} {Q : Int32 → gSt → Prop} (h : W_X7_readEach b a0 Q σ) : Sp o l mX7_readEach 123 0 0 [.ref (ad o 4), .int a0] 116 116 σ (pI (fun x s => s.2.2 = gRf b ∧ Q x s)) := (tr_X7_readAny (o := o) (l := l) (b := b) 60).2.1 hR h
def W_X7_readNot (b : Bool) (a0 : Int32) (Q : Int32 → gSt → Prop) (σ : gSt) : Prop := (WR_X7_readAny b 60).2.2.1 a0 Q σ
theorem t_X7_readNot {o : gOm} {l : Launch} {b : Bool} {σ : gSt} (hR : σ.2.2 = gRf b) {a0 : Int32} {Q : Int32 → gSt → Prop} (h : W_X7_readNot b a0 Q σ) : Sp o l mX7_readNot 123 0 0 [.ref (ad o 4), .int a0] 116 116 σ (pI (fun x s => s.2.2 = gRf b ∧ Q x s)) := (tr_X7_readAny (o := o) (l := l) (b := b) 60).2.2.1 hR h
def W_X7_readTest (b : Bool) (a0 : Int32) (Q : Int32 → gSt → Prop) (σ : gSt) : Prop := (WR_X7_readAny b 60).2.2.2 a0 Q σ
theorem t_X7_readTest {o : gOm} {l : Launch} {b : Bool} {σ : gSt} (hR : σ.2.2 = gRf b) {a0 : Int32} {Q : Int32 → gSt → Prop} (h : W_X7_readTest b a0 Q σ) : Sp o l mX7_readTest 123 0 0 [.ref (ad o 4), .int a0] 116 116 σ (pI (fun x s => s.2.2 = gRf b ∧ Q x s)) := (tr_X7_readAny (o := o) (l := l) (b := b) 60).2.2.2 hR h
def W_X7_readClause (b : Bool)  (Q : Int32 → gSt → Prop) (σ : gSt) : Prop := ∀ J2 : Int32 → Prop, (∀ x1, (∀ J3 : Prop, ((W_X9_isFull ((kD b)) (fun x4 => ((x4 = 0 → (W_X9_open ((kD b)) (σ.1 4 8) (fun s6 => W_X7_advance (fun s7 => ∀ J9 : gSt → Prop, (∀ s8, (W_X9_beginCondition ((kD b)) (fun s10 => ∀ J12 : gSt → Prop, (∀ s11, (W_X7_pass (nI 59) (fun x13 s14 => ((x13 = 0 → (Q (nI 0) s14)) ∧ (¬ x13 = 0 → (W_X9_close ((kD b)) (fun s16 => Q (nI 1) s16) s14)))) s11) → J12 s11) → ∀ J17 : Prop, ((W_X7_pass ((-13 : Int32)) (fun x18 s19 => ((x18 = 0 → (Q (nI 0) s19)) ∧ (¬ x18 = 0 → (W_X7_readAny b (nI 0) (fun x21 s22 => ((x21 = 0 → (Q (nI 0) s22)) ∧ (¬ x21 = 0 → (J12 s22)))) s19)))) s10) → J17) → ((x1 = 0 → J17) ∧ (¬ x1 = 0 → ((((s10.1 4 8) = ((-13 : Int32)) → J17) ∧ (¬ (s10.1 4 8) = ((-13 : Int32)) → (J12 s10))))))) s8) → J9 s8) → ((x1 = 0 → (J9 s7)) ∧ (¬ x1 = 0 → (W_X7_readSum b (nI 0) (fun x27 s28 => ((x27 = 0 → (Q (nI 0) s28)) ∧ (¬ x27 = 0 → (J9 s28)))) s7)))) s6) σ)) ∧ (¬ x4 = 0 → (W_X7_refuse (nI 3) (fun x30 s31 => ((x30 = 0 ∨ x30 = 1) ∧ Q x30 s31)) σ)))) σ) → J3) → ((x1 = 0 → ((((σ.1 4 8) = ((-11 : Int32)) → J3) ∧ (¬ (σ.1 4 8) = ((-11 : Int32)) → ((((σ.1 4 8) = ((-12 : Int32)) → J3) ∧ (¬ (σ.1 4 8) = ((-12 : Int32)) → (W_X7_refuse (nI 1) (fun x35 s36 => ((x35 = 0 ∨ x35 = 1) ∧ Q x35 s36)) σ)))))))) ∧ (¬ x1 = 0 → J3))) → J2 x1) → ∀ J37 : Prop, ((J2 (nI 1)) → J37) → (((σ.1 4 8) = ((-9 : Int32)) → J37) ∧ (¬ (σ.1 4 8) = ((-9 : Int32)) → ((((σ.1 4 8) = ((-10 : Int32)) → J37) ∧ (¬ (σ.1 4 8) = ((-10 : Int32)) → (J2 (nI 0)))))))
set_option maxHeartbeats 4000000 in
theorem t_X7_readClause {o : gOm} {l : Launch} {b : Bool}   {σ : gSt} (hR : σ.2.2 = gRf b)  {Q : Int32 → gSt → Prop} (h : W_X7_readClause b  Q σ) : Sp o l mX7_readClause 124 0 0 [.ref (ad o 4)] 116 116 σ (pI (fun x s => s.2.2 = gRf b ∧ Q x s)) := by
  cases b
  · unfold W_X7_readClause at h
    refine Sp.of (ls0 := [some (.ref (ad o 4)), none, none]) miX7_readClause rfl (Nat.le_of_ble_eq_true rfl) rfl (fun γ hγ hnm X Y => ?_)
    subst hγ
    have X : gX o γ cX7_readClause 3 RX7 := X
    refine g_aload_0 (pc := 0) X dX7_readClause_0 ?_
    refine g_getI (pc := 1) X dX7_readClause_1 rfl (by decide) fl_X7_51 (Or.inl rfl) ?_
    refine g_istore_1 (pc := 4) X dX7_readClause_4 (by decide) rfl ?_
    refine g_iload_1 (pc := 5) X dX7_readClause_5 ?_
    refine g_bipush (pc := 6) X dX7_readClause_6 kbipush_m9 ?_
    replace h := h (fun x1 => G o γ 0 0 116 σ 22 [some (.ref (ad o 4)), some (.int (σ.1 4 8)), none] [.int x1]) (by
        intro x1 h
        refine g_istore_2 (pc := 22) X dX7_readClause_22 (by decide) rfl ?_
        refine g_iload_2 (pc := 23) X dX7_readClause_23 ?_
        replace h := h (G o γ 0 0 116 σ 45 [some (.ref (ad o 4)), some (.int (σ.1 4 8)), some (.int x1)] []) (by
            intro  h
            refine g_aload_0 (pc := 45) X dX7_readClause_45 ?_
            refine g_getRf (pc := 46) X dX7_readClause_46 fl_X7_18 rfl (by decide) rfl hR rfl ?_
            refine g_callV_I (pc := 49) X Y dX7_readClause_49 miX9_isFull li_X7_139 (t_X9_isFull hR (by decide) h) rfl (by decide) rfl ⟨_, rfl⟩ rfl ⟨Nat.le_of_ble_eq_true rfl, Nat.le_of_ble_eq_true rfl⟩ (Nat.le_of_ble_eq_true rfl) (Nat.le_of_ble_eq_true rfl) rfl (by exact Nat.le_of_ble_eq_true rfl) (fun x4 σ9 hp => ?_)
            obtain ⟨rfl, h⟩ := hp
            refine g_if_eq (pc := 52) X dX7_readClause_52 (tgt := 61) (by decide) (fun q5 => ?_) (fun q5 => ?_)
            · replace h := h.1 q5
              refine g_aload_0 (pc := 61) X dX7_readClause_61 ?_
              refine g_getRf (pc := 62) X dX7_readClause_62 fl_X7_18 rfl (by decide) rfl hR rfl ?_
              refine g_iload_1 (pc := 65) X dX7_readClause_65 ?_
              refine g_callV_V (pc := 66) X Y dX7_readClause_66 miX9_open li_X7_142 (t_X9_open hR (by decide) h) rfl (by decide) rfl ⟨_, rfl⟩ rfl ⟨Nat.le_of_ble_eq_true rfl, Nat.le_of_ble_eq_true rfl⟩ (Nat.le_of_ble_eq_true rfl) (Nat.le_of_ble_eq_true rfl) rfl (by exact Nat.le_of_ble_eq_true rfl) (fun s6 hp => ?_)
              obtain ⟨hR, h⟩ := hp
              refine g_aload_0 (pc := 69) X dX7_readClause_69 ?_
              refine g_callV_V (pc := 70) X Y dX7_readClause_70 miX7_advance li_X7_129 (t_X7_advance hR  h) rfl (by decide) rfl ⟨_, rfl⟩ rfl ⟨Nat.le_of_ble_eq_true rfl, Nat.le_of_ble_eq_true rfl⟩ (Nat.le_of_ble_eq_true rfl) (Nat.le_of_ble_eq_true rfl) rfl (by exact Nat.le_of_ble_eq_true rfl) (fun s7 hp => ?_)
              obtain ⟨hR, h⟩ := hp
              refine g_iload_2 (pc := 73) X dX7_readClause_73 ?_
              replace h := h (fun s8 => s8.2.2 = gRf false → G o γ 0 0 116 s8 87 [some (.ref (ad o 4)), none, some (.int x1)] []) (by
                  intro s8 h hR
                  refine g_aload_0 (pc := 87) X dX7_readClause_87 ?_
                  refine g_getRf (pc := 88) X dX7_readClause_88 fl_X7_18 rfl (by decide) rfl hR rfl ?_
                  refine g_callV_V (pc := 91) X Y dX7_readClause_91 miX9_beginCondition li_X7_148 (t_X9_beginCondition hR (by decide) h) rfl (by decide) rfl ⟨_, rfl⟩ rfl ⟨Nat.le_of_ble_eq_true rfl, Nat.le_of_ble_eq_true rfl⟩ (Nat.le_of_ble_eq_true rfl) (Nat.le_of_ble_eq_true rfl) rfl (by exact Nat.le_of_ble_eq_true rfl) (fun s10 hp => ?_)
                  obtain ⟨hR, h⟩ := hp
                  refine g_iload_2 (pc := 94) X dX7_readClause_94 ?_
                  replace h := h (fun s11 => s11.2.2 = gRf false → G o γ 0 0 116 s11 126 [some (.ref (ad o 4)), none, none] []) (by
                      intro s11 h hR
                      refine g_aload_0 (pc := 126) X dX7_readClause_126 ?_
                      refine g_bipush (pc := 127) X dX7_readClause_127 kbipush_59 ?_
                      refine g_callV_I (pc := 129) X Y dX7_readClause_129 miX7_pass li_X7_132 (t_X7_pass hR  h) rfl (by decide) rfl ⟨_, rfl⟩ rfl ⟨Nat.le_of_ble_eq_true rfl, Nat.le_of_ble_eq_true rfl⟩ (Nat.le_of_ble_eq_true rfl) (Nat.le_of_ble_eq_true rfl) rfl (by exact Nat.le_of_ble_eq_true rfl) (fun x13 s14 hp => ?_)
                      obtain ⟨hR, h⟩ := hp
                      refine g_if_ne (pc := 132) X dX7_readClause_132 (tgt := 137) (by decide) (fun q15 => ?_) (fun q15 => ?_)
                      · replace h := h.2 q15
                        refine g_aload_0 (pc := 137) X dX7_readClause_137 ?_
                        refine g_getRf (pc := 138) X dX7_readClause_138 fl_X7_18 rfl (by decide) rfl hR rfl ?_
                        refine g_callV_V (pc := 141) X Y dX7_readClause_141 miX9_close li_X7_154 (t_X9_close hR (by decide) h) rfl (by decide) rfl ⟨_, rfl⟩ rfl ⟨Nat.le_of_ble_eq_true rfl, Nat.le_of_ble_eq_true rfl⟩ (Nat.le_of_ble_eq_true rfl) (Nat.le_of_ble_eq_true rfl) rfl (by exact Nat.le_of_ble_eq_true rfl) (fun s16 hp => ?_)
                        obtain ⟨hR, h⟩ := hp
                        refine g_iconst (pc := 144) X dX7_readClause_144 kiconst_1 ?_
                        exact g_zreturn (pc := 145) X Y dX7_readClause_145 (by first | exact Or.inl rfl | exact Or.inr rfl) (Nat.le_of_ble_eq_true rfl) (Nat.le_of_ble_eq_true rfl) ⟨_, rfl, hR, h⟩
                      · replace h := h.1 q15
                        refine g_iconst (pc := 135) X dX7_readClause_135 kiconst_0 ?_
                        exact g_zreturn (pc := 136) X Y dX7_readClause_136 (by first | exact Or.inl rfl | exact Or.inr rfl) (Nat.le_of_ble_eq_true rfl) (Nat.le_of_ble_eq_true rfl) ⟨_, rfl, hR, h⟩)
                  replace h := h (G o γ 0 0 116 s10 107 [some (.ref (ad o 4)), none, none] []) (by
                      intro  h
                      refine g_aload_0 (pc := 107) X dX7_readClause_107 ?_
                      refine g_bipush (pc := 108) X dX7_readClause_108 kbipush_m13 ?_
                      refine g_callV_I (pc := 110) X Y dX7_readClause_110 miX7_pass li_X7_132 (t_X7_pass hR  h) rfl (by decide) rfl ⟨_, rfl⟩ rfl ⟨Nat.le_of_ble_eq_true rfl, Nat.le_of_ble_eq_true rfl⟩ (Nat.le_of_ble_eq_true rfl) (Nat.le_of_ble_eq_true rfl) rfl (by exact Nat.le_of_ble_eq_true rfl) (fun x18 s19 hp => ?_)
                      obtain ⟨hR, h⟩ := hp
                      refine g_if_eq (pc := 113) X dX7_readClause_113 (tgt := 124) (by decide) (fun q20 => ?_) (fun q20 => ?_)
                      · replace h := h.1 q20
                        refine g_iconst (pc := 124) X dX7_readClause_124 kiconst_0 ?_
                        exact g_zreturn (pc := 125) X Y dX7_readClause_125 (by first | exact Or.inl rfl | exact Or.inr rfl) (Nat.le_of_ble_eq_true rfl) (Nat.le_of_ble_eq_true rfl) ⟨_, rfl, hR, h⟩
                      · replace h := h.2 q20
                        refine g_aload_0 (pc := 116) X dX7_readClause_116 ?_
                        refine g_iconst (pc := 117) X dX7_readClause_117 kiconst_0 ?_
                        refine g_callV_I (pc := 118) X Y dX7_readClause_118 miX7_readAny li_X7_151 (t_X7_readAny hR  h) rfl (by decide) rfl ⟨_, rfl⟩ rfl ⟨Nat.le_of_ble_eq_true rfl, Nat.le_of_ble_eq_true rfl⟩ (Nat.le_of_ble_eq_true rfl) (Nat.le_of_ble_eq_true rfl) rfl (by exact Nat.le_of_ble_eq_true rfl) (fun x21 s22 hp => ?_)
                        obtain ⟨hR, h⟩ := hp
                        refine g_if_ne (pc := 121) X dX7_readClause_121 (tgt := 126) (by decide) (fun q23 => ?_) (fun q23 => ?_)
                        · replace h := h.2 q23
                          exact h hR
                        · replace h := h.1 q23
                          refine g_iconst (pc := 124) X dX7_readClause_124 kiconst_0 ?_
                          exact g_zreturn (pc := 125) X Y dX7_readClause_125 (by first | exact Or.inl rfl | exact Or.inr rfl) (Nat.le_of_ble_eq_true rfl) (Nat.le_of_ble_eq_true rfl) ⟨_, rfl, hR, h⟩)
                  refine g_if_eq (pc := 95) X dX7_readClause_95 (tgt := 107) (by decide) (fun q24 => ?_) (fun q24 => ?_)
                  · replace h := h.1 q24
                    exact g_drop (by simp [lsub]) (h)
                  · replace h := h.2 q24
                    refine g_aload_0 (pc := 98) X dX7_readClause_98 ?_
                    refine g_getI (pc := 99) X dX7_readClause_99 rfl (by decide) fl_X7_51 (Or.inl rfl) ?_
                    refine g_bipush (pc := 102) X dX7_readClause_102 kbipush_m13 ?_
                    refine g_icmp_ne (pc := 104) X dX7_readClause_104 (tgt := 126) (by decide) (fun q25 => ?_) (fun q25 => ?_)
                    · replace h := h.2 q25
                      exact g_drop (by simp [lsub]) (h hR)
                    · replace h := h.1 q25
                      exact g_drop (by simp [lsub]) (h))
              refine g_if_eq (pc := 74) X dX7_readClause_74 (tgt := 87) (by decide) (fun q26 => ?_) (fun q26 => ?_)
              · replace h := h.1 q26
                exact g_drop (by simp [lsub]) (h hR)
              · replace h := h.2 q26
                refine g_aload_0 (pc := 77) X dX7_readClause_77 ?_
                refine g_iconst (pc := 78) X dX7_readClause_78 kiconst_0 ?_
                refine g_callV_I (pc := 79) X Y dX7_readClause_79 miX7_readSum li_X7_145 (t_X7_readSum hR  h) rfl (by decide) rfl ⟨_, rfl⟩ rfl ⟨Nat.le_of_ble_eq_true rfl, Nat.le_of_ble_eq_true rfl⟩ (Nat.le_of_ble_eq_true rfl) (Nat.le_of_ble_eq_true rfl) rfl (by exact Nat.le_of_ble_eq_true rfl) (fun x27 s28 hp => ?_)
                obtain ⟨hR, h⟩ := hp
                refine g_if_ne (pc := 82) X dX7_readClause_82 (tgt := 87) (by decide) (fun q29 => ?_) (fun q29 => ?_)
                · replace h := h.2 q29
                  exact g_drop (by simp [lsub]) (h hR)
                · replace h := h.1 q29
                  refine g_iconst (pc := 85) X dX7_readClause_85 kiconst_0 ?_
                  exact g_zreturn (pc := 86) X Y dX7_readClause_86 (by first | exact Or.inl rfl | exact Or.inr rfl) (Nat.le_of_ble_eq_true rfl) (Nat.le_of_ble_eq_true rfl) ⟨_, rfl, hR, h⟩
            · replace h := h.2 q5
              refine g_aload_0 (pc := 55) X dX7_readClause_55 ?_
              refine g_iconst (pc := 56) X dX7_readClause_56 kiconst_3 ?_
              refine g_callV_I (pc := 57) X Y dX7_readClause_57 miX7_refuse li_X7_126 (t_X7_refuse hR  h) rfl (by decide) rfl ⟨_, rfl⟩ rfl ⟨Nat.le_of_ble_eq_true rfl, Nat.le_of_ble_eq_true rfl⟩ (Nat.le_of_ble_eq_true rfl) (Nat.le_of_ble_eq_true rfl) rfl (by exact Nat.le_of_ble_eq_true rfl) (fun x30 s31 hp => ?_)
              obtain ⟨hR, h⟩ := hp
              exact g_zreturn (pc := 60) X Y dX7_readClause_60 h.1 (Nat.le_of_ble_eq_true rfl) (Nat.le_of_ble_eq_true rfl) ⟨_, rfl, hR, h.2⟩)
        refine g_if_ne (pc := 24) X dX7_readClause_24 (tgt := 45) (by decide) (fun q32 => ?_) (fun q32 => ?_)
        · replace h := h.2 q32
          exact h
        · replace h := h.1 q32
          refine g_iload_1 (pc := 27) X dX7_readClause_27 ?_
          refine g_bipush (pc := 28) X dX7_readClause_28 kbipush_m11 ?_
          refine g_icmp_eq (pc := 30) X dX7_readClause_30 (tgt := 45) (by decide) (fun q33 => ?_) (fun q33 => ?_)
          · replace h := h.1 q33
            exact h
          · replace h := h.2 q33
            refine g_iload_1 (pc := 33) X dX7_readClause_33 ?_
            refine g_bipush (pc := 34) X dX7_readClause_34 kbipush_m12 ?_
            refine g_icmp_eq (pc := 36) X dX7_readClause_36 (tgt := 45) (by decide) (fun q34 => ?_) (fun q34 => ?_)
            · replace h := h.1 q34
              exact h
            · replace h := h.2 q34
              refine g_aload_0 (pc := 39) X dX7_readClause_39 ?_
              refine g_iconst (pc := 40) X dX7_readClause_40 kiconst_1 ?_
              refine g_callV_I (pc := 41) X Y dX7_readClause_41 miX7_refuse li_X7_126 (t_X7_refuse hR  h) rfl (by decide) rfl ⟨_, rfl⟩ rfl ⟨Nat.le_of_ble_eq_true rfl, Nat.le_of_ble_eq_true rfl⟩ (Nat.le_of_ble_eq_true rfl) (Nat.le_of_ble_eq_true rfl) rfl (by exact Nat.le_of_ble_eq_true rfl) (fun x35 s36 hp => ?_)
              obtain ⟨hR, h⟩ := hp
              exact g_zreturn (pc := 44) X Y dX7_readClause_44 h.1 (Nat.le_of_ble_eq_true rfl) (Nat.le_of_ble_eq_true rfl) ⟨_, rfl, hR, h.2⟩)
    replace h := h (G o γ 0 0 116 σ 17 [some (.ref (ad o 4)), some (.int (σ.1 4 8)), none] []) (by
        intro  h
        refine g_iconst (pc := 17) X dX7_readClause_17 kiconst_1 ?_
        refine g_goto (pc := 18) X dX7_readClause_18 (tgt := 22) (by decide) ?_
        exact h)
    refine g_icmp_eq (pc := 8) X dX7_readClause_8 (tgt := 17) (by decide) (fun q38 => ?_) (fun q38 => ?_)
    · replace h := h.1 q38
      exact h
    · replace h := h.2 q38
      refine g_iload_1 (pc := 11) X dX7_readClause_11 ?_
      refine g_bipush (pc := 12) X dX7_readClause_12 kbipush_m10 ?_
      refine g_icmp_ne (pc := 14) X dX7_readClause_14 (tgt := 21) (by decide) (fun q39 => ?_) (fun q39 => ?_)
      · replace h := h.2 q39
        refine g_iconst (pc := 21) X dX7_readClause_21 kiconst_0 ?_
        exact h
      · replace h := h.1 q39
        exact h
  · unfold W_X7_readClause at h
    refine Sp.of (ls0 := [some (.ref (ad o 4)), none, none]) miX7_readClause rfl (Nat.le_of_ble_eq_true rfl) rfl (fun γ hγ hnm X Y => ?_)
    subst hγ
    have X : gX o γ cX7_readClause 3 RX7 := X
    refine g_aload_0 (pc := 0) X dX7_readClause_0 ?_
    refine g_getI (pc := 1) X dX7_readClause_1 rfl (by decide) fl_X7_51 (Or.inl rfl) ?_
    refine g_istore_1 (pc := 4) X dX7_readClause_4 (by decide) rfl ?_
    refine g_iload_1 (pc := 5) X dX7_readClause_5 ?_
    refine g_bipush (pc := 6) X dX7_readClause_6 kbipush_m9 ?_
    replace h := h (fun x1 => G o γ 0 0 116 σ 22 [some (.ref (ad o 4)), some (.int (σ.1 4 8)), none] [.int x1]) (by
        intro x1 h
        refine g_istore_2 (pc := 22) X dX7_readClause_22 (by decide) rfl ?_
        refine g_iload_2 (pc := 23) X dX7_readClause_23 ?_
        replace h := h (G o γ 0 0 116 σ 45 [some (.ref (ad o 4)), some (.int (σ.1 4 8)), some (.int x1)] []) (by
            intro  h
            refine g_aload_0 (pc := 45) X dX7_readClause_45 ?_
            refine g_getRf (pc := 46) X dX7_readClause_46 fl_X7_18 rfl (by decide) rfl hR rfl ?_
            refine g_callV_I (pc := 49) X Y dX7_readClause_49 miX9_isFull li_X7_139 (t_X9_isFull hR (by decide) h) rfl (by decide) rfl ⟨_, rfl⟩ rfl ⟨Nat.le_of_ble_eq_true rfl, Nat.le_of_ble_eq_true rfl⟩ (Nat.le_of_ble_eq_true rfl) (Nat.le_of_ble_eq_true rfl) rfl (by exact Nat.le_of_ble_eq_true rfl) (fun x4 σ9 hp => ?_)
            obtain ⟨rfl, h⟩ := hp
            refine g_if_eq (pc := 52) X dX7_readClause_52 (tgt := 61) (by decide) (fun q5 => ?_) (fun q5 => ?_)
            · replace h := h.1 q5
              refine g_aload_0 (pc := 61) X dX7_readClause_61 ?_
              refine g_getRf (pc := 62) X dX7_readClause_62 fl_X7_18 rfl (by decide) rfl hR rfl ?_
              refine g_iload_1 (pc := 65) X dX7_readClause_65 ?_
              refine g_callV_V (pc := 66) X Y dX7_readClause_66 miX9_open li_X7_142 (t_X9_open hR (by decide) h) rfl (by decide) rfl ⟨_, rfl⟩ rfl ⟨Nat.le_of_ble_eq_true rfl, Nat.le_of_ble_eq_true rfl⟩ (Nat.le_of_ble_eq_true rfl) (Nat.le_of_ble_eq_true rfl) rfl (by exact Nat.le_of_ble_eq_true rfl) (fun s6 hp => ?_)
              obtain ⟨hR, h⟩ := hp
              refine g_aload_0 (pc := 69) X dX7_readClause_69 ?_
              refine g_callV_V (pc := 70) X Y dX7_readClause_70 miX7_advance li_X7_129 (t_X7_advance hR  h) rfl (by decide) rfl ⟨_, rfl⟩ rfl ⟨Nat.le_of_ble_eq_true rfl, Nat.le_of_ble_eq_true rfl⟩ (Nat.le_of_ble_eq_true rfl) (Nat.le_of_ble_eq_true rfl) rfl (by exact Nat.le_of_ble_eq_true rfl) (fun s7 hp => ?_)
              obtain ⟨hR, h⟩ := hp
              refine g_iload_2 (pc := 73) X dX7_readClause_73 ?_
              replace h := h (fun s8 => s8.2.2 = gRf true → G o γ 0 0 116 s8 87 [some (.ref (ad o 4)), none, some (.int x1)] []) (by
                  intro s8 h hR
                  refine g_aload_0 (pc := 87) X dX7_readClause_87 ?_
                  refine g_getRf (pc := 88) X dX7_readClause_88 fl_X7_18 rfl (by decide) rfl hR rfl ?_
                  refine g_callV_V (pc := 91) X Y dX7_readClause_91 miX9_beginCondition li_X7_148 (t_X9_beginCondition hR (by decide) h) rfl (by decide) rfl ⟨_, rfl⟩ rfl ⟨Nat.le_of_ble_eq_true rfl, Nat.le_of_ble_eq_true rfl⟩ (Nat.le_of_ble_eq_true rfl) (Nat.le_of_ble_eq_true rfl) rfl (by exact Nat.le_of_ble_eq_true rfl) (fun s10 hp => ?_)
                  obtain ⟨hR, h⟩ := hp
                  refine g_iload_2 (pc := 94) X dX7_readClause_94 ?_
                  replace h := h (fun s11 => s11.2.2 = gRf true → G o γ 0 0 116 s11 126 [some (.ref (ad o 4)), none, none] []) (by
                      intro s11 h hR
                      refine g_aload_0 (pc := 126) X dX7_readClause_126 ?_
                      refine g_bipush (pc := 127) X dX7_readClause_127 kbipush_59 ?_
                      refine g_callV_I (pc := 129) X Y dX7_readClause_129 miX7_pass li_X7_132 (t_X7_pass hR  h) rfl (by decide) rfl ⟨_, rfl⟩ rfl ⟨Nat.le_of_ble_eq_true rfl, Nat.le_of_ble_eq_true rfl⟩ (Nat.le_of_ble_eq_true rfl) (Nat.le_of_ble_eq_true rfl) rfl (by exact Nat.le_of_ble_eq_true rfl) (fun x13 s14 hp => ?_)
                      obtain ⟨hR, h⟩ := hp
                      refine g_if_ne (pc := 132) X dX7_readClause_132 (tgt := 137) (by decide) (fun q15 => ?_) (fun q15 => ?_)
                      · replace h := h.2 q15
                        refine g_aload_0 (pc := 137) X dX7_readClause_137 ?_
                        refine g_getRf (pc := 138) X dX7_readClause_138 fl_X7_18 rfl (by decide) rfl hR rfl ?_
                        refine g_callV_V (pc := 141) X Y dX7_readClause_141 miX9_close li_X7_154 (t_X9_close hR (by decide) h) rfl (by decide) rfl ⟨_, rfl⟩ rfl ⟨Nat.le_of_ble_eq_true rfl, Nat.le_of_ble_eq_true rfl⟩ (Nat.le_of_ble_eq_true rfl) (Nat.le_of_ble_eq_true rfl) rfl (by exact Nat.le_of_ble_eq_true rfl) (fun s16 hp => ?_)
                        obtain ⟨hR, h⟩ := hp
                        refine g_iconst (pc := 144) X dX7_readClause_144 kiconst_1 ?_
                        exact g_zreturn (pc := 145) X Y dX7_readClause_145 (by first | exact Or.inl rfl | exact Or.inr rfl) (Nat.le_of_ble_eq_true rfl) (Nat.le_of_ble_eq_true rfl) ⟨_, rfl, hR, h⟩
                      · replace h := h.1 q15
                        refine g_iconst (pc := 135) X dX7_readClause_135 kiconst_0 ?_
                        exact g_zreturn (pc := 136) X Y dX7_readClause_136 (by first | exact Or.inl rfl | exact Or.inr rfl) (Nat.le_of_ble_eq_true rfl) (Nat.le_of_ble_eq_true rfl) ⟨_, rfl, hR, h⟩)
                  replace h := h (G o γ 0 0 116 s10 107 [some (.ref (ad o 4)), none, none] []) (by
                      intro  h
                      refine g_aload_0 (pc := 107) X dX7_readClause_107 ?_
                      refine g_bipush (pc := 108) X dX7_readClause_108 kbipush_m13 ?_
                      refine g_callV_I (pc := 110) X Y dX7_readClause_110 miX7_pass li_X7_132 (t_X7_pass hR  h) rfl (by decide) rfl ⟨_, rfl⟩ rfl ⟨Nat.le_of_ble_eq_true rfl, Nat.le_of_ble_eq_true rfl⟩ (Nat.le_of_ble_eq_true rfl) (Nat.le_of_ble_eq_true rfl) rfl (by exact Nat.le_of_ble_eq_true rfl) (fun x18 s19 hp => ?_)
                      obtain ⟨hR, h⟩ := hp
                      refine g_if_eq (pc := 113) X dX7_readClause_113 (tgt := 124) (by decide) (fun q20 => ?_) (fun q20 => ?_)
                      · replace h := h.1 q20
                        refine g_iconst (pc := 124) X dX7_readClause_124 kiconst_0 ?_
                        exact g_zreturn (pc := 125) X Y dX7_readClause_125 (by first | exact Or.inl rfl | exact Or.inr rfl) (Nat.le_of_ble_eq_true rfl) (Nat.le_of_ble_eq_true rfl) ⟨_, rfl, hR, h⟩
                      · replace h := h.2 q20
                        refine g_aload_0 (pc := 116) X dX7_readClause_116 ?_
                        refine g_iconst (pc := 117) X dX7_readClause_117 kiconst_0 ?_
                        refine g_callV_I (pc := 118) X Y dX7_readClause_118 miX7_readAny li_X7_151 (t_X7_readAny hR  h) rfl (by decide) rfl ⟨_, rfl⟩ rfl ⟨Nat.le_of_ble_eq_true rfl, Nat.le_of_ble_eq_true rfl⟩ (Nat.le_of_ble_eq_true rfl) (Nat.le_of_ble_eq_true rfl) rfl (by exact Nat.le_of_ble_eq_true rfl) (fun x21 s22 hp => ?_)
                        obtain ⟨hR, h⟩ := hp
                        refine g_if_ne (pc := 121) X dX7_readClause_121 (tgt := 126) (by decide) (fun q23 => ?_) (fun q23 => ?_)
                        · replace h := h.2 q23
                          exact h hR
                        · replace h := h.1 q23
                          refine g_iconst (pc := 124) X dX7_readClause_124 kiconst_0 ?_
                          exact g_zreturn (pc := 125) X Y dX7_readClause_125 (by first | exact Or.inl rfl | exact Or.inr rfl) (Nat.le_of_ble_eq_true rfl) (Nat.le_of_ble_eq_true rfl) ⟨_, rfl, hR, h⟩)
                  refine g_if_eq (pc := 95) X dX7_readClause_95 (tgt := 107) (by decide) (fun q24 => ?_) (fun q24 => ?_)
                  · replace h := h.1 q24
                    exact g_drop (by simp [lsub]) (h)
                  · replace h := h.2 q24
                    refine g_aload_0 (pc := 98) X dX7_readClause_98 ?_
                    refine g_getI (pc := 99) X dX7_readClause_99 rfl (by decide) fl_X7_51 (Or.inl rfl) ?_
                    refine g_bipush (pc := 102) X dX7_readClause_102 kbipush_m13 ?_
                    refine g_icmp_ne (pc := 104) X dX7_readClause_104 (tgt := 126) (by decide) (fun q25 => ?_) (fun q25 => ?_)
                    · replace h := h.2 q25
                      exact g_drop (by simp [lsub]) (h hR)
                    · replace h := h.1 q25
                      exact g_drop (by simp [lsub]) (h))
              refine g_if_eq (pc := 74) X dX7_readClause_74 (tgt := 87) (by decide) (fun q26 => ?_) (fun q26 => ?_)
              · replace h := h.1 q26
                exact g_drop (by simp [lsub]) (h hR)
              · replace h := h.2 q26
                refine g_aload_0 (pc := 77) X dX7_readClause_77 ?_
                refine g_iconst (pc := 78) X dX7_readClause_78 kiconst_0 ?_
                refine g_callV_I (pc := 79) X Y dX7_readClause_79 miX7_readSum li_X7_145 (t_X7_readSum hR  h) rfl (by decide) rfl ⟨_, rfl⟩ rfl ⟨Nat.le_of_ble_eq_true rfl, Nat.le_of_ble_eq_true rfl⟩ (Nat.le_of_ble_eq_true rfl) (Nat.le_of_ble_eq_true rfl) rfl (by exact Nat.le_of_ble_eq_true rfl) (fun x27 s28 hp => ?_)
                obtain ⟨hR, h⟩ := hp
                refine g_if_ne (pc := 82) X dX7_readClause_82 (tgt := 87) (by decide) (fun q29 => ?_) (fun q29 => ?_)
                · replace h := h.2 q29
                  exact g_drop (by simp [lsub]) (h hR)
                · replace h := h.1 q29
                  refine g_iconst (pc := 85) X dX7_readClause_85 kiconst_0 ?_
                  exact g_zreturn (pc := 86) X Y dX7_readClause_86 (by first | exact Or.inl rfl | exact Or.inr rfl) (Nat.le_of_ble_eq_true rfl) (Nat.le_of_ble_eq_true rfl) ⟨_, rfl, hR, h⟩
            · replace h := h.2 q5
              refine g_aload_0 (pc := 55) X dX7_readClause_55 ?_
              refine g_iconst (pc := 56) X dX7_readClause_56 kiconst_3 ?_
              refine g_callV_I (pc := 57) X Y dX7_readClause_57 miX7_refuse li_X7_126 (t_X7_refuse hR  h) rfl (by decide) rfl ⟨_, rfl⟩ rfl ⟨Nat.le_of_ble_eq_true rfl, Nat.le_of_ble_eq_true rfl⟩ (Nat.le_of_ble_eq_true rfl) (Nat.le_of_ble_eq_true rfl) rfl (by exact Nat.le_of_ble_eq_true rfl) (fun x30 s31 hp => ?_)
              obtain ⟨hR, h⟩ := hp
              exact g_zreturn (pc := 60) X Y dX7_readClause_60 h.1 (Nat.le_of_ble_eq_true rfl) (Nat.le_of_ble_eq_true rfl) ⟨_, rfl, hR, h.2⟩)
        refine g_if_ne (pc := 24) X dX7_readClause_24 (tgt := 45) (by decide) (fun q32 => ?_) (fun q32 => ?_)
        · replace h := h.2 q32
          exact h
        · replace h := h.1 q32
          refine g_iload_1 (pc := 27) X dX7_readClause_27 ?_
          refine g_bipush (pc := 28) X dX7_readClause_28 kbipush_m11 ?_
          refine g_icmp_eq (pc := 30) X dX7_readClause_30 (tgt := 45) (by decide) (fun q33 => ?_) (fun q33 => ?_)
          · replace h := h.1 q33
            exact h
          · replace h := h.2 q33
            refine g_iload_1 (pc := 33) X dX7_readClause_33 ?_
            refine g_bipush (pc := 34) X dX7_readClause_34 kbipush_m12 ?_
            refine g_icmp_eq (pc := 36) X dX7_readClause_36 (tgt := 45) (by decide) (fun q34 => ?_) (fun q34 => ?_)
            · replace h := h.1 q34
              exact h
            · replace h := h.2 q34
              refine g_aload_0 (pc := 39) X dX7_readClause_39 ?_
              refine g_iconst (pc := 40) X dX7_readClause_40 kiconst_1 ?_
              refine g_callV_I (pc := 41) X Y dX7_readClause_41 miX7_refuse li_X7_126 (t_X7_refuse hR  h) rfl (by decide) rfl ⟨_, rfl⟩ rfl ⟨Nat.le_of_ble_eq_true rfl, Nat.le_of_ble_eq_true rfl⟩ (Nat.le_of_ble_eq_true rfl) (Nat.le_of_ble_eq_true rfl) rfl (by exact Nat.le_of_ble_eq_true rfl) (fun x35 s36 hp => ?_)
              obtain ⟨hR, h⟩ := hp
              exact g_zreturn (pc := 44) X Y dX7_readClause_44 h.1 (Nat.le_of_ble_eq_true rfl) (Nat.le_of_ble_eq_true rfl) ⟨_, rfl, hR, h.2⟩)
    replace h := h (G o γ 0 0 116 σ 17 [some (.ref (ad o 4)), some (.int (σ.1 4 8)), none] []) (by
        intro  h
        refine g_iconst (pc := 17) X dX7_readClause_17 kiconst_1 ?_
        refine g_goto (pc := 18) X dX7_readClause_18 (tgt := 22) (by decide) ?_
        exact h)
    refine g_icmp_eq (pc := 8) X dX7_readClause_8 (tgt := 17) (by decide) (fun q38 => ?_) (fun q38 => ?_)
    · replace h := h.1 q38
      exact h
    · replace h := h.2 q38
      refine g_iload_1 (pc := 11) X dX7_readClause_11 ?_
      refine g_bipush (pc := 12) X dX7_readClause_12 kbipush_m10 ?_
      refine g_icmp_ne (pc := 14) X dX7_readClause_14 (tgt := 21) (by decide) (fun q39 => ?_) (fun q39 => ?_)
      · replace h := h.2 q39
        refine g_iconst (pc := 21) X dX7_readClause_21 kiconst_0 ?_
        exact h
      · replace h := h.1 q39
        exact h
def L_X7_read_44 (b : Bool) (Q : Int32 → gSt → Prop)  (K : gSt → Prop) : Nat → Int32 → gSt → Prop
  | 0, _, _ => False
  | n44 + 1, v9, s10 => (((nI 16) < v9 → (K s10)) ∧ (¬ (nI 16) < v9 → ((((s10.1 4 8) = ((-18 : Int32)) → (K s10)) ∧ (¬ (s10.1 4 8) = ((-18 : Int32)) → (W_X7_readClause b (fun x14 s15 => ((x14 = 0 → (Q (nI 0) s15)) ∧ (¬ x14 = 0 → (L_X7_read_44 b Q K n44 (v9 + nI 1) s15)))) s10))))))
def W_X7_read (b : Bool) (p0 : Int32) (Q : Int32 → gSt → Prop) (σ : gSt) : Prop := W_X7_scan p0 (fun s1 => fI s1 4 0 (nI 0) (fun s2 => fI s2 4 1 (nI 0) (fun s3 => fI s3 4 2 ((-1 : Int32)) (fun s4 => W_X9_clear ((kD b)) (fun s5 => fI s5 4 9 (nI 0) (fun s6 => rI s6 13 401 (nI 0) (fun x7 => fI s6 4 8 x7 (fun s8 => ∃ m44, L_X7_read_44 b Q (fun s18 => Q (nI 1) s18) m44 (nI 0) s8)))) s4)))) σ
set_option maxHeartbeats 4000000 in
theorem t_X7_read {o : gOm} {l : Launch} {b : Bool}   {σ : gSt} (hR : σ.2.2 = gRf b) {p0 : Int32} {Q : Int32 → gSt → Prop} (h : W_X7_read b p0 Q σ) : Sp o l mX7_read 125 0 0 [.ref (ad o 4), .int p0] 116 116 σ (pI (fun x s => s.2.2 = gRf b ∧ Q x s)) := by
  cases b
  · unfold W_X7_read at h
    refine Sp.of (ls0 := [some (.ref (ad o 4)), some (.int p0), none]) miX7_read rfl (Nat.le_of_ble_eq_true rfl) rfl (fun γ hγ hnm X Y => ?_)
    subst hγ
    have X : gX o γ cX7_read 3 RX7 := X
    refine g_aload_0 (pc := 0) X dX7_read_0 ?_
    refine g_iload_1 (pc := 1) X dX7_read_1 ?_
    refine g_callV_V (pc := 2) X Y dX7_read_2 miX7_scan li_X7_38 (t_X7_scan hR  h) rfl (by decide) rfl ⟨_, rfl⟩ rfl ⟨Nat.le_of_ble_eq_true rfl, Nat.le_of_ble_eq_true rfl⟩ (Nat.le_of_ble_eq_true rfl) (Nat.le_of_ble_eq_true rfl) rfl (by exact Nat.le_of_ble_eq_true rfl) (fun s1 hp => ?_)
    obtain ⟨hR, h⟩ := hp
    refine g_aload_0 (pc := 5) X dX7_read_5 ?_
    refine g_iconst (pc := 6) X dX7_read_6 kiconst_0 ?_
    refine g_putI_w (pc := 7) X dX7_read_7 fl_X7_35 rfl (by decide) rfl rfl hR h (fun s2 hR h => ?_)
    refine g_aload_0 (pc := 10) X dX7_read_10 ?_
    refine g_iconst (pc := 11) X dX7_read_11 kiconst_0 ?_
    refine g_putI_w (pc := 12) X dX7_read_12 fl_X7_42 rfl (by decide) rfl rfl hR h (fun s3 hR h => ?_)
    refine g_aload_0 (pc := 15) X dX7_read_15 ?_
    refine g_iconst (pc := 16) X dX7_read_16 kiconst_m1 ?_
    refine g_putI_w (pc := 17) X dX7_read_17 fl_X7_9 rfl (by decide) rfl rfl hR h (fun s4 hR h => ?_)
    refine g_aload_0 (pc := 20) X dX7_read_20 ?_
    refine g_getRf (pc := 21) X dX7_read_21 fl_X7_18 rfl (by decide) rfl hR rfl ?_
    refine g_callV_V (pc := 24) X Y dX7_read_24 miX9_clear li_X7_45 (t_X9_clear hR (by decide) h) rfl (by decide) rfl ⟨_, rfl⟩ rfl ⟨Nat.le_of_ble_eq_true rfl, Nat.le_of_ble_eq_true rfl⟩ (Nat.le_of_ble_eq_true rfl) (Nat.le_of_ble_eq_true rfl) rfl (by exact Nat.le_of_ble_eq_true rfl) (fun s5 hp => ?_)
    obtain ⟨hR, h⟩ := hp
    refine g_aload_0 (pc := 27) X dX7_read_27 ?_
    refine g_iconst (pc := 28) X dX7_read_28 kiconst_0 ?_
    refine g_putI_w (pc := 29) X dX7_read_29 fl_X7_48 rfl (by decide) rfl rfl hR h (fun s6 hR h => ?_)
    refine g_aload_0 (pc := 32) X dX7_read_32 ?_
    refine g_aload_0 (pc := 33) X dX7_read_33 ?_
    refine g_getRf (pc := 34) X dX7_read_34 fl_X7_26 rfl (by decide) rfl hR rfl ?_
    refine g_iconst (pc := 37) X dX7_read_37 kiconst_0 ?_
    refine g_iaload_w (pc := 38) X dX7_read_38 rfl (by decide) h (fun x7 h => ?_)
    refine g_putI_w (pc := 39) X dX7_read_39 fl_X7_51 rfl (by decide) rfl rfl hR h (fun s8 hR h => ?_)
    refine g_iconst (pc := 42) X dX7_read_42 kiconst_0 ?_
    refine g_istore_2 (pc := 43) X dX7_read_43 (by decide) rfl ?_
    obtain ⟨n17, h⟩ := h
    have hL : ∀  (K : gSt → Prop) (_ : ∀  (s11 : gSt), s11.2.2 = gRf false → K s11 → G o γ 0 0 116 s11 74 [some (.ref (ad o 4)), none, none] []) (n : Nat) (v9 : Int32) (s10 : gSt), s10.2.2 = gRf false → L_X7_read_44 false Q K n v9 s10 → G o γ 0 0 116 s10 44 [some (.ref (ad o 4)), none, some (.int v9)] [] := by
      intro K hK n
      induction n with
      | zero => intro v9 s10 hR h; exact False.elim h
      | succ n ih =>
        intro v9 s10 hR h
        rw [L_X7_read_44] at h
        refine g_iload_2 (pc := 44) X dX7_read_44 ?_
        refine g_bipush (pc := 45) X dX7_read_45 kbipush_16 ?_
        refine g_icmp_gt (pc := 47) X dX7_read_47 (tgt := 74) (by decide) (fun q12 => ?_) (fun q12 => ?_)
        · replace h := h.1 q12
          exact g_drop (by simp [lsub]) (hK s10 hR h)
        · replace h := h.2 q12
          refine g_aload_0 (pc := 50) X dX7_read_50 ?_
          refine g_getI (pc := 51) X dX7_read_51 rfl (by decide) fl_X7_51 (Or.inl rfl) ?_
          refine g_bipush (pc := 54) X dX7_read_54 kbipush_m18 ?_
          refine g_icmp_eq (pc := 56) X dX7_read_56 (tgt := 74) (by decide) (fun q13 => ?_) (fun q13 => ?_)
          · replace h := h.1 q13
            exact g_drop (by simp [lsub]) (hK s10 hR h)
          · replace h := h.2 q13
            refine g_aload_0 (pc := 59) X dX7_read_59 ?_
            refine g_callV_I (pc := 60) X Y dX7_read_60 miX7_readClause li_X7_54 (t_X7_readClause hR  h) rfl (by decide) rfl ⟨_, rfl⟩ rfl ⟨Nat.le_of_ble_eq_true rfl, Nat.le_of_ble_eq_true rfl⟩ (Nat.le_of_ble_eq_true rfl) (Nat.le_of_ble_eq_true rfl) rfl (by exact Nat.le_of_ble_eq_true rfl) (fun x14 s15 hp => ?_)
            obtain ⟨hR, h⟩ := hp
            refine g_if_ne (pc := 63) X dX7_read_63 (tgt := 68) (by decide) (fun q16 => ?_) (fun q16 => ?_)
            · replace h := h.2 q16
              refine g_iinc_2 (pc := 68) X dX7_read_68 (v := v9 + nI 1) rfl (by decide) rfl ?_
              refine g_goto (pc := 71) X dX7_read_71 (tgt := 44) (by decide) ?_
              exact ih (v9 + nI 1) s15 hR h
            · replace h := h.1 q16
              refine g_iconst (pc := 66) X dX7_read_66 kiconst_0 ?_
              exact g_zreturn (pc := 67) X Y dX7_read_67 (by first | exact Or.inl rfl | exact Or.inr rfl) (Nat.le_of_ble_eq_true rfl) (Nat.le_of_ble_eq_true rfl) ⟨_, rfl, hR, h⟩
    refine g_drop (by simp [lsub]) (hL  _ (fun s18 hR h => ?_) n17 (nI 0) s8 hR h)
    · refine g_iconst (pc := 74) X dX7_read_74 kiconst_1 ?_
      exact g_zreturn (pc := 75) X Y dX7_read_75 (by first | exact Or.inl rfl | exact Or.inr rfl) (Nat.le_of_ble_eq_true rfl) (Nat.le_of_ble_eq_true rfl) ⟨_, rfl, hR, h⟩
  · unfold W_X7_read at h
    refine Sp.of (ls0 := [some (.ref (ad o 4)), some (.int p0), none]) miX7_read rfl (Nat.le_of_ble_eq_true rfl) rfl (fun γ hγ hnm X Y => ?_)
    subst hγ
    have X : gX o γ cX7_read 3 RX7 := X
    refine g_aload_0 (pc := 0) X dX7_read_0 ?_
    refine g_iload_1 (pc := 1) X dX7_read_1 ?_
    refine g_callV_V (pc := 2) X Y dX7_read_2 miX7_scan li_X7_38 (t_X7_scan hR  h) rfl (by decide) rfl ⟨_, rfl⟩ rfl ⟨Nat.le_of_ble_eq_true rfl, Nat.le_of_ble_eq_true rfl⟩ (Nat.le_of_ble_eq_true rfl) (Nat.le_of_ble_eq_true rfl) rfl (by exact Nat.le_of_ble_eq_true rfl) (fun s1 hp => ?_)
    obtain ⟨hR, h⟩ := hp
    refine g_aload_0 (pc := 5) X dX7_read_5 ?_
    refine g_iconst (pc := 6) X dX7_read_6 kiconst_0 ?_
    refine g_putI_w (pc := 7) X dX7_read_7 fl_X7_35 rfl (by decide) rfl rfl hR h (fun s2 hR h => ?_)
    refine g_aload_0 (pc := 10) X dX7_read_10 ?_
    refine g_iconst (pc := 11) X dX7_read_11 kiconst_0 ?_
    refine g_putI_w (pc := 12) X dX7_read_12 fl_X7_42 rfl (by decide) rfl rfl hR h (fun s3 hR h => ?_)
    refine g_aload_0 (pc := 15) X dX7_read_15 ?_
    refine g_iconst (pc := 16) X dX7_read_16 kiconst_m1 ?_
    refine g_putI_w (pc := 17) X dX7_read_17 fl_X7_9 rfl (by decide) rfl rfl hR h (fun s4 hR h => ?_)
    refine g_aload_0 (pc := 20) X dX7_read_20 ?_
    refine g_getRf (pc := 21) X dX7_read_21 fl_X7_18 rfl (by decide) rfl hR rfl ?_
    refine g_callV_V (pc := 24) X Y dX7_read_24 miX9_clear li_X7_45 (t_X9_clear hR (by decide) h) rfl (by decide) rfl ⟨_, rfl⟩ rfl ⟨Nat.le_of_ble_eq_true rfl, Nat.le_of_ble_eq_true rfl⟩ (Nat.le_of_ble_eq_true rfl) (Nat.le_of_ble_eq_true rfl) rfl (by exact Nat.le_of_ble_eq_true rfl) (fun s5 hp => ?_)
    obtain ⟨hR, h⟩ := hp
    refine g_aload_0 (pc := 27) X dX7_read_27 ?_
    refine g_iconst (pc := 28) X dX7_read_28 kiconst_0 ?_
    refine g_putI_w (pc := 29) X dX7_read_29 fl_X7_48 rfl (by decide) rfl rfl hR h (fun s6 hR h => ?_)
    refine g_aload_0 (pc := 32) X dX7_read_32 ?_
    refine g_aload_0 (pc := 33) X dX7_read_33 ?_
    refine g_getRf (pc := 34) X dX7_read_34 fl_X7_26 rfl (by decide) rfl hR rfl ?_
    refine g_iconst (pc := 37) X dX7_read_37 kiconst_0 ?_
    refine g_iaload_w (pc := 38) X dX7_read_38 rfl (by decide) h (fun x7 h => ?_)
    refine g_putI_w (pc := 39) X dX7_read_39 fl_X7_51 rfl (by decide) rfl rfl hR h (fun s8 hR h => ?_)
    refine g_iconst (pc := 42) X dX7_read_42 kiconst_0 ?_
    refine g_istore_2 (pc := 43) X dX7_read_43 (by decide) rfl ?_
    obtain ⟨n17, h⟩ := h
    have hL : ∀  (K : gSt → Prop) (_ : ∀  (s11 : gSt), s11.2.2 = gRf true → K s11 → G o γ 0 0 116 s11 74 [some (.ref (ad o 4)), none, none] []) (n : Nat) (v9 : Int32) (s10 : gSt), s10.2.2 = gRf true → L_X7_read_44 true Q K n v9 s10 → G o γ 0 0 116 s10 44 [some (.ref (ad o 4)), none, some (.int v9)] [] := by
      intro K hK n
      induction n with
      | zero => intro v9 s10 hR h; exact False.elim h
      | succ n ih =>
        intro v9 s10 hR h
        rw [L_X7_read_44] at h
        refine g_iload_2 (pc := 44) X dX7_read_44 ?_
        refine g_bipush (pc := 45) X dX7_read_45 kbipush_16 ?_
        refine g_icmp_gt (pc := 47) X dX7_read_47 (tgt := 74) (by decide) (fun q12 => ?_) (fun q12 => ?_)
        · replace h := h.1 q12
          exact g_drop (by simp [lsub]) (hK s10 hR h)
        · replace h := h.2 q12
          refine g_aload_0 (pc := 50) X dX7_read_50 ?_
          refine g_getI (pc := 51) X dX7_read_51 rfl (by decide) fl_X7_51 (Or.inl rfl) ?_
          refine g_bipush (pc := 54) X dX7_read_54 kbipush_m18 ?_
          refine g_icmp_eq (pc := 56) X dX7_read_56 (tgt := 74) (by decide) (fun q13 => ?_) (fun q13 => ?_)
          · replace h := h.1 q13
            exact g_drop (by simp [lsub]) (hK s10 hR h)
          · replace h := h.2 q13
            refine g_aload_0 (pc := 59) X dX7_read_59 ?_
            refine g_callV_I (pc := 60) X Y dX7_read_60 miX7_readClause li_X7_54 (t_X7_readClause hR  h) rfl (by decide) rfl ⟨_, rfl⟩ rfl ⟨Nat.le_of_ble_eq_true rfl, Nat.le_of_ble_eq_true rfl⟩ (Nat.le_of_ble_eq_true rfl) (Nat.le_of_ble_eq_true rfl) rfl (by exact Nat.le_of_ble_eq_true rfl) (fun x14 s15 hp => ?_)
            obtain ⟨hR, h⟩ := hp
            refine g_if_ne (pc := 63) X dX7_read_63 (tgt := 68) (by decide) (fun q16 => ?_) (fun q16 => ?_)
            · replace h := h.2 q16
              refine g_iinc_2 (pc := 68) X dX7_read_68 (v := v9 + nI 1) rfl (by decide) rfl ?_
              refine g_goto (pc := 71) X dX7_read_71 (tgt := 44) (by decide) ?_
              exact ih (v9 + nI 1) s15 hR h
            · replace h := h.1 q16
              refine g_iconst (pc := 66) X dX7_read_66 kiconst_0 ?_
              exact g_zreturn (pc := 67) X Y dX7_read_67 (by first | exact Or.inl rfl | exact Or.inr rfl) (Nat.le_of_ble_eq_true rfl) (Nat.le_of_ble_eq_true rfl) ⟨_, rfl, hR, h⟩
    refine g_drop (by simp [lsub]) (hL  _ (fun s18 hR h => ?_) n17 (nI 0) s8 hR h)
    · refine g_iconst (pc := 74) X dX7_read_74 kiconst_1 ?_
      exact g_zreturn (pc := 75) X Y dX7_read_75 (by first | exact Or.inl rfl | exact Or.inr rfl) (Nat.le_of_ble_eq_true rfl) (Nat.le_of_ble_eq_true rfl) ⟨_, rfl, hR, h⟩
def L_X4_passedCount_4 (Q : Int32 → Prop)  (σ : gSt) (K : Int32 → Prop) : Nat → Int32 → Int32 → Prop
  | 0, _, _ => False
  | n4 + 1, v1, v2 => (((σ.1 1 0) ≤ v2 → (K v1)) ∧ (¬ (σ.1 1 0) ≤ v2 → (rI σ 27 30 v2 (fun x5 => W_J6_bitCount_0f7a4 x5 (fun x6 => L_X4_passedCount_4 Q σ K n4 (v1 + x6) (v2 + nI 1)) σ))))
def W_X4_passedCount  (Q : Int32 → Prop) (σ : gSt) : Prop := ∃ m4, L_X4_passedCount_4 Q σ (fun y8 => ¬ (nI 2) = 0 ∧ Q (y8 / (nI 2))) m4 (nI 0) (nI 0)
set_option maxHeartbeats 4000000 in
theorem t_X4_passedCount {o : gOm} {l : Launch} {b : Bool}   {σ : gSt} (hR : σ.2.2 = gRf b)  {Q : Int32 → Prop} (h : W_X4_passedCount  Q σ) : Sp o l mX4_passedCount 2 0 0 [.ref (ad o 16)] 116 116 σ (pI (fun x s => σ = s ∧ Q x)) := by
  unfold W_X4_passedCount at h
  refine Sp.of (ls0 := [some (.ref (ad o 16)), none, none]) miX4_passedCount rfl (Nat.le_of_ble_eq_true rfl) rfl (fun γ hγ hnm X Y => ?_)
  subst hγ
  have X : gX o γ cX4_passedCount 3 RX4 := X
  refine g_iconst (pc := 0) X dX4_passedCount_0 kiconst_0 ?_
  refine g_istore_1 (pc := 1) X dX4_passedCount_1 (by decide) rfl ?_
  refine g_iconst (pc := 2) X dX4_passedCount_2 kiconst_0 ?_
  refine g_istore_2 (pc := 3) X dX4_passedCount_3 (by decide) rfl ?_
  obtain ⟨n7, h⟩ := h
  have hL : ∀  (K : Int32 → Prop) (_ : ∀ (y3 : Int32), K y3 → G o γ 0 0 116 σ 33 [some (.ref (ad o 16)), some (.int y3), none] []) (n : Nat) (v1 : Int32) (v2 : Int32), L_X4_passedCount_4 Q σ K n v1 v2 → G o γ 0 0 116 σ 4 [some (.ref (ad o 16)), some (.int v1), some (.int v2)] [] := by
    intro K hK n
    induction n with
    | zero => intro v1 v2 h; exact False.elim h
    | succ n ih =>
      intro v1 v2 h
      rw [L_X4_passedCount_4] at h
      refine g_iload_2 (pc := 4) X dX4_passedCount_4 ?_
      refine g_aload_0 (pc := 5) X dX4_passedCount_5 ?_
      refine g_getRf (pc := 6) X dX4_passedCount_6 fl_X4_37 rfl (by decide) rfl hR rfl ?_
      refine g_getI (pc := 9) X dX4_passedCount_9 rfl (by decide) fl_X4_41 (Or.inl rfl) ?_
      refine g_icmp_ge (pc := 12) X dX4_passedCount_12 (tgt := 33) (by decide) (fun q4 => ?_) (fun q4 => ?_)
      · replace h := h.1 q4
        exact g_drop (by simp [lsub]) (hK v1 h)
      · replace h := h.2 q4
        refine g_iload_1 (pc := 15) X dX4_passedCount_15 ?_
        refine g_aload_0 (pc := 16) X dX4_passedCount_16 ?_
        refine g_getRf (pc := 17) X dX4_passedCount_17 fl_X4_28 rfl (by decide) rfl hR rfl ?_
        refine g_iload_2 (pc := 20) X dX4_passedCount_20 ?_
        refine g_iaload_w (pc := 21) X dX4_passedCount_21 rfl (by decide) h (fun x5 h => ?_)
        refine g_callS_I (pc := 22) X Y dX4_passedCount_22 miJ6_bitCount_0f7a4 li_X4_67 (t_J6_bitCount_0f7a4 hR  h) rfl ⟨Nat.le_of_ble_eq_true rfl, Nat.le_of_ble_eq_true rfl⟩ (Nat.le_of_ble_eq_true rfl) (Nat.le_of_ble_eq_true rfl) rfl (by exact Nat.le_of_ble_eq_true rfl) (fun x6 σ9 hp => ?_)
        obtain ⟨rfl, h⟩ := hp
        refine g_iadd (pc := 25) X dX4_passedCount_25 ?_
        refine g_istore_1 (pc := 26) X dX4_passedCount_26 (by decide) rfl ?_
        refine g_iinc_2 (pc := 27) X dX4_passedCount_27 (v := v2 + nI 1) rfl (by decide) rfl ?_
        refine g_goto (pc := 30) X dX4_passedCount_30 (tgt := 4) (by decide) ?_
        exact ih (v1 + x6) (v2 + nI 1) h
  refine hL  _ (fun y8 h => ?_) n7 (nI 0) (nI 0) h
  · refine g_iload_1 (pc := 33) X dX4_passedCount_33 ?_
    refine g_iconst (pc := 34) X dX4_passedCount_34 kiconst_2 ?_
    obtain ⟨q, h⟩ := h
    refine g_idiv (pc := 35) X dX4_passedCount_35 q ?_
    exact g_ireturn (pc := 36) X Y dX4_passedCount_36 (Nat.le_of_ble_eq_true rfl) (Nat.le_of_ble_eq_true rfl) ⟨_, rfl, rfl, h⟩
def L_X2_heapCount_4 (Q : Int32 → Prop)  (σ : gSt) (K : Int32 → Prop) : Nat → Int32 → Int32 → Prop
  | 0, _, _ => False
  | n4 + 1, v1, v2 => (((σ.1 33 1) ≤ v2 → (K v1)) ∧ (¬ (σ.1 33 1) ≤ v2 → (rI σ 34 30 v2 (fun x5 => ((x5 = v2 → (L_X2_heapCount_4 Q σ K n4 (v1 + nI 1) (v2 + nI 1))) ∧ (¬ x5 = v2 → (L_X2_heapCount_4 Q σ K n4 v1 (v2 + nI 1))))))))
def W_X2_heapCount  (Q : Int32 → Prop) (σ : gSt) : Prop := ∃ m4, L_X2_heapCount_4 Q σ (fun y8 => Q y8) m4 (nI 0) (nI 0)
set_option maxHeartbeats 4000000 in
theorem t_X2_heapCount {o : gOm} {l : Launch} {b : Bool}   {σ : gSt} (hR : σ.2.2 = gRf b)  {Q : Int32 → Prop} (h : W_X2_heapCount  Q σ) : Sp o l mX2_heapCount 1 0 0 [.ref (ad o 33)] 116 116 σ (pI (fun x s => σ = s ∧ Q x)) := by
  unfold W_X2_heapCount at h
  refine Sp.of (ls0 := [some (.ref (ad o 33)), none, none]) miX2_heapCount rfl (Nat.le_of_ble_eq_true rfl) rfl (fun γ hγ hnm X Y => ?_)
  subst hγ
  have X : gX o γ cX2_heapCount 3 RX2 := X
  refine g_iconst (pc := 0) X dX2_heapCount_0 kiconst_0 ?_
  refine g_istore_1 (pc := 1) X dX2_heapCount_1 (by decide) rfl ?_
  refine g_iconst (pc := 2) X dX2_heapCount_2 kiconst_0 ?_
  refine g_istore_2 (pc := 3) X dX2_heapCount_3 (by decide) rfl ?_
  obtain ⟨n7, h⟩ := h
  have hL : ∀  (K : Int32 → Prop) (_ : ∀ (y3 : Int32), K y3 → G o γ 0 0 116 σ 31 [some (.ref (ad o 33)), some (.int y3), none] []) (n : Nat) (v1 : Int32) (v2 : Int32), L_X2_heapCount_4 Q σ K n v1 v2 → G o γ 0 0 116 σ 4 [some (.ref (ad o 33)), some (.int v1), some (.int v2)] [] := by
    intro K hK n
    induction n with
    | zero => intro v1 v2 h; exact False.elim h
    | succ n ih =>
      intro v1 v2 h
      rw [L_X2_heapCount_4] at h
      refine g_iload_2 (pc := 4) X dX2_heapCount_4 ?_
      refine g_aload_0 (pc := 5) X dX2_heapCount_5 ?_
      refine g_getI (pc := 6) X dX2_heapCount_6 rfl (by decide) fl_X2_32 (Or.inl rfl) ?_
      refine g_icmp_ge (pc := 9) X dX2_heapCount_9 (tgt := 31) (by decide) (fun q4 => ?_) (fun q4 => ?_)
      · replace h := h.1 q4
        exact g_drop (by simp [lsub]) (hK v1 h)
      · replace h := h.2 q4
        refine g_aload_0 (pc := 12) X dX2_heapCount_12 ?_
        refine g_getRf (pc := 13) X dX2_heapCount_13 fl_X2_9 rfl (by decide) rfl hR rfl ?_
        refine g_iload_2 (pc := 16) X dX2_heapCount_16 ?_
        refine g_iaload_w (pc := 17) X dX2_heapCount_17 rfl (by decide) h (fun x5 h => ?_)
        refine g_iload_2 (pc := 18) X dX2_heapCount_18 ?_
        refine g_icmp_ne (pc := 19) X dX2_heapCount_19 (tgt := 25) (by decide) (fun q6 => ?_) (fun q6 => ?_)
        · replace h := h.2 q6
          refine g_iinc_2 (pc := 25) X dX2_heapCount_25 (v := v2 + nI 1) rfl (by decide) rfl ?_
          refine g_goto (pc := 28) X dX2_heapCount_28 (tgt := 4) (by decide) ?_
          exact ih v1 (v2 + nI 1) h
        · replace h := h.1 q6
          refine g_iinc_1 (pc := 22) X dX2_heapCount_22 (v := v1 + nI 1) rfl (by decide) rfl ?_
          refine g_iinc_2 (pc := 25) X dX2_heapCount_25 (v := v2 + nI 1) rfl (by decide) rfl ?_
          refine g_goto (pc := 28) X dX2_heapCount_28 (tgt := 4) (by decide) ?_
          exact ih (v1 + nI 1) (v2 + nI 1) h
  refine hL  _ (fun y8 h => ?_) n7 (nI 0) (nI 0) h
  · refine g_iload_1 (pc := 31) X dX2_heapCount_31 ?_
    exact g_ireturn (pc := 32) X Y dX2_heapCount_32 (Nat.le_of_ble_eq_true rfl) (Nat.le_of_ble_eq_true rfl) ⟨_, rfl, rfl, h⟩
def L_X0_prepare_23 (Q : gSt → Prop) (c6 : Int32) (K : gSt → Prop) : Nat → Int32 → gSt → Prop
  | 0, _, _ => False
  | n23 + 1, v7, s8 => ((c6 ≤ v7 → (K s8)) ∧ (¬ c6 ≤ v7 → (WPI mX3_partsThem 3 (fun o => [.ref (ad o 30), .int c6, .int v7]) (fun x11 => WSV mX11_setBit 1 (fun o => [.ref (ad o 39), .int c6, .int v7, .int x11]) (fun s12 => L_X0_prepare_23 Q c6 K n23 (v7 + nI 1) s12) s8) s8)))
def L_X0_prepare_10 (Q : gSt → Prop)  (K : gSt → Prop) : Nat → Int32 → gSt → Prop
  | 0, _, _ => False
  | n10 + 1, v2, s3 => (((s3.1 33 1) ≤ v2 → (K s3)) ∧ (¬ (s3.1 33 1) ≤ v2 → (∃ m23, L_X0_prepare_23 Q v2 (fun s14 => L_X0_prepare_10 Q K n10 (v2 + nI 1) s14) m23 (nI 0) s3)))
def W_X0_prepare  (Q : gSt → Prop) (σ : gSt) : Prop := W_J7_fill_53178 39 (nI 0) (fun s1 => ∃ m10, L_X0_prepare_10 Q (fun s16 => Q s16) m10 (nI 1) s1) σ
set_option maxHeartbeats 4000000 in
theorem t_X0_prepare {o : gOm} {l : Launch} {b : Bool}   {σ : gSt} (hR : σ.2.2 = gRf b)  {Q : gSt → Prop} (h : W_X0_prepare  Q σ) : Sp o l mX0_prepare 4 0 0 [.ref (ad o 38)] 116 116 σ (pV (fun s => s.2.2 = gRf b ∧ Q s)) := by
  unfold W_X0_prepare at h
  refine Sp.of (ls0 := [some (.ref (ad o 38)), none, none]) miX0_prepare rfl (Nat.le_of_ble_eq_true rfl) rfl (fun γ hγ hnm X Y => ?_)
  subst hγ
  have X : gX o γ cX0_prepare 3 RX0 := X
  refine g_aload_0 (pc := 0) X dX0_prepare_0 ?_
  refine g_getRf (pc := 1) X dX0_prepare_1 fl_X0_9 rfl (by decide) rfl hR rfl ?_
  refine g_iconst (pc := 4) X dX0_prepare_4 kiconst_0 ?_
  refine g_callS_V (pc := 5) X Y dX0_prepare_5 miJ7_fill_53178 li_X0_33 (t_J7_fill_53178 hR (by decide) (by decide) h) rfl ⟨Nat.le_of_ble_eq_true rfl, Nat.le_of_ble_eq_true rfl⟩ (Nat.le_of_ble_eq_true rfl) (Nat.le_of_ble_eq_true rfl) rfl (by exact Nat.le_of_ble_eq_true rfl) (fun s1 hp => ?_)
  obtain ⟨hR, h⟩ := hp
  refine g_iconst (pc := 8) X dX0_prepare_8 kiconst_1 ?_
  refine g_istore_1 (pc := 9) X dX0_prepare_9 (by decide) rfl ?_
  obtain ⟨n15, h⟩ := h
  have hL : ∀  (K : gSt → Prop) (_ : ∀  (s4 : gSt), s4.2.2 = gRf b → K s4 → G o γ 0 0 116 s4 58 [some (.ref (ad o 38)), none, none] []) (n : Nat) (v2 : Int32) (s3 : gSt), s3.2.2 = gRf b → L_X0_prepare_10 Q K n v2 s3 → G o γ 0 0 116 s3 10 [some (.ref (ad o 38)), some (.int v2), none] [] := by
    intro K hK n
    induction n with
    | zero => intro v2 s3 hR h; exact False.elim h
    | succ n ih =>
      intro v2 s3 hR h
      rw [L_X0_prepare_10] at h
      refine g_iload_1 (pc := 10) X dX0_prepare_10 ?_
      refine g_aload_0 (pc := 11) X dX0_prepare_11 ?_
      refine g_getRf (pc := 12) X dX0_prepare_12 fl_X0_21 rfl (by decide) rfl hR rfl ?_
      refine g_getI (pc := 15) X dX0_prepare_15 rfl (by decide) fl_X0_39 (Or.inl rfl) ?_
      refine g_icmp_ge (pc := 18) X dX0_prepare_18 (tgt := 58) (by decide) (fun q5 => ?_) (fun q5 => ?_)
      · replace h := h.1 q5
        exact g_drop (by simp [lsub]) (hK s3 hR h)
      · replace h := h.2 q5
        refine g_iconst (pc := 21) X dX0_prepare_21 kiconst_0 ?_
        refine g_istore_2 (pc := 22) X dX0_prepare_22 (by decide) rfl ?_
        obtain ⟨n13, h⟩ := h
        have hL : ∀ (c6 : Int32) (K : gSt → Prop) (_ : ∀  (s9 : gSt), s9.2.2 = gRf b → K s9 → G o γ 0 0 116 s9 52 [some (.ref (ad o 38)), some (.int c6), none] []) (n : Nat) (v7 : Int32) (s8 : gSt), s8.2.2 = gRf b → L_X0_prepare_23 Q c6 K n v7 s8 → G o γ 0 0 116 s8 23 [some (.ref (ad o 38)), some (.int c6), some (.int v7)] [] := by
          intro c6 K hK n
          induction n with
          | zero => intro v7 s8 hR h; exact False.elim h
          | succ n ih =>
            intro v7 s8 hR h
            rw [L_X0_prepare_23] at h
            refine g_iload_2 (pc := 23) X dX0_prepare_23 ?_
            refine g_iload_1 (pc := 24) X dX0_prepare_24 ?_
            refine g_icmp_ge (pc := 25) X dX0_prepare_25 (tgt := 52) (by decide) (fun q10 => ?_) (fun q10 => ?_)
            · replace h := h.1 q10
              exact g_drop (by simp [lsub]) (hK s8 hR h)
            · replace h := h.2 q10
              refine g_aload_0 (pc := 28) X dX0_prepare_28 ?_
              refine g_getRf (pc := 29) X dX0_prepare_29 fl_X0_9 rfl (by decide) rfl hR rfl ?_
              refine g_iload_1 (pc := 32) X dX0_prepare_32 ?_
              refine g_iload_2 (pc := 33) X dX0_prepare_33 ?_
              refine g_aload_0 (pc := 34) X dX0_prepare_34 ?_
              refine g_getRf (pc := 35) X dX0_prepare_35 fl_X0_29 rfl (by decide) rfl hR rfl ?_
              refine g_iload_1 (pc := 38) X dX0_prepare_38 ?_
              refine g_iload_2 (pc := 39) X dX0_prepare_39 ?_
              refine g_callV_I (pc := 40) X Y dX0_prepare_40 miX3_partsThem li_X0_45 (t_WPI hR  h) rfl (by decide) rfl ⟨_, rfl⟩ rfl ⟨Nat.le_of_ble_eq_true rfl, Nat.le_of_ble_eq_true rfl⟩ (Nat.le_of_ble_eq_true rfl) (Nat.le_of_ble_eq_true rfl) rfl (by exact Nat.le_of_ble_eq_true rfl) (fun x11 σ9 hp => ?_)
              obtain ⟨rfl, h⟩ := hp
              refine g_callSN_V (pc := 43) X Y dX0_prepare_43 miX11_setBit li_X0_51 (t_WSV hR  h) rfl ⟨Nat.le_of_ble_eq_true rfl, Nat.le_of_ble_eq_true rfl⟩ (Nat.le_of_ble_eq_true rfl) (Nat.le_of_ble_eq_true rfl) rfl (by exact Nat.le_of_ble_eq_true rfl) (fun s12 hp => ?_)
              obtain ⟨hR, h⟩ := hp
              refine g_iinc_2 (pc := 46) X dX0_prepare_46 (v := v7 + nI 1) rfl (by decide) rfl ?_
              refine g_goto (pc := 49) X dX0_prepare_49 (tgt := 23) (by decide) ?_
              exact ih (v7 + nI 1) s12 hR h
        refine hL v2 _ (fun s14 hR h => ?_) n13 (nI 0) s3 hR h
        · refine g_iinc_1 (pc := 52) X dX0_prepare_52 (v := v2 + nI 1) rfl (by decide) rfl ?_
          refine g_goto (pc := 55) X dX0_prepare_55 (tgt := 10) (by decide) ?_
          exact ih (v2 + nI 1) s14 hR h
  refine hL  _ (fun s16 hR h => ?_) n15 (nI 1) s1 hR h
  · exact g_return (pc := 58) X Y dX0_prepare_58 (Nat.le_of_ble_eq_true rfl) (Nat.le_of_ble_eq_true rfl) ⟨rfl, hR, h⟩
def L_X0_measure_62 (Q : gSt → Prop) (c12 : Int32) (K : gSt → Prop) : Nat → Int32 → gSt → Prop
  | 0, _, _ => False
  | n62 + 1, v13, s14 => (((s14.1 33 1) ≤ v13 → (K s14)) ∧ (¬ (s14.1 33 1) ≤ v13 → (rI s14 34 30 c12 (fun x17 => rI s14 41 900 ((v13 * (nI 30)) + x17) (fun x18 => WPI mX4_pull 1 (fun o => [.ref (ad o 16), .int v13, .int c12]) (fun x19 => wI s14 41 900 ((v13 * (nI 30)) + x17) (x18 + x19) (fun s20 => L_X0_measure_62 Q c12 K n62 (v13 + nI 1) s20)) s14)))))
def L_X0_measure_29 (Q : gSt → Prop)  (K : gSt → Prop) : Nat → Int32 → gSt → Prop
  | 0, _, _ => False
  | n29 + 1, v5, s6 => (((s6.1 33 1) ≤ v5 → (K s6)) ∧ (¬ (s6.1 33 1) ≤ v5 → (rI s6 34 30 v5 (fun x9 => rI s6 40 30 x9 (fun x10 => wI s6 40 30 x9 (x10 ||| ((nI 1) <<< (v5 &&& 31))) (fun s11 => ∃ m62, L_X0_measure_62 Q v5 (fun s22 => L_X0_measure_29 Q K n29 (v5 + nI 1) s22) m62 (nI 0) s11))))))
def W_X0_measure  (Q : gSt → Prop) (σ : gSt) : Prop := WPL mX2_price 2 (fun o => [.ref (ad o 33)]) (fun x1 => fL σ 38 7 x1 (fun s2 => W_J7_fill_53178 40 (nI 0) (fun s3 => W_J7_fill_53178 41 (nI 0) (fun s4 => ∃ m29, L_X0_measure_29 Q (fun s24 => Q s24) m29 (nI 0) s4) s3) s2)) σ
set_option maxHeartbeats 4000000 in
theorem t_X0_measure {o : gOm} {l : Launch} {b : Bool}   {σ : gSt} (hR : σ.2.2 = gRf b)  {Q : gSt → Prop} (h : W_X0_measure  Q σ) : Sp o l mX0_measure 3 0 0 [.ref (ad o 38)] 116 116 σ (pV (fun s => s.2.2 = gRf b ∧ Q s)) := by
  unfold W_X0_measure at h
  refine Sp.of (ls0 := [some (.ref (ad o 38)), none, none]) miX0_measure rfl (Nat.le_of_ble_eq_true rfl) rfl (fun γ hγ hnm X Y => ?_)
  subst hγ
  have X : gX o γ cX0_measure 3 RX0 := X
  refine g_aload_0 (pc := 0) X dX0_measure_0 ?_
  refine g_aload_0 (pc := 1) X dX0_measure_1 ?_
  refine g_getRf (pc := 2) X dX0_measure_2 fl_X0_21 rfl (by decide) rfl hR rfl ?_
  refine g_callV_L (pc := 5) X Y dX0_measure_5 miX2_price li_X0_97 (t_WPL hR  h) rfl (by decide) rfl ⟨_, rfl⟩ rfl ⟨Nat.le_of_ble_eq_true rfl, Nat.le_of_ble_eq_true rfl⟩ (Nat.le_of_ble_eq_true rfl) (Nat.le_of_ble_eq_true rfl) rfl (by exact Nat.le_of_ble_eq_true rfl) (fun x1 σ9 hp => ?_)
  obtain ⟨rfl, h⟩ := hp
  refine g_putL_w (pc := 8) X dX0_measure_8 fl_X0_61 rfl (by decide) rfl rfl hR h (fun s2 hR h => ?_)
  refine g_aload_0 (pc := 11) X dX0_measure_11 ?_
  refine g_getRf (pc := 12) X dX0_measure_12 fl_X0_15 rfl (by decide) rfl hR rfl ?_
  refine g_iconst (pc := 15) X dX0_measure_15 kiconst_0 ?_
  refine g_callS_V (pc := 16) X Y dX0_measure_16 miJ7_fill_53178 li_X0_33 (t_J7_fill_53178 hR (by decide) (by decide) h) rfl ⟨Nat.le_of_ble_eq_true rfl, Nat.le_of_ble_eq_true rfl⟩ (Nat.le_of_ble_eq_true rfl) (Nat.le_of_ble_eq_true rfl) rfl (by exact Nat.le_of_ble_eq_true rfl) (fun s3 hp => ?_)
  obtain ⟨hR, h⟩ := hp
  refine g_aload_0 (pc := 19) X dX0_measure_19 ?_
  refine g_getRf (pc := 20) X dX0_measure_20 fl_X0_18 rfl (by decide) rfl hR rfl ?_
  refine g_iconst (pc := 23) X dX0_measure_23 kiconst_0 ?_
  refine g_callS_V (pc := 24) X Y dX0_measure_24 miJ7_fill_53178 li_X0_33 (t_J7_fill_53178 hR (by decide) (by decide) h) rfl ⟨Nat.le_of_ble_eq_true rfl, Nat.le_of_ble_eq_true rfl⟩ (Nat.le_of_ble_eq_true rfl) (Nat.le_of_ble_eq_true rfl) rfl (by exact Nat.le_of_ble_eq_true rfl) (fun s4 hp => ?_)
  obtain ⟨hR, h⟩ := hp
  refine g_iconst (pc := 27) X dX0_measure_27 kiconst_0 ?_
  refine g_istore_1 (pc := 28) X dX0_measure_28 (by decide) rfl ?_
  obtain ⟨n23, h⟩ := h
  have hL : ∀  (K : gSt → Prop) (_ : ∀  (s7 : gSt), s7.2.2 = gRf b → K s7 → G o γ 0 0 116 s7 116 [some (.ref (ad o 38)), none, none] []) (n : Nat) (v5 : Int32) (s6 : gSt), s6.2.2 = gRf b → L_X0_measure_29 Q K n v5 s6 → G o γ 0 0 116 s6 29 [some (.ref (ad o 38)), some (.int v5), none] [] := by
    intro K hK n
    induction n with
    | zero => intro v5 s6 hR h; exact False.elim h
    | succ n ih =>
      intro v5 s6 hR h
      rw [L_X0_measure_29] at h
      refine g_iload_1 (pc := 29) X dX0_measure_29 ?_
      refine g_aload_0 (pc := 30) X dX0_measure_30 ?_
      refine g_getRf (pc := 31) X dX0_measure_31 fl_X0_21 rfl (by decide) rfl hR rfl ?_
      refine g_getI (pc := 34) X dX0_measure_34 rfl (by decide) fl_X0_39 (Or.inl rfl) ?_
      refine g_icmp_ge (pc := 37) X dX0_measure_37 (tgt := 116) (by decide) (fun q8 => ?_) (fun q8 => ?_)
      · replace h := h.1 q8
        exact g_drop (by simp [lsub]) (hK s6 hR h)
      · replace h := h.2 q8
        refine g_aload_0 (pc := 40) X dX0_measure_40 ?_
        refine g_getRf (pc := 41) X dX0_measure_41 fl_X0_15 rfl (by decide) rfl hR rfl ?_
        refine g_aload_0 (pc := 44) X dX0_measure_44 ?_
        refine g_getRf (pc := 45) X dX0_measure_45 fl_X0_21 rfl (by decide) rfl hR rfl ?_
        refine g_getRf (pc := 48) X dX0_measure_48 fl_X0_101 rfl (by decide) rfl hR rfl ?_
        refine g_iload_1 (pc := 51) X dX0_measure_51 ?_
        refine g_iaload_w (pc := 52) X dX0_measure_52 rfl (by decide) h (fun x9 h => ?_)
        refine g_dup2 (pc := 53) X dX0_measure_53 rfl rfl ?_
        refine g_iaload_w (pc := 54) X dX0_measure_54 rfl (by decide) h (fun x10 h => ?_)
        refine g_iconst (pc := 55) X dX0_measure_55 kiconst_1 ?_
        refine g_iload_1 (pc := 56) X dX0_measure_56 ?_
        refine g_ishl (pc := 57) X dX0_measure_57 ?_
        refine g_ior (pc := 58) X dX0_measure_58 ?_
        refine g_iastore_w (pc := 59) X dX0_measure_59 rfl (by decide) hR h (fun s11 hR h => ?_)
        refine g_iconst (pc := 60) X dX0_measure_60 kiconst_0 ?_
        refine g_istore_2 (pc := 61) X dX0_measure_61 (by decide) rfl ?_
        obtain ⟨n21, h⟩ := h
        have hL : ∀ (c12 : Int32) (K : gSt → Prop) (_ : ∀  (s15 : gSt), s15.2.2 = gRf b → K s15 → G o γ 0 0 116 s15 110 [some (.ref (ad o 38)), some (.int c12), none] []) (n : Nat) (v13 : Int32) (s14 : gSt), s14.2.2 = gRf b → L_X0_measure_62 Q c12 K n v13 s14 → G o γ 0 0 116 s14 62 [some (.ref (ad o 38)), some (.int c12), some (.int v13)] [] := by
          intro c12 K hK n
          induction n with
          | zero => intro v13 s14 hR h; exact False.elim h
          | succ n ih =>
            intro v13 s14 hR h
            rw [L_X0_measure_62] at h
            refine g_iload_2 (pc := 62) X dX0_measure_62 ?_
            refine g_aload_0 (pc := 63) X dX0_measure_63 ?_
            refine g_getRf (pc := 64) X dX0_measure_64 fl_X0_21 rfl (by decide) rfl hR rfl ?_
            refine g_getI (pc := 67) X dX0_measure_67 rfl (by decide) fl_X0_39 (Or.inl rfl) ?_
            refine g_icmp_ge (pc := 70) X dX0_measure_70 (tgt := 110) (by decide) (fun q16 => ?_) (fun q16 => ?_)
            · replace h := h.1 q16
              exact g_drop (by simp [lsub]) (hK s14 hR h)
            · replace h := h.2 q16
              refine g_aload_0 (pc := 73) X dX0_measure_73 ?_
              refine g_getRf (pc := 74) X dX0_measure_74 fl_X0_18 rfl (by decide) rfl hR rfl ?_
              refine g_iload_2 (pc := 77) X dX0_measure_77 ?_
              refine g_bipush (pc := 78) X dX0_measure_78 kbipush_30 ?_
              refine g_imul (pc := 80) X dX0_measure_80 ?_
              refine g_aload_0 (pc := 81) X dX0_measure_81 ?_
              refine g_getRf (pc := 82) X dX0_measure_82 fl_X0_21 rfl (by decide) rfl hR rfl ?_
              refine g_getRf (pc := 85) X dX0_measure_85 fl_X0_101 rfl (by decide) rfl hR rfl ?_
              refine g_iload_1 (pc := 88) X dX0_measure_88 ?_
              refine g_iaload_w (pc := 89) X dX0_measure_89 rfl (by decide) h (fun x17 h => ?_)
              refine g_iadd (pc := 90) X dX0_measure_90 ?_
              refine g_dup2 (pc := 91) X dX0_measure_91 rfl rfl ?_
              refine g_iaload_w (pc := 92) X dX0_measure_92 rfl (by decide) h (fun x18 h => ?_)
              refine g_aload_0 (pc := 93) X dX0_measure_93 ?_
              refine g_getRf (pc := 94) X dX0_measure_94 fl_X0_25 rfl (by decide) rfl hR rfl ?_
              refine g_iload_2 (pc := 97) X dX0_measure_97 ?_
              refine g_iload_1 (pc := 98) X dX0_measure_98 ?_
              refine g_callV_I (pc := 99) X Y dX0_measure_99 miX4_pull li_X0_104 (t_WPI hR  h) rfl (by decide) rfl ⟨_, rfl⟩ rfl ⟨Nat.le_of_ble_eq_true rfl, Nat.le_of_ble_eq_true rfl⟩ (Nat.le_of_ble_eq_true rfl) (Nat.le_of_ble_eq_true rfl) rfl (by exact Nat.le_of_ble_eq_true rfl) (fun x19 σ9 hp => ?_)
              obtain ⟨rfl, h⟩ := hp
              refine g_iadd (pc := 102) X dX0_measure_102 ?_
              refine g_iastore_w (pc := 103) X dX0_measure_103 rfl (by decide) hR h (fun s20 hR h => ?_)
              refine g_iinc_2 (pc := 104) X dX0_measure_104 (v := v13 + nI 1) rfl (by decide) rfl ?_
              refine g_goto (pc := 107) X dX0_measure_107 (tgt := 62) (by decide) ?_
              exact ih (v13 + nI 1) s20 hR h
        refine hL v5 _ (fun s22 hR h => ?_) n21 (nI 0) s11 hR h
        · refine g_iinc_1 (pc := 110) X dX0_measure_110 (v := v5 + nI 1) rfl (by decide) rfl ?_
          refine g_goto (pc := 113) X dX0_measure_113 (tgt := 29) (by decide) ?_
          exact ih (v5 + nI 1) s22 hR h
  refine hL  _ (fun s24 hR h => ?_) n23 (nI 0) s4 hR h
  · exact g_return (pc := 116) X Y dX0_measure_116 (Nat.le_of_ble_eq_true rfl) (Nat.le_of_ble_eq_true rfl) ⟨rfl, hR, h⟩
def W_X0_isHeldBack (p0 : Int32) (Q : Int32 → Prop) (σ : gSt) : Prop := rI σ 31 30 p0 (fun x1 => rI σ 34 30 p0 (fun x2 => rI σ 40 30 x2 (fun x3 => (((x1 &&& x3) = 0 → (Q (nI 0))) ∧ (¬ (x1 &&& x3) = 0 → (Q (nI 1)))))))
set_option maxHeartbeats 4000000 in
theorem t_X0_isHeldBack {o : gOm} {l : Launch} {b : Bool}   {σ : gSt} (hR : σ.2.2 = gRf b) {p0 : Int32} {Q : Int32 → Prop} (h : W_X0_isHeldBack p0 Q σ) : Sp o l mX0_isHeldBack 1 0 0 [.ref (ad o 38), .int p0] 116 116 σ (pI (fun x s => σ = s ∧ Q x)) := by
  unfold W_X0_isHeldBack at h
  refine Sp.of (ls0 := [some (.ref (ad o 38)), some (.int p0)]) miX0_isHeldBack rfl (Nat.le_of_ble_eq_true rfl) rfl (fun γ hγ hnm X Y => ?_)
  subst hγ
  have X : gX o γ cX0_isHeldBack 2 RX0 := X
  refine g_aload_0 (pc := 0) X dX0_isHeldBack_0 ?_
  refine g_getRf (pc := 1) X dX0_isHeldBack_1 fl_X0_29 rfl (by decide) rfl hR rfl ?_
  refine g_getRf (pc := 4) X dX0_isHeldBack_4 fl_X0_110 rfl (by decide) rfl hR rfl ?_
  refine g_iload_1 (pc := 7) X dX0_isHeldBack_7 ?_
  refine g_iaload_w (pc := 8) X dX0_isHeldBack_8 rfl (by decide) h (fun x1 h => ?_)
  refine g_aload_0 (pc := 9) X dX0_isHeldBack_9 ?_
  refine g_getRf (pc := 10) X dX0_isHeldBack_10 fl_X0_15 rfl (by decide) rfl hR rfl ?_
  refine g_aload_0 (pc := 13) X dX0_isHeldBack_13 ?_
  refine g_getRf (pc := 14) X dX0_isHeldBack_14 fl_X0_21 rfl (by decide) rfl hR rfl ?_
  refine g_getRf (pc := 17) X dX0_isHeldBack_17 fl_X0_101 rfl (by decide) rfl hR rfl ?_
  refine g_iload_1 (pc := 20) X dX0_isHeldBack_20 ?_
  refine g_iaload_w (pc := 21) X dX0_isHeldBack_21 rfl (by decide) h (fun x2 h => ?_)
  refine g_iaload_w (pc := 22) X dX0_isHeldBack_22 rfl (by decide) h (fun x3 h => ?_)
  refine g_iand (pc := 23) X dX0_isHeldBack_23 ?_
  refine g_if_eq (pc := 24) X dX0_isHeldBack_24 (tgt := 31) (by decide) (fun q4 => ?_) (fun q4 => ?_)
  · replace h := h.1 q4
    refine g_iconst (pc := 31) X dX0_isHeldBack_31 kiconst_0 ?_
    exact g_zreturn (pc := 32) X Y dX0_isHeldBack_32 (by first | exact Or.inl rfl | exact Or.inr rfl) (Nat.le_of_ble_eq_true rfl) (Nat.le_of_ble_eq_true rfl) ⟨_, rfl, rfl, h⟩
  · replace h := h.2 q4
    refine g_iconst (pc := 27) X dX0_isHeldBack_27 kiconst_1 ?_
    refine g_goto (pc := 28) X dX0_isHeldBack_28 (tgt := 32) (by decide) ?_
    exact g_zreturn (pc := 32) X Y dX0_isHeldBack_32 (by first | exact Or.inl rfl | exact Or.inr rfl) (Nat.le_of_ble_eq_true rfl) (Nat.le_of_ble_eq_true rfl) ⟨_, rfl, rfl, h⟩
def W_X0_pullTo (p0 : Int32) (p1 : Int32) (Q : Int32 → Prop) (σ : gSt) : Prop := rI σ 41 900 ((p0 * (nI 30)) + p1) (fun x1 => Q x1)
set_option maxHeartbeats 4000000 in
theorem t_X0_pullTo {o : gOm} {l : Launch} {b : Bool}   {σ : gSt} (hR : σ.2.2 = gRf b) {p0 : Int32} {p1 : Int32} {Q : Int32 → Prop} (h : W_X0_pullTo p0 p1 Q σ) : Sp o l mX0_pullTo 1 0 0 [.ref (ad o 38), .int p0, .int p1] 116 116 σ (pI (fun x s => σ = s ∧ Q x)) := by
  unfold W_X0_pullTo at h
  refine Sp.of (ls0 := [some (.ref (ad o 38)), some (.int p0), some (.int p1)]) miX0_pullTo rfl (Nat.le_of_ble_eq_true rfl) rfl (fun γ hγ hnm X Y => ?_)
  subst hγ
  have X : gX o γ cX0_pullTo 3 RX0 := X
  refine g_aload_0 (pc := 0) X dX0_pullTo_0 ?_
  refine g_getRf (pc := 1) X dX0_pullTo_1 fl_X0_18 rfl (by decide) rfl hR rfl ?_
  refine g_iload_1 (pc := 4) X dX0_pullTo_4 ?_
  refine g_bipush (pc := 5) X dX0_pullTo_5 kbipush_30 ?_
  refine g_imul (pc := 7) X dX0_pullTo_7 ?_
  refine g_iload_2 (pc := 8) X dX0_pullTo_8 ?_
  refine g_iadd (pc := 9) X dX0_pullTo_9 ?_
  refine g_iaload_w (pc := 10) X dX0_pullTo_10 rfl (by decide) h (fun x1 h => ?_)
  exact g_ireturn (pc := 11) X Y dX0_pullTo_11 (Nat.le_of_ble_eq_true rfl) (Nat.le_of_ble_eq_true rfl) ⟨_, rfl, rfl, h⟩
def W_X0_offer (p0 : Int64) (p1 : Int32) (p2 : Int32) (p3 : Int32) (Q : gSt → Prop) (σ : gSt) : Prop := ((p0 < (σ.2.1 38 3) → (fL σ 38 3 p0 (fun s2 => fI s2 38 0 p1 (fun s3 => fI s3 38 1 p2 (fun s4 => fI s4 38 2 p3 (fun s5 => Q s5)))))) ∧ (¬ p0 < (σ.2.1 38 3) → (Q σ)))
set_option maxHeartbeats 4000000 in
theorem t_X0_offer {o : gOm} {l : Launch} {b : Bool}   {σ : gSt} (hR : σ.2.2 = gRf b) {p0 : Int64} {p1 : Int32} {p2 : Int32} {p3 : Int32} {Q : gSt → Prop} (h : W_X0_offer p0 p1 p2 p3 Q σ) : Sp o l mX0_offer 1 0 0 [.ref (ad o 38), .long p0, .int p1, .int p2, .int p3] 116 116 σ (pV (fun s => s.2.2 = gRf b ∧ Q s)) := by
  unfold W_X0_offer at h
  refine Sp.of (ls0 := [some (.ref (ad o 38)), some (.long p0), none, some (.int p1), some (.int p2), some (.int p3)]) miX0_offer rfl (Nat.le_of_ble_eq_true rfl) rfl (fun γ hγ hnm X Y => ?_)
  subst hγ
  have X : gX o γ cX0_offer 6 RX0 := X
  refine g_lload_1 (pc := 0) X dX0_offer_0 ?_
  refine g_aload_0 (pc := 1) X dX0_offer_1 ?_
  refine g_getL (pc := 2) X dX0_offer_2 rfl (by decide) fl_X0_65 rfl ?_
  refine g_lcmp_ge (pc := 5) X dX0_offer_5 dX0_offer_6 (tgt := 31) (by decide) (fun q1 => ?_) (fun q1 => ?_)
  · replace h := h.2 q1
    exact g_return (pc := 31) X Y dX0_offer_31 (Nat.le_of_ble_eq_true rfl) (Nat.le_of_ble_eq_true rfl) ⟨rfl, hR, h⟩
  · replace h := h.1 q1
    refine g_aload_0 (pc := 9) X dX0_offer_9 ?_
    refine g_lload_1 (pc := 10) X dX0_offer_10 ?_
    refine g_putL_w (pc := 11) X dX0_offer_11 fl_X0_65 rfl (by decide) rfl rfl hR h (fun s2 hR h => ?_)
    refine g_aload_0 (pc := 14) X dX0_offer_14 ?_
    refine g_iload_3 (pc := 15) X dX0_offer_15 ?_
    refine g_putI_w (pc := 16) X dX0_offer_16 fl_X0_58 rfl (by decide) rfl rfl hR h (fun s3 hR h => ?_)
    refine g_aload_0 (pc := 19) X dX0_offer_19 ?_
    refine g_iload_4 (pc := 20) X dX0_offer_20 ?_
    refine g_putI_w (pc := 22) X dX0_offer_22 fl_X0_82 rfl (by decide) rfl rfl hR h (fun s4 hR h => ?_)
    refine g_aload_0 (pc := 25) X dX0_offer_25 ?_
    refine g_iload_5 (pc := 26) X dX0_offer_26 ?_
    refine g_putI_w (pc := 28) X dX0_offer_28 fl_X0_79 rfl (by decide) rfl rfl hR h (fun s5 hR h => ?_)
    exact g_return (pc := 31) X Y dX0_offer_31 (Nat.le_of_ble_eq_true rfl) (Nat.le_of_ble_eq_true rfl) ⟨rfl, hR, h⟩
def L_X0_seekGoing_35 (Q : gSt → Prop) (c5 : Int32) (c6 : Int32) (c7 : Int64) (K : gSt → Prop) : Nat → Int32 → gSt → Prop
  | 0, _, _ => False
  | n35 + 1, v8, s9 => (((s9.1 33 1) ≤ v8 → (K s9)) ∧ (¬ (s9.1 33 1) ≤ v8 → (∀ J13 : Int32 → Prop, (∀ x12, (((x12 = 0 → (L_X0_seekGoing_35 Q c5 c6 c7 K n35 (v8 + nI 1) s9)) ∧ (¬ x12 = 0 → (rI s9 40 30 v8 (fun x15 => W_J6_bitCount_0f7a4 x15 (fun x16 => WPI mX3_roomOfHeap 1 (fun o => [.ref (ad o 30)]) (fun x17 => ((x17 ≤ x16 → (L_X0_seekGoing_35 Q c5 c6 c7 K n35 (v8 + nI 1) s9)) ∧ (¬ x17 ≤ x16 → (W_X0_pullTo c5 v8 (fun x19 => W_X0_offer (c7 - (i2l x19)) (nI 0) c5 v8 (fun s20 => L_X0_seekGoing_35 Q c5 c6 c7 K n35 (v8 + nI 1) s20) s9) s9)))) s9) s9))))) → J13 x12) → ∀ J21 : Prop, ((J13 (nI 0)) → J21) → ((v8 = c6 → J21) ∧ (¬ v8 = c6 → (rI s9 40 30 v8 (fun x23 => ((x23 = 0 → J21) ∧ (¬ x23 = 0 → (rI s9 39 30 c5 (fun x25 => rI s9 40 30 v8 (fun x26 => (((x25 &&& x26) = 0 → (J13 (nI 1))) ∧ (¬ (x25 &&& x26) = 0 → J21))))))))))))))
def W_X0_seekGoing (p0 : Int32) (Q : gSt → Prop) (σ : gSt) : Prop := W_X0_isHeldBack p0 (fun x1 => ((x1 = 0 → (rI σ 34 30 p0 (fun x3 => W_X0_pullTo p0 x3 (fun x4 => ∃ m35, L_X0_seekGoing_35 Q p0 x3 ((σ.2.1 38 7) + (i2l x4)) (fun s29 => rI s29 40 30 x3 (fun x30 => ((x30 = ((nI 1) <<< (p0 &&& 31)) → (Q s29)) ∧ (¬ x30 = ((nI 1) <<< (p0 &&& 31)) → (W_X0_offer ((σ.2.1 38 7) + (i2l x4)) (nI 0) p0 ((-1 : Int32)) (fun s32 => Q s32) s29))))) m35 (nI 0) σ) σ))) ∧ (¬ x1 = 0 → (Q σ)))) σ
set_option maxHeartbeats 4000000 in
theorem t_X0_seekGoing {o : gOm} {l : Launch} {b : Bool}   {σ : gSt} (hR : σ.2.2 = gRf b) {p0 : Int32} {Q : gSt → Prop} (h : W_X0_seekGoing p0 Q σ) : Sp o l mX0_seekGoing 2 0 0 [.ref (ad o 38), .int p0] 116 116 σ (pV (fun s => s.2.2 = gRf b ∧ Q s)) := by
  unfold W_X0_seekGoing at h
  refine Sp.of (ls0 := [some (.ref (ad o 38)), some (.int p0), none, none, none, none, none]) miX0_seekGoing rfl (Nat.le_of_ble_eq_true rfl) rfl (fun γ hγ hnm X Y => ?_)
  subst hγ
  have X : gX o γ cX0_seekGoing 7 RX0 := X
  refine g_aload_0 (pc := 0) X dX0_seekGoing_0 ?_
  refine g_iload_1 (pc := 1) X dX0_seekGoing_1 ?_
  refine g_callV_I (pc := 2) X Y dX0_seekGoing_2 miX0_isHeldBack li_X0_113 (t_X0_isHeldBack hR  h) rfl (by decide) rfl ⟨_, rfl⟩ rfl ⟨Nat.le_of_ble_eq_true rfl, Nat.le_of_ble_eq_true rfl⟩ (Nat.le_of_ble_eq_true rfl) (Nat.le_of_ble_eq_true rfl) rfl (by exact Nat.le_of_ble_eq_true rfl) (fun x1 σ9 hp => ?_)
  obtain ⟨rfl, h⟩ := hp
  refine g_if_eq (pc := 5) X dX0_seekGoing_5 (tgt := 9) (by decide) (fun q2 => ?_) (fun q2 => ?_)
  · replace h := h.1 q2
    refine g_aload_0 (pc := 9) X dX0_seekGoing_9 ?_
    refine g_getRf (pc := 10) X dX0_seekGoing_10 fl_X0_21 rfl (by decide) rfl hR rfl ?_
    refine g_getRf (pc := 13) X dX0_seekGoing_13 fl_X0_101 rfl (by decide) rfl hR rfl ?_
    refine g_iload_1 (pc := 16) X dX0_seekGoing_16 ?_
    refine g_iaload_w (pc := 17) X dX0_seekGoing_17 rfl (by decide) h (fun x3 h => ?_)
    refine g_istore_2 (pc := 18) X dX0_seekGoing_18 (by decide) rfl ?_
    refine g_aload_0 (pc := 19) X dX0_seekGoing_19 ?_
    refine g_getL (pc := 20) X dX0_seekGoing_20 rfl (by decide) fl_X0_61 rfl ?_
    refine g_aload_0 (pc := 23) X dX0_seekGoing_23 ?_
    refine g_iload_1 (pc := 24) X dX0_seekGoing_24 ?_
    refine g_iload_2 (pc := 25) X dX0_seekGoing_25 ?_
    refine g_callV_I (pc := 26) X Y dX0_seekGoing_26 miX0_pullTo li_X0_117 (t_X0_pullTo hR  h) rfl (by decide) rfl ⟨_, rfl⟩ rfl ⟨Nat.le_of_ble_eq_true rfl, Nat.le_of_ble_eq_true rfl⟩ (Nat.le_of_ble_eq_true rfl) (Nat.le_of_ble_eq_true rfl) rfl (by exact Nat.le_of_ble_eq_true rfl) (fun x4 σ9 hp => ?_)
    obtain ⟨rfl, h⟩ := hp
    refine g_i2l (pc := 29) X dX0_seekGoing_29 ?_
    refine g_ladd (pc := 30) X dX0_seekGoing_30 ?_
    refine g_lstore_3 (pc := 31) X dX0_seekGoing_31 (by decide) rfl ?_
    refine g_iconst (pc := 32) X dX0_seekGoing_32 kiconst_0 ?_
    refine g_istore_5 (pc := 33) X dX0_seekGoing_33 (by decide) rfl ?_
    obtain ⟨n28, h⟩ := h
    have hL : ∀ (c5 : Int32) (c6 : Int32) (c7 : Int64) (K : gSt → Prop) (_ : ∀  (s10 : gSt), s10.2.2 = gRf b → K s10 → G o γ 0 0 116 s10 136 [some (.ref (ad o 38)), some (.int c5), some (.int c6), some (.long c7), none, none, none] []) (n : Nat) (v8 : Int32) (s9 : gSt), s9.2.2 = gRf b → L_X0_seekGoing_35 Q c5 c6 c7 K n v8 s9 → G o γ 0 0 116 s9 35 [some (.ref (ad o 38)), some (.int c5), some (.int c6), some (.long c7), none, some (.int v8), none] [] := by
      intro c5 c6 c7 K hK n
      induction n with
      | zero => intro v8 s9 hR h; exact False.elim h
      | succ n ih =>
        intro v8 s9 hR h
        rw [L_X0_seekGoing_35] at h
        refine g_iload_5 (pc := 35) X dX0_seekGoing_35 ?_
        refine g_aload_0 (pc := 37) X dX0_seekGoing_37 ?_
        refine g_getRf (pc := 38) X dX0_seekGoing_38 fl_X0_21 rfl (by decide) rfl hR rfl ?_
        refine g_getI (pc := 41) X dX0_seekGoing_41 rfl (by decide) fl_X0_39 (Or.inl rfl) ?_
        refine g_icmp_ge (pc := 44) X dX0_seekGoing_44 (tgt := 136) (by decide) (fun q11 => ?_) (fun q11 => ?_)
        · replace h := h.1 q11
          exact g_drop (by simp [lsub]) (hK s9 hR h)
        · replace h := h.2 q11
          refine g_iload_5 (pc := 47) X dX0_seekGoing_47 ?_
          refine g_iload_2 (pc := 49) X dX0_seekGoing_49 ?_
          replace h := h (fun x12 => G o γ 0 0 116 s9 85 [some (.ref (ad o 38)), some (.int c5), some (.int c6), some (.long c7), none, some (.int v8), none] [.int x12]) (by
              intro x12 h
              refine g_istore_6 (pc := 85) X dX0_seekGoing_85 (by decide) rfl ?_
              refine g_iload_6 (pc := 87) X dX0_seekGoing_87 ?_
              refine g_if_eq (pc := 89) X dX0_seekGoing_89 (tgt := 130) (by decide) (fun q14 => ?_) (fun q14 => ?_)
              · replace h := h.1 q14
                refine g_iinc_5 (pc := 130) X dX0_seekGoing_130 (v := v8 + nI 1) rfl (by decide) rfl ?_
                refine g_goto (pc := 133) X dX0_seekGoing_133 (tgt := 35) (by decide) ?_
                exact g_drop (by simp [lsub]) (ih (v8 + nI 1) s9 hR h)
              · replace h := h.2 q14
                refine g_aload_0 (pc := 92) X dX0_seekGoing_92 ?_
                refine g_getRf (pc := 93) X dX0_seekGoing_93 fl_X0_15 rfl (by decide) rfl hR rfl ?_
                refine g_iload_5 (pc := 96) X dX0_seekGoing_96 ?_
                refine g_iaload_w (pc := 98) X dX0_seekGoing_98 rfl (by decide) h (fun x15 h => ?_)
                refine g_callS_I (pc := 99) X Y dX0_seekGoing_99 miJ6_bitCount_0f7a4 li_X0_120 (t_J6_bitCount_0f7a4 hR  h) rfl ⟨Nat.le_of_ble_eq_true rfl, Nat.le_of_ble_eq_true rfl⟩ (Nat.le_of_ble_eq_true rfl) (Nat.le_of_ble_eq_true rfl) rfl (by exact Nat.le_of_ble_eq_true rfl) (fun x16 σ9 hp => ?_)
                obtain ⟨rfl, h⟩ := hp
                refine g_aload_0 (pc := 102) X dX0_seekGoing_102 ?_
                refine g_getRf (pc := 103) X dX0_seekGoing_103 fl_X0_29 rfl (by decide) rfl hR rfl ?_
                refine g_callV_I (pc := 106) X Y dX0_seekGoing_106 miX3_roomOfHeap li_X0_126 (t_WPI hR  h) rfl (by decide) rfl ⟨_, rfl⟩ rfl ⟨Nat.le_of_ble_eq_true rfl, Nat.le_of_ble_eq_true rfl⟩ (Nat.le_of_ble_eq_true rfl) (Nat.le_of_ble_eq_true rfl) rfl (by exact Nat.le_of_ble_eq_true rfl) (fun x17 σ9 hp => ?_)
                obtain ⟨rfl, h⟩ := hp
                refine g_icmp_ge (pc := 109) X dX0_seekGoing_109 (tgt := 130) (by decide) (fun q18 => ?_) (fun q18 => ?_)
                · replace h := h.1 q18
                  refine g_iinc_5 (pc := 130) X dX0_seekGoing_130 (v := v8 + nI 1) rfl (by decide) rfl ?_
                  refine g_goto (pc := 133) X dX0_seekGoing_133 (tgt := 35) (by decide) ?_
                  exact g_drop (by simp [lsub]) (ih (v8 + nI 1) s9 hR h)
                · replace h := h.2 q18
                  refine g_aload_0 (pc := 112) X dX0_seekGoing_112 ?_
                  refine g_lload_3 (pc := 113) X dX0_seekGoing_113 ?_
                  refine g_aload_0 (pc := 114) X dX0_seekGoing_114 ?_
                  refine g_iload_1 (pc := 115) X dX0_seekGoing_115 ?_
                  refine g_iload_5 (pc := 116) X dX0_seekGoing_116 ?_
                  refine g_callV_I (pc := 118) X Y dX0_seekGoing_118 miX0_pullTo li_X0_117 (t_X0_pullTo hR  h) rfl (by decide) rfl ⟨_, rfl⟩ rfl ⟨Nat.le_of_ble_eq_true rfl, Nat.le_of_ble_eq_true rfl⟩ (Nat.le_of_ble_eq_true rfl) (Nat.le_of_ble_eq_true rfl) rfl (by exact Nat.le_of_ble_eq_true rfl) (fun x19 σ9 hp => ?_)
                  obtain ⟨rfl, h⟩ := hp
                  refine g_i2l (pc := 121) X dX0_seekGoing_121 ?_
                  refine g_lsub (pc := 122) X dX0_seekGoing_122 ?_
                  refine g_iconst (pc := 123) X dX0_seekGoing_123 kiconst_0 ?_
                  refine g_iload_1 (pc := 124) X dX0_seekGoing_124 ?_
                  refine g_iload_5 (pc := 125) X dX0_seekGoing_125 ?_
                  refine g_callV_V (pc := 127) X Y dX0_seekGoing_127 miX0_offer li_X0_130 (t_X0_offer hR  h) rfl (by decide) rfl ⟨_, rfl⟩ rfl ⟨Nat.le_of_ble_eq_true rfl, Nat.le_of_ble_eq_true rfl⟩ (Nat.le_of_ble_eq_true rfl) (Nat.le_of_ble_eq_true rfl) rfl (by exact Nat.le_of_ble_eq_true rfl) (fun s20 hp => ?_)
                  obtain ⟨hR, h⟩ := hp
                  refine g_iinc_5 (pc := 130) X dX0_seekGoing_130 (v := v8 + nI 1) rfl (by decide) rfl ?_
                  refine g_goto (pc := 133) X dX0_seekGoing_133 (tgt := 35) (by decide) ?_
                  exact g_drop (by simp [lsub]) (ih (v8 + nI 1) s20 hR h))
          replace h := h (G o γ 0 0 116 s9 84 [some (.ref (ad o 38)), some (.int c5), some (.int c6), some (.long c7), none, some (.int v8), none] []) (by
              intro  h
              refine g_iconst (pc := 84) X dX0_seekGoing_84 kiconst_0 ?_
              exact h)
          refine g_icmp_eq (pc := 50) X dX0_seekGoing_50 (tgt := 84) (by decide) (fun q22 => ?_) (fun q22 => ?_)
          · replace h := h.1 q22
            exact h
          · replace h := h.2 q22
            refine g_aload_0 (pc := 53) X dX0_seekGoing_53 ?_
            refine g_getRf (pc := 54) X dX0_seekGoing_54 fl_X0_15 rfl (by decide) rfl hR rfl ?_
            refine g_iload_5 (pc := 57) X dX0_seekGoing_57 ?_
            refine g_iaload_w (pc := 59) X dX0_seekGoing_59 rfl (by decide) h (fun x23 h => ?_)
            refine g_if_eq (pc := 60) X dX0_seekGoing_60 (tgt := 84) (by decide) (fun q24 => ?_) (fun q24 => ?_)
            · replace h := h.1 q24
              exact h
            · replace h := h.2 q24
              refine g_aload_0 (pc := 63) X dX0_seekGoing_63 ?_
              refine g_getRf (pc := 64) X dX0_seekGoing_64 fl_X0_9 rfl (by decide) rfl hR rfl ?_
              refine g_iload_1 (pc := 67) X dX0_seekGoing_67 ?_
              refine g_iaload_w (pc := 68) X dX0_seekGoing_68 rfl (by decide) h (fun x25 h => ?_)
              refine g_aload_0 (pc := 69) X dX0_seekGoing_69 ?_
              refine g_getRf (pc := 70) X dX0_seekGoing_70 fl_X0_15 rfl (by decide) rfl hR rfl ?_
              refine g_iload_5 (pc := 73) X dX0_seekGoing_73 ?_
              refine g_iaload_w (pc := 75) X dX0_seekGoing_75 rfl (by decide) h (fun x26 h => ?_)
              refine g_iand (pc := 76) X dX0_seekGoing_76 ?_
              refine g_if_ne (pc := 77) X dX0_seekGoing_77 (tgt := 84) (by decide) (fun q27 => ?_) (fun q27 => ?_)
              · replace h := h.2 q27
                exact h
              · replace h := h.1 q27
                refine g_iconst (pc := 80) X dX0_seekGoing_80 kiconst_1 ?_
                refine g_goto (pc := 81) X dX0_seekGoing_81 (tgt := 85) (by decide) ?_
                exact h
    refine hL p0 x3 ((σ.2.1 38 7) + (i2l x4)) _ (fun s29 hR h => ?_) n28 (nI 0) σ hR h
    · refine g_aload_0 (pc := 136) X dX0_seekGoing_136 ?_
      refine g_getRf (pc := 137) X dX0_seekGoing_137 fl_X0_15 rfl (by decide) rfl hR rfl ?_
      refine g_iload_2 (pc := 140) X dX0_seekGoing_140 ?_
      refine g_iaload_w (pc := 141) X dX0_seekGoing_141 rfl (by decide) h (fun x30 h => ?_)
      refine g_iconst (pc := 142) X dX0_seekGoing_142 kiconst_1 ?_
      refine g_iload_1 (pc := 143) X dX0_seekGoing_143 ?_
      refine g_ishl (pc := 144) X dX0_seekGoing_144 ?_
      refine g_icmp_eq (pc := 145) X dX0_seekGoing_145 (tgt := 156) (by decide) (fun q31 => ?_) (fun q31 => ?_)
      · replace h := h.1 q31
        exact g_return (pc := 156) X Y dX0_seekGoing_156 (Nat.le_of_ble_eq_true rfl) (Nat.le_of_ble_eq_true rfl) ⟨rfl, hR, h⟩
      · replace h := h.2 q31
        refine g_aload_0 (pc := 148) X dX0_seekGoing_148 ?_
        refine g_lload_3 (pc := 149) X dX0_seekGoing_149 ?_
        refine g_iconst (pc := 150) X dX0_seekGoing_150 kiconst_0 ?_
        refine g_iload_1 (pc := 151) X dX0_seekGoing_151 ?_
        refine g_iconst (pc := 152) X dX0_seekGoing_152 kiconst_m1 ?_
        refine g_callV_V (pc := 153) X Y dX0_seekGoing_153 miX0_offer li_X0_130 (t_X0_offer hR  h) rfl (by decide) rfl ⟨_, rfl⟩ rfl ⟨Nat.le_of_ble_eq_true rfl, Nat.le_of_ble_eq_true rfl⟩ (Nat.le_of_ble_eq_true rfl) (Nat.le_of_ble_eq_true rfl) rfl (by exact Nat.le_of_ble_eq_true rfl) (fun s32 hp => ?_)
        obtain ⟨hR, h⟩ := hp
        exact g_return (pc := 156) X Y dX0_seekGoing_156 (Nat.le_of_ble_eq_true rfl) (Nat.le_of_ble_eq_true rfl) ⟨rfl, hR, h⟩
  · replace h := h.2 q2
    exact g_return (pc := 8) X Y dX0_seekGoing_8 (Nat.le_of_ble_eq_true rfl) (Nat.le_of_ble_eq_true rfl) ⟨rfl, hR, h⟩
def L_X0_seekJoining_57 (Q : gSt → Prop) (c11 : Int32) (c12 : Int32) (σ : gSt) (K : Int64 → Prop) : Nat → Int64 → Int32 → Prop
  | 0, _, _ => False
  | n57 + 1, v13, v14 => (((σ.1 33 1) ≤ v14 → (K v13)) ∧ (¬ (σ.1 33 1) ≤ v14 → (rI σ 34 30 v14 (fun x17 => ((x17 = c11 → (rI σ 39 30 v14 (fun x19 => rI σ 40 30 c12 (fun x20 => (((x19 &&& x20) = 0 → (W_X0_pullTo v14 c12 (fun x22 => L_X0_seekJoining_57 Q c11 c12 σ K n57 (v13 - (i2l x22)) (v14 + nI 1)) σ)) ∧ (¬ (x19 &&& x20) = 0 → (Q σ))))))) ∧ (¬ x17 = c11 → (L_X0_seekJoining_57 Q c11 c12 σ K n57 v13 (v14 + nI 1))))))))
def W_X0_seekJoining (p0 : Int32) (p1 : Int32) (Q : gSt → Prop) (σ : gSt) : Prop := rI σ 40 30 p0 (fun x1 => ((x1 = 0 → (Q σ)) ∧ (¬ x1 = 0 → (rI σ 40 30 p1 (fun x3 => ((x3 = 0 → (Q σ)) ∧ (¬ x3 = 0 → (rI σ 40 30 p0 (fun x5 => W_J6_bitCount_0f7a4 x5 (fun x6 => rI σ 40 30 p1 (fun x7 => W_J6_bitCount_0f7a4 x7 (fun x8 => WPI mX3_roomOfHeap 1 (fun o => [.ref (ad o 30)]) (fun x9 => (((x6 + x8) ≤ x9 → (∃ m57, L_X0_seekJoining_57 Q p0 p1 σ (fun y24 => W_X0_offer y24 (nI 1) p0 p1 (fun s25 => Q s25) σ) m57 (σ.2.1 38 7) (nI 0))) ∧ (¬ (x6 + x8) ≤ x9 → (Q σ)))) σ) σ)) σ)))))))))
set_option maxHeartbeats 4000000 in
theorem t_X0_seekJoining {o : gOm} {l : Launch} {b : Bool}   {σ : gSt} (hR : σ.2.2 = gRf b) {p0 : Int32} {p1 : Int32} {Q : gSt → Prop} (h : W_X0_seekJoining p0 p1 Q σ) : Sp o l mX0_seekJoining 2 0 0 [.ref (ad o 38), .int p0, .int p1] 116 116 σ (pV (fun s => s.2.2 = gRf b ∧ Q s)) := by
  unfold W_X0_seekJoining at h
  refine Sp.of (ls0 := [some (.ref (ad o 38)), some (.int p0), some (.int p1), none, none, none]) miX0_seekJoining rfl (Nat.le_of_ble_eq_true rfl) rfl (fun γ hγ hnm X Y => ?_)
  subst hγ
  have X : gX o γ cX0_seekJoining 6 RX0 := X
  refine g_aload_0 (pc := 0) X dX0_seekJoining_0 ?_
  refine g_getRf (pc := 1) X dX0_seekJoining_1 fl_X0_15 rfl (by decide) rfl hR rfl ?_
  refine g_iload_1 (pc := 4) X dX0_seekJoining_4 ?_
  refine g_iaload_w (pc := 5) X dX0_seekJoining_5 rfl (by decide) h (fun x1 h => ?_)
  refine g_if_eq (pc := 6) X dX0_seekJoining_6 (tgt := 18) (by decide) (fun q2 => ?_) (fun q2 => ?_)
  · replace h := h.1 q2
    exact g_return (pc := 18) X Y dX0_seekJoining_18 (Nat.le_of_ble_eq_true rfl) (Nat.le_of_ble_eq_true rfl) ⟨rfl, hR, h⟩
  · replace h := h.2 q2
    refine g_aload_0 (pc := 9) X dX0_seekJoining_9 ?_
    refine g_getRf (pc := 10) X dX0_seekJoining_10 fl_X0_15 rfl (by decide) rfl hR rfl ?_
    refine g_iload_2 (pc := 13) X dX0_seekJoining_13 ?_
    refine g_iaload_w (pc := 14) X dX0_seekJoining_14 rfl (by decide) h (fun x3 h => ?_)
    refine g_if_ne (pc := 15) X dX0_seekJoining_15 (tgt := 19) (by decide) (fun q4 => ?_) (fun q4 => ?_)
    · replace h := h.2 q4
      refine g_aload_0 (pc := 19) X dX0_seekJoining_19 ?_
      refine g_getRf (pc := 20) X dX0_seekJoining_20 fl_X0_15 rfl (by decide) rfl hR rfl ?_
      refine g_iload_1 (pc := 23) X dX0_seekJoining_23 ?_
      refine g_iaload_w (pc := 24) X dX0_seekJoining_24 rfl (by decide) h (fun x5 h => ?_)
      refine g_callS_I (pc := 25) X Y dX0_seekJoining_25 miJ6_bitCount_0f7a4 li_X0_120 (t_J6_bitCount_0f7a4 hR  h) rfl ⟨Nat.le_of_ble_eq_true rfl, Nat.le_of_ble_eq_true rfl⟩ (Nat.le_of_ble_eq_true rfl) (Nat.le_of_ble_eq_true rfl) rfl (by exact Nat.le_of_ble_eq_true rfl) (fun x6 σ9 hp => ?_)
      obtain ⟨rfl, h⟩ := hp
      refine g_aload_0 (pc := 28) X dX0_seekJoining_28 ?_
      refine g_getRf (pc := 29) X dX0_seekJoining_29 fl_X0_15 rfl (by decide) rfl hR rfl ?_
      refine g_iload_2 (pc := 32) X dX0_seekJoining_32 ?_
      refine g_iaload_w (pc := 33) X dX0_seekJoining_33 rfl (by decide) h (fun x7 h => ?_)
      refine g_callS_I (pc := 34) X Y dX0_seekJoining_34 miJ6_bitCount_0f7a4 li_X0_120 (t_J6_bitCount_0f7a4 hR  h) rfl ⟨Nat.le_of_ble_eq_true rfl, Nat.le_of_ble_eq_true rfl⟩ (Nat.le_of_ble_eq_true rfl) (Nat.le_of_ble_eq_true rfl) rfl (by exact Nat.le_of_ble_eq_true rfl) (fun x8 σ9 hp => ?_)
      obtain ⟨rfl, h⟩ := hp
      refine g_iadd (pc := 37) X dX0_seekJoining_37 ?_
      refine g_aload_0 (pc := 38) X dX0_seekJoining_38 ?_
      refine g_getRf (pc := 39) X dX0_seekJoining_39 fl_X0_29 rfl (by decide) rfl hR rfl ?_
      refine g_callV_I (pc := 42) X Y dX0_seekJoining_42 miX3_roomOfHeap li_X0_126 (t_WPI hR  h) rfl (by decide) rfl ⟨_, rfl⟩ rfl ⟨Nat.le_of_ble_eq_true rfl, Nat.le_of_ble_eq_true rfl⟩ (Nat.le_of_ble_eq_true rfl) (Nat.le_of_ble_eq_true rfl) rfl (by exact Nat.le_of_ble_eq_true rfl) (fun x9 σ9 hp => ?_)
      obtain ⟨rfl, h⟩ := hp
      refine g_icmp_le (pc := 45) X dX0_seekJoining_45 (tgt := 49) (by decide) (fun q10 => ?_) (fun q10 => ?_)
      · replace h := h.1 q10
        refine g_aload_0 (pc := 49) X dX0_seekJoining_49 ?_
        refine g_getL (pc := 50) X dX0_seekJoining_50 rfl (by decide) fl_X0_61 rfl ?_
        refine g_lstore_3 (pc := 53) X dX0_seekJoining_53 (by decide) rfl ?_
        refine g_iconst (pc := 54) X dX0_seekJoining_54 kiconst_0 ?_
        refine g_istore_5 (pc := 55) X dX0_seekJoining_55 (by decide) rfl ?_
        obtain ⟨n23, h⟩ := h
        have hL : ∀ (c11 : Int32) (c12 : Int32) (K : Int64 → Prop) (_ : ∀ (y15 : Int64), K y15 → G o γ 0 0 116 σ 118 [some (.ref (ad o 38)), some (.int c11), some (.int c12), some (.long y15), none, none] []) (n : Nat) (v13 : Int64) (v14 : Int32), L_X0_seekJoining_57 Q c11 c12 σ K n v13 v14 → G o γ 0 0 116 σ 57 [some (.ref (ad o 38)), some (.int c11), some (.int c12), some (.long v13), none, some (.int v14)] [] := by
          intro c11 c12 K hK n
          induction n with
          | zero => intro v13 v14 h; exact False.elim h
          | succ n ih =>
            intro v13 v14 h
            rw [L_X0_seekJoining_57] at h
            refine g_iload_5 (pc := 57) X dX0_seekJoining_57 ?_
            refine g_aload_0 (pc := 59) X dX0_seekJoining_59 ?_
            refine g_getRf (pc := 60) X dX0_seekJoining_60 fl_X0_21 rfl (by decide) rfl hR rfl ?_
            refine g_getI (pc := 63) X dX0_seekJoining_63 rfl (by decide) fl_X0_39 (Or.inl rfl) ?_
            refine g_icmp_ge (pc := 66) X dX0_seekJoining_66 (tgt := 118) (by decide) (fun q16 => ?_) (fun q16 => ?_)
            · replace h := h.1 q16
              exact g_drop (by simp [lsub]) (hK v13 h)
            · replace h := h.2 q16
              refine g_aload_0 (pc := 69) X dX0_seekJoining_69 ?_
              refine g_getRf (pc := 70) X dX0_seekJoining_70 fl_X0_21 rfl (by decide) rfl hR rfl ?_
              refine g_getRf (pc := 73) X dX0_seekJoining_73 fl_X0_101 rfl (by decide) rfl hR rfl ?_
              refine g_iload_5 (pc := 76) X dX0_seekJoining_76 ?_
              refine g_iaload_w (pc := 78) X dX0_seekJoining_78 rfl (by decide) h (fun x17 h => ?_)
              refine g_iload_1 (pc := 79) X dX0_seekJoining_79 ?_
              refine g_icmp_ne (pc := 80) X dX0_seekJoining_80 (tgt := 112) (by decide) (fun q18 => ?_) (fun q18 => ?_)
              · replace h := h.2 q18
                refine g_iinc_5 (pc := 112) X dX0_seekJoining_112 (v := v14 + nI 1) rfl (by decide) rfl ?_
                refine g_goto (pc := 115) X dX0_seekJoining_115 (tgt := 57) (by decide) ?_
                exact ih v13 (v14 + nI 1) h
              · replace h := h.1 q18
                refine g_aload_0 (pc := 83) X dX0_seekJoining_83 ?_
                refine g_getRf (pc := 84) X dX0_seekJoining_84 fl_X0_9 rfl (by decide) rfl hR rfl ?_
                refine g_iload_5 (pc := 87) X dX0_seekJoining_87 ?_
                refine g_iaload_w (pc := 89) X dX0_seekJoining_89 rfl (by decide) h (fun x19 h => ?_)
                refine g_aload_0 (pc := 90) X dX0_seekJoining_90 ?_
                refine g_getRf (pc := 91) X dX0_seekJoining_91 fl_X0_15 rfl (by decide) rfl hR rfl ?_
                refine g_iload_2 (pc := 94) X dX0_seekJoining_94 ?_
                refine g_iaload_w (pc := 95) X dX0_seekJoining_95 rfl (by decide) h (fun x20 h => ?_)
                refine g_iand (pc := 96) X dX0_seekJoining_96 ?_
                refine g_if_eq (pc := 97) X dX0_seekJoining_97 (tgt := 101) (by decide) (fun q21 => ?_) (fun q21 => ?_)
                · replace h := h.1 q21
                  refine g_lload_3 (pc := 101) X dX0_seekJoining_101 ?_
                  refine g_aload_0 (pc := 102) X dX0_seekJoining_102 ?_
                  refine g_iload_5 (pc := 103) X dX0_seekJoining_103 ?_
                  refine g_iload_2 (pc := 105) X dX0_seekJoining_105 ?_
                  refine g_callV_I (pc := 106) X Y dX0_seekJoining_106 miX0_pullTo li_X0_117 (t_X0_pullTo hR  h) rfl (by decide) rfl ⟨_, rfl⟩ rfl ⟨Nat.le_of_ble_eq_true rfl, Nat.le_of_ble_eq_true rfl⟩ (Nat.le_of_ble_eq_true rfl) (Nat.le_of_ble_eq_true rfl) rfl (by exact Nat.le_of_ble_eq_true rfl) (fun x22 σ9 hp => ?_)
                  obtain ⟨rfl, h⟩ := hp
                  refine g_i2l (pc := 109) X dX0_seekJoining_109 ?_
                  refine g_lsub (pc := 110) X dX0_seekJoining_110 ?_
                  refine g_lstore_3 (pc := 111) X dX0_seekJoining_111 (by decide) rfl ?_
                  refine g_iinc_5 (pc := 112) X dX0_seekJoining_112 (v := v14 + nI 1) rfl (by decide) rfl ?_
                  refine g_goto (pc := 115) X dX0_seekJoining_115 (tgt := 57) (by decide) ?_
                  exact ih (v13 - (i2l x22)) (v14 + nI 1) h
                · replace h := h.2 q21
                  exact g_return (pc := 100) X Y dX0_seekJoining_100 (Nat.le_of_ble_eq_true rfl) (Nat.le_of_ble_eq_true rfl) ⟨rfl, hR, h⟩
        refine hL p0 p1 _ (fun y24 h => ?_) n23 (σ.2.1 38 7) (nI 0) h
        · refine g_aload_0 (pc := 118) X dX0_seekJoining_118 ?_
          refine g_lload_3 (pc := 119) X dX0_seekJoining_119 ?_
          refine g_iconst (pc := 120) X dX0_seekJoining_120 kiconst_1 ?_
          refine g_iload_1 (pc := 121) X dX0_seekJoining_121 ?_
          refine g_iload_2 (pc := 122) X dX0_seekJoining_122 ?_
          refine g_callV_V (pc := 123) X Y dX0_seekJoining_123 miX0_offer li_X0_130 (t_X0_offer hR  h) rfl (by decide) rfl ⟨_, rfl⟩ rfl ⟨Nat.le_of_ble_eq_true rfl, Nat.le_of_ble_eq_true rfl⟩ (Nat.le_of_ble_eq_true rfl) (Nat.le_of_ble_eq_true rfl) rfl (by exact Nat.le_of_ble_eq_true rfl) (fun s25 hp => ?_)
          obtain ⟨hR, h⟩ := hp
          exact g_return (pc := 126) X Y dX0_seekJoining_126 (Nat.le_of_ble_eq_true rfl) (Nat.le_of_ble_eq_true rfl) ⟨rfl, hR, h⟩
      · replace h := h.2 q10
        exact g_return (pc := 48) X Y dX0_seekJoining_48 (Nat.le_of_ble_eq_true rfl) (Nat.le_of_ble_eq_true rfl) ⟨rfl, hR, h⟩
    · replace h := h.1 q4
      exact g_return (pc := 18) X Y dX0_seekJoining_18 (Nat.le_of_ble_eq_true rfl) (Nat.le_of_ble_eq_true rfl) ⟨rfl, hR, h⟩
