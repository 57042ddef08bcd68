def ushr (x y : Int32) : Int32 := (x.toUInt32 >>> (y.toUInt32 &&& Int32.toUInt32 31)).toInt32
def shlL (x : Int64) (y : Int32) : Int64 := x <<< (y.toInt64 &&& 63)
def shrL (x : Int64) (y : Int32) : Int64 := x >>> (y.toInt64 &&& 63)
def ushrL (x : Int64) (y : Int32) : Int64 := (x.toUInt64 >>> (y.toInt64.toUInt64 &&& 63)).toInt64
abbrev i2l (x : Int32) : Int64 := x.toInt64
abbrev l2i (x : Int64) : Int32 := x.toInt32
def W_X12_may (p0 : Int32) (p1 : Int32) (Q : Int32 → gSt → Prop) (σ : gSt) : Prop := ∀ J2 : gSt → Prop, (∀ s1, ((((s1.1 65 0) = 0 → (Q (nI 1) s1)) ∧ (¬ (s1.1 65 0) = 0 → (Q (nI 0) s1)))) → J2 s1) → ((p0 = 0 → ((((σ.1 65 0) = 0 → (fI σ 65 0 p1 (fun s6 => J2 s6))) ∧ (¬ (σ.1 65 0) = 0 → (J2 σ))))) ∧ (¬ p0 = 0 → (J2 σ)))
set_option maxHeartbeats 4000000 in
theorem t_X12_may {o : gOm} {l : Launch} {b : Bool}   {σ : gSt} (hR : σ.2.2 = gRf b) {p0 : Int32} {p1 : Int32} {Q : Int32 → gSt → Prop} (h : W_X12_may p0 p1 Q σ) : Sp o l mX12_may 1 0 0 [.ref (ad o 65), .int p0, .int p1] 116 116 σ (pI (fun x s => s.2.2 = gRf b ∧ Q x s)) := by
  unfold W_X12_may at h
  refine Sp.of (ls0 := [some (.ref (ad o 65)), some (.int p0), some (.int p1)]) miX12_may rfl (Nat.le_of_ble_eq_true rfl) rfl (fun γ hγ hnm X Y => ?_)
  subst hγ
  have X : gX o γ cX12_may 3 RX12 := X
  refine g_iload_1 (pc := 0) X dX12_may_0 ?_
  replace h := h (fun s1 => s1.2.2 = gRf b → G o γ 0 0 116 s1 16 [some (.ref (ad o 65)), some (.int p0), some (.int p1)] []) (by
      intro s1 h hR
      refine g_aload_0 (pc := 16) X dX12_may_16 ?_
      refine g_getI (pc := 17) X dX12_may_17 rfl (by decide) fl_X12_1 (Or.inl rfl) ?_
      refine g_if_ne (pc := 20) X dX12_may_20 (tgt := 27) (by decide) (fun q3 => ?_) (fun q3 => ?_)
      · replace h := h.2 q3
        refine g_iconst (pc := 27) X dX12_may_27 kiconst_0 ?_
        exact g_zreturn (pc := 28) X Y dX12_may_28 (by first | exact Or.inl rfl | exact Or.inr rfl) (Nat.le_of_ble_eq_true rfl) (Nat.le_of_ble_eq_true rfl) ⟨_, rfl, hR, h⟩
      · replace h := h.1 q3
        refine g_iconst (pc := 23) X dX12_may_23 kiconst_1 ?_
        refine g_goto (pc := 24) X dX12_may_24 (tgt := 28) (by decide) ?_
        exact g_zreturn (pc := 28) X Y dX12_may_28 (by first | exact Or.inl rfl | exact Or.inr rfl) (Nat.le_of_ble_eq_true rfl) (Nat.le_of_ble_eq_true rfl) ⟨_, rfl, hR, h⟩)
  refine g_if_ne (pc := 1) X dX12_may_1 (tgt := 16) (by decide) (fun q4 => ?_) (fun q4 => ?_)
  · replace h := h.2 q4
    exact h hR
  · replace h := h.1 q4
    refine g_aload_0 (pc := 4) X dX12_may_4 ?_
    refine g_getI (pc := 5) X dX12_may_5 rfl (by decide) fl_X12_1 (Or.inl rfl) ?_
    refine g_if_ne (pc := 8) X dX12_may_8 (tgt := 16) (by decide) (fun q5 => ?_) (fun q5 => ?_)
    · replace h := h.2 q5
      exact h hR
    · replace h := h.1 q5
      refine g_aload_0 (pc := 11) X dX12_may_11 ?_
      refine g_iload_2 (pc := 12) X dX12_may_12 ?_
      refine g_putI_w (pc := 13) X dX12_may_13 fl_X12_1 rfl (by decide) rfl rfl hR h (fun s6 hR h => ?_)
      exact h hR
def W_X12_within (p0 : Int32) (p1 : Int32) (p2 : Int32) (Q : Int32 → Prop) (σ : gSt) : Prop := ((p0 < p1 → (Q (nI 0))) ∧ (¬ p0 < p1 → (((p2 < p0 → (Q (nI 0))) ∧ (¬ p2 < p0 → (Q (nI 1)))))))
set_option maxHeartbeats 4000000 in
theorem t_X12_within {o : gOm} {l : Launch} {b : Bool}   {σ : gSt} (hR : σ.2.2 = gRf b) {p0 : Int32} {p1 : Int32} {p2 : Int32} {Q : Int32 → Prop} (h : W_X12_within p0 p1 p2 Q σ) : Sp o l mX12_within 1 0 0 [.int p0, .int p1, .int p2] 116 116 σ (pI (fun x s => s = σ ∧ Q x)) := by
  unfold W_X12_within at h
  refine Sp.of (ls0 := [some (.int p0), some (.int p1), some (.int p2)]) miX12_within rfl (Nat.le_of_ble_eq_true rfl) rfl (fun γ hγ hnm X Y => ?_)
  subst hγ
  have X : gX o γ cX12_within 3 RX12 := X
  refine g_iload_0 (pc := 0) X dX12_within_0 ?_
  refine g_iload_1 (pc := 1) X dX12_within_1 ?_
  refine g_icmp_lt (pc := 2) X dX12_within_2 (tgt := 14) (by decide) (fun q1 => ?_) (fun q1 => ?_)
  · replace h := h.1 q1
    refine g_iconst (pc := 14) X dX12_within_14 kiconst_0 ?_
    exact g_zreturn (pc := 15) X Y dX12_within_15 (by first | exact Or.inl rfl | exact Or.inr rfl) (Nat.le_of_ble_eq_true rfl) (Nat.le_of_ble_eq_true rfl) ⟨_, rfl, rfl, h⟩
  · replace h := h.2 q1
    refine g_iload_0 (pc := 5) X dX12_within_5 ?_
    refine g_iload_2 (pc := 6) X dX12_within_6 ?_
    refine g_icmp_gt (pc := 7) X dX12_within_7 (tgt := 14) (by decide) (fun q2 => ?_) (fun q2 => ?_)
    · replace h := h.1 q2
      refine g_iconst (pc := 14) X dX12_within_14 kiconst_0 ?_
      exact g_zreturn (pc := 15) X Y dX12_within_15 (by first | exact Or.inl rfl | exact Or.inr rfl) (Nat.le_of_ble_eq_true rfl) (Nat.le_of_ble_eq_true rfl) ⟨_, rfl, rfl, h⟩
    · replace h := h.2 q2
      refine g_iconst (pc := 10) X dX12_within_10 kiconst_1 ?_
      refine g_goto (pc := 11) X dX12_within_11 (tgt := 15) (by decide) ?_
      exact g_zreturn (pc := 15) X Y dX12_within_15 (by first | exact Or.inl rfl | exact Or.inr rfl) (Nat.le_of_ble_eq_true rfl) (Nat.le_of_ble_eq_true rfl) ⟨_, rfl, rfl, h⟩
def W_X12_isEntry (p0 : Int32) (Q : Int32 → gSt → Prop) (σ : gSt) : Prop := W_X12_within p0 (nI 0) ((σ.1 65 1) - (nI 1)) (fun x1 => W_X12_may x1 (nI 1) (fun x2 s3 => ((x2 = 0 ∨ x2 = 1) ∧ Q x2 s3)) σ) σ
set_option maxHeartbeats 4000000 in
theorem t_X12_isEntry {o : gOm} {l : Launch} {b : Bool}   {σ : gSt} (hR : σ.2.2 = gRf b) {p0 : Int32} {Q : Int32 → gSt → Prop} (h : W_X12_isEntry p0 Q σ) : Sp o l mX12_isEntry 2 0 0 [.ref (ad o 65), .int p0] 116 116 σ (pI (fun x s => s.2.2 = gRf b ∧ Q x s)) := by
  unfold W_X12_isEntry at h
  refine Sp.of (ls0 := [some (.ref (ad o 65)), some (.int p0)]) miX12_isEntry rfl (Nat.le_of_ble_eq_true rfl) rfl (fun γ hγ hnm X Y => ?_)
  subst hγ
  have X : gX o γ cX12_isEntry 2 RX12 := X
  refine g_aload_0 (pc := 0) X dX12_isEntry_0 ?_
  refine g_iload_1 (pc := 1) X dX12_isEntry_1 ?_
  refine g_iconst (pc := 2) X dX12_isEntry_2 kiconst_0 ?_
  refine g_aload_0 (pc := 3) X dX12_isEntry_3 ?_
  refine g_getI (pc := 4) X dX12_isEntry_4 rfl (by decide) fl_X12_177 (Or.inl rfl) ?_
  refine g_iconst (pc := 7) X dX12_isEntry_7 kiconst_1 ?_
  refine g_isub (pc := 8) X dX12_isEntry_8 ?_
  refine g_callS_I (pc := 9) X Y dX12_isEntry_9 miX12_within li_X12_169 (t_X12_within hR  h) rfl ⟨Nat.le_of_ble_eq_true rfl, Nat.le_of_ble_eq_true rfl⟩ (Nat.le_of_ble_eq_true rfl) (Nat.le_of_ble_eq_true rfl) rfl (by exact Nat.le_of_ble_eq_true rfl) (fun x1 σ9 hp => ?_)
  obtain ⟨rfl, h⟩ := hp
  refine g_iconst (pc := 12) X dX12_isEntry_12 kiconst_1 ?_
  refine g_callV_I (pc := 13) X Y dX12_isEntry_13 miX12_may li_X12_173 (t_X12_may hR  h) rfl (by decide) rfl ⟨_, rfl⟩ rfl ⟨Nat.le_of_ble_eq_true rfl, Nat.le_of_ble_eq_true rfl⟩ (Nat.le_of_ble_eq_true rfl) (Nat.le_of_ble_eq_true rfl) rfl (by exact Nat.le_of_ble_eq_true rfl) (fun x2 s3 hp => ?_)
  obtain ⟨hR, h⟩ := hp
  exact g_zreturn (pc := 16) X Y dX12_isEntry_16 h.1 (Nat.le_of_ble_eq_true rfl) (Nat.le_of_ble_eq_true rfl) ⟨_, rfl, hR, h.2⟩
def W_X12_isPair (p0 : Int32) (p1 : Int32) (Q : Int32 → gSt → Prop) (σ : gSt) : Prop := W_X12_isEntry p0 (fun x1 s2 => ((x1 = 0 → (Q (nI 0) s2)) ∧ (¬ x1 = 0 → (W_X12_isEntry p1 (fun x4 s5 => ((x4 = 0 → (Q (nI 0) s5)) ∧ (¬ x4 = 0 → (∀ J8 : Int32 → Prop, (∀ x7, (W_X12_may x7 (nI 2) (fun x9 s10 => ((x9 = 0 → (Q (nI 0) s10)) ∧ (¬ x9 = 0 → (Q (nI 1) s10)))) s5) → J8 x7) → ((p0 = p1 → (J8 (nI 0))) ∧ (¬ p0 = p1 → (J8 (nI 1)))))))) s2)))) σ
set_option maxHeartbeats 4000000 in
theorem t_X12_isPair {o : gOm} {l : Launch} {b : Bool}   {σ : gSt} (hR : σ.2.2 = gRf b) {p0 : Int32} {p1 : Int32} {Q : Int32 → gSt → Prop} (h : W_X12_isPair p0 p1 Q σ) : Sp o l mX12_isPair 3 0 0 [.ref (ad o 65), .int p0, .int p1] 116 116 σ (pI (fun x s => s.2.2 = gRf b ∧ Q x s)) := by
  unfold W_X12_isPair at h
  refine Sp.of (ls0 := [some (.ref (ad o 65)), some (.int p0), some (.int p1)]) miX12_isPair rfl (Nat.le_of_ble_eq_true rfl) rfl (fun γ hγ hnm X Y => ?_)
  subst hγ
  have X : gX o γ cX12_isPair 3 RX12 := X
  refine g_aload_0 (pc := 0) X dX12_isPair_0 ?_
  refine g_iload_1 (pc := 1) X dX12_isPair_1 ?_
  refine g_callV_I (pc := 2) X Y dX12_isPair_2 miX12_isEntry li_X12_183 (t_X12_isEntry hR  h) rfl (by decide) rfl ⟨_, rfl⟩ rfl ⟨Nat.le_of_ble_eq_true rfl, Nat.le_of_ble_eq_true rfl⟩ (Nat.le_of_ble_eq_true rfl) (Nat.le_of_ble_eq_true rfl) rfl (by exact Nat.le_of_ble_eq_true rfl) (fun x1 s2 hp => ?_)
  obtain ⟨hR, h⟩ := hp
  refine g_if_eq (pc := 5) X dX12_isPair_5 (tgt := 38) (by decide) (fun q3 => ?_) (fun q3 => ?_)
  · replace h := h.1 q3
    refine g_iconst (pc := 38) X dX12_isPair_38 kiconst_0 ?_
    exact g_zreturn (pc := 39) X Y dX12_isPair_39 (by first | exact Or.inl rfl | exact Or.inr rfl) (Nat.le_of_ble_eq_true rfl) (Nat.le_of_ble_eq_true rfl) ⟨_, rfl, hR, h⟩
  · replace h := h.2 q3
    refine g_aload_0 (pc := 8) X dX12_isPair_8 ?_
    refine g_iload_2 (pc := 9) X dX12_isPair_9 ?_
    refine g_callV_I (pc := 10) X Y dX12_isPair_10 miX12_isEntry li_X12_183 (t_X12_isEntry hR  h) rfl (by decide) rfl ⟨_, rfl⟩ rfl ⟨Nat.le_of_ble_eq_true rfl, Nat.le_of_ble_eq_true rfl⟩ (Nat.le_of_ble_eq_true rfl) (Nat.le_of_ble_eq_true rfl) rfl (by exact Nat.le_of_ble_eq_true rfl) (fun x4 s5 hp => ?_)
    obtain ⟨hR, h⟩ := hp
    refine g_if_eq (pc := 13) X dX12_isPair_13 (tgt := 38) (by decide) (fun q6 => ?_) (fun q6 => ?_)
    · replace h := h.1 q6
      refine g_iconst (pc := 38) X dX12_isPair_38 kiconst_0 ?_
      exact g_zreturn (pc := 39) X Y dX12_isPair_39 (by first | exact Or.inl rfl | exact Or.inr rfl) (Nat.le_of_ble_eq_true rfl) (Nat.le_of_ble_eq_true rfl) ⟨_, rfl, hR, h⟩
    · replace h := h.2 q6
      refine g_aload_0 (pc := 16) X dX12_isPair_16 ?_
      refine g_iload_1 (pc := 17) X dX12_isPair_17 ?_
      refine g_iload_2 (pc := 18) X dX12_isPair_18 ?_
      replace h := h (fun x7 => G o γ 0 0 116 s5 27 [some (.ref (ad o 65)), some (.int p0), some (.int p1)] [.int x7, .ref (ad o 65)]) (by
          intro x7 h
          refine g_iconst (pc := 27) X dX12_isPair_27 kiconst_2 ?_
          refine g_callV_I (pc := 28) X Y dX12_isPair_28 miX12_may li_X12_173 (t_X12_may hR  h) rfl (by decide) rfl ⟨_, rfl⟩ rfl ⟨Nat.le_of_ble_eq_true rfl, Nat.le_of_ble_eq_true rfl⟩ (Nat.le_of_ble_eq_true rfl) (Nat.le_of_ble_eq_true rfl) rfl (by exact Nat.le_of_ble_eq_true rfl) (fun x9 s10 hp => ?_)
          obtain ⟨hR, h⟩ := hp
          refine g_if_eq (pc := 31) X dX12_isPair_31 (tgt := 38) (by decide) (fun q11 => ?_) (fun q11 => ?_)
          · replace h := h.1 q11
            refine g_iconst (pc := 38) X dX12_isPair_38 kiconst_0 ?_
            exact g_zreturn (pc := 39) X Y dX12_isPair_39 (by first | exact Or.inl rfl | exact Or.inr rfl) (Nat.le_of_ble_eq_true rfl) (Nat.le_of_ble_eq_true rfl) ⟨_, rfl, hR, h⟩
          · replace h := h.2 q11
            refine g_iconst (pc := 34) X dX12_isPair_34 kiconst_1 ?_
            refine g_goto (pc := 35) X dX12_isPair_35 (tgt := 39) (by decide) ?_
            exact g_zreturn (pc := 39) X Y dX12_isPair_39 (by first | exact Or.inl rfl | exact Or.inr rfl) (Nat.le_of_ble_eq_true rfl) (Nat.le_of_ble_eq_true rfl) ⟨_, rfl, hR, h⟩)
      refine g_icmp_eq (pc := 19) X dX12_isPair_19 (tgt := 26) (by decide) (fun q12 => ?_) (fun q12 => ?_)
      · replace h := h.1 q12
        refine g_iconst (pc := 26) X dX12_isPair_26 kiconst_0 ?_
        exact h
      · replace h := h.2 q12
        refine g_iconst (pc := 22) X dX12_isPair_22 kiconst_1 ?_
        refine g_goto (pc := 23) X dX12_isPair_23 (tgt := 27) (by decide) ?_
        exact h
def L_X12_sizeOf_4 (Q : Int32 → Prop) (c1 : Int32) (s4 : gSt) (K : Int32 → Prop) : Nat → Int32 → Int32 → Prop
  | 0, _, _ => False
  | n4 + 1, v2, v3 => (((s4.1 65 1) ≤ v3 → (K v2)) ∧ (¬ (s4.1 65 1) ≤ v3 → (rI s4 71 30 v3 (fun x7 => ∀ J9 : Int32 → Prop, (∀ x8, (L_X12_sizeOf_4 Q c1 s4 K n4 (v2 + x8) (v3 + nI 1)) → J9 x8) → ((x7 = c1 → (J9 (nI 1))) ∧ (¬ x7 = c1 → (J9 (nI 0))))))))
def W_X12_sizeOf (p0 : Int32) (Q : Int32 → Prop) (σ : gSt) : Prop := ∃ m4, L_X12_sizeOf_4 Q p0 σ (fun y12 => Q y12) m4 (nI 0) (nI 0)
set_option maxHeartbeats 4000000 in
theorem t_X12_sizeOf {o : gOm} {l : Launch} {b : Bool}   {σ : gSt} (hR : σ.2.2 = gRf b) {p0 : Int32} {Q : Int32 → Prop} (h : W_X12_sizeOf p0 Q σ) : Sp o l mX12_sizeOf 1 0 0 [.ref (ad o 65), .int p0] 116 116 σ (pI (fun x s => s = σ ∧ Q x)) := by
  unfold W_X12_sizeOf at h
  refine Sp.of (ls0 := [some (.ref (ad o 65)), some (.int p0), none, none]) miX12_sizeOf rfl (Nat.le_of_ble_eq_true rfl) rfl (fun γ hγ hnm X Y => ?_)
  subst hγ
  have X : gX o γ cX12_sizeOf 4 RX12 := X
  refine g_iconst (pc := 0) X dX12_sizeOf_0 kiconst_0 ?_
  refine g_istore_2 (pc := 1) X dX12_sizeOf_1 (by decide) rfl ?_
  refine g_iconst (pc := 2) X dX12_sizeOf_2 kiconst_0 ?_
  refine g_istore_3 (pc := 3) X dX12_sizeOf_3 (by decide) rfl ?_
  obtain ⟨n11, h⟩ := h
  have hL : ∀ (c1 : Int32) (s4 : gSt) (_ : s4.2.2 = gRf b) (K : Int32 → Prop) (_ : ∀ (y5 : Int32), K y5 → G o γ 0 0 116 s4 36 [some (.ref (ad o 65)), some (.int c1), some (.int y5), none] []) (n : Nat) (v2 : Int32) (v3 : Int32), L_X12_sizeOf_4 Q c1 s4 K n v2 v3 → G o γ 0 0 116 s4 4 [some (.ref (ad o 65)), some (.int c1), some (.int v2), some (.int v3)] [] := by
    intro c1 s4 hR K hK n
    induction n with
    | zero => intro v2 v3 h; exact False.elim h
    | succ n ih =>
      intro v2 v3 h
      rw [L_X12_sizeOf_4] at h
      refine g_iload_3 (pc := 4) X dX12_sizeOf_4 ?_
      refine g_aload_0 (pc := 5) X dX12_sizeOf_5 ?_
      refine g_getI (pc := 6) X dX12_sizeOf_6 rfl (by decide) fl_X12_177 (Or.inl rfl) ?_
      refine g_icmp_ge (pc := 9) X dX12_sizeOf_9 (tgt := 36) (by decide) (fun q6 => ?_) (fun q6 => ?_)
      · replace h := h.1 q6
        exact g_drop (by simp [lsub]) (hK v2 h)
      · replace h := h.2 q6
        refine g_iload_2 (pc := 12) X dX12_sizeOf_12 ?_
        refine g_aload_0 (pc := 13) X dX12_sizeOf_13 ?_
        refine g_getRf (pc := 14) X dX12_sizeOf_14 fl_X12_29 rfl (by decide) rfl hR rfl ?_
        refine g_iload_3 (pc := 17) X dX12_sizeOf_17 ?_
        refine g_iaload_w (pc := 18) X dX12_sizeOf_18 rfl (by decide) h (fun x7 h => ?_)
        refine g_iload_1 (pc := 19) X dX12_sizeOf_19 ?_
        replace h := h (fun x8 => G o γ 0 0 116 s4 28 [some (.ref (ad o 65)), some (.int c1), some (.int v2), some (.int v3)] [.int x8, .int v2]) (by
            intro x8 h
            refine g_iadd (pc := 28) X dX12_sizeOf_28 ?_
            refine g_istore_2 (pc := 29) X dX12_sizeOf_29 (by decide) rfl ?_
            refine g_iinc_3 (pc := 30) X dX12_sizeOf_30 (v := v3 + nI 1) rfl (by decide) rfl ?_
            refine g_goto (pc := 33) X dX12_sizeOf_33 (tgt := 4) (by decide) ?_
            exact ih (v2 + x8) (v3 + nI 1) h)
        refine g_icmp_ne (pc := 20) X dX12_sizeOf_20 (tgt := 27) (by decide) (fun q10 => ?_) (fun q10 => ?_)
        · replace h := h.2 q10
          refine g_iconst (pc := 27) X dX12_sizeOf_27 kiconst_0 ?_
          exact h
        · replace h := h.1 q10
          refine g_iconst (pc := 23) X dX12_sizeOf_23 kiconst_1 ?_
          refine g_goto (pc := 24) X dX12_sizeOf_24 (tgt := 28) (by decide) ?_
          exact h
  refine hL p0 σ hR _ (fun y12 h => ?_) n11 (nI 0) (nI 0) h
  · refine g_iload_2 (pc := 36) X dX12_sizeOf_36 ?_
    exact g_ireturn (pc := 37) X Y dX12_sizeOf_37 (Nat.le_of_ble_eq_true rfl) (Nat.le_of_ble_eq_true rfl) ⟨_, rfl, rfl, h⟩
def L_X12_number_20 (k0 : Nat) (Q : gSt → Prop) (c5 : Int32) (s8 : gSt) (K : Int32 → Prop) : Nat → Int32 → Int32 → Prop
  | 0, _, _ => False
  | n20 + 1, v6, v7 => ((v7 < 0 → (K v6)) ∧ (¬ v7 < 0 → (rI s8 k0 ((lay k0).2) v7 (fun x11 => rI s8 k0 ((lay k0).2) c5 (fun x12 => ((x11 = x12 → (L_X12_number_20 k0 Q c5 s8 K n20 v7 (v7 + (-1 : Int32)))) ∧ (¬ x11 = x12 → (L_X12_number_20 k0 Q c5 s8 K n20 v6 (v7 + (-1 : Int32))))))))))
def L_X12_number_2 (k0 : Nat) (Q : gSt → Prop)  (K : gSt → Prop) : Nat → Int32 → gSt → Prop
  | 0, _, _ => False
  | n2 + 1, v1, s2 => (((s2.1 65 1) ≤ v1 → (K s2)) ∧ (¬ (s2.1 65 1) ≤ v1 → (∃ m20, L_X12_number_20 k0 Q v1 s2 (fun y15 => wI s2 98 30 v1 y15 (fun s16 => L_X12_number_2 k0 Q K n2 (v1 + nI 1) s16)) m20 v1 ((s2.1 65 1) - (nI 1)))))
def L_X12_number_59 (k0 : Nat) (Q : gSt → Prop)  (K : gSt → Prop) : Nat → Int32 → gSt → Prop
  | 0, _, _ => False
  | n59 + 1, v19, s20 => (((s20.1 65 1) ≤ v19 → (K s20)) ∧ (¬ (s20.1 65 1) ≤ v19 → (rI s20 98 30 v19 (fun x23 => wI s20 k0 ((lay k0).2) v19 x23 (fun s24 => L_X12_number_59 k0 Q K n59 (v19 + nI 1) s24)))))
def W_X12_number (k0 : Nat) (Q : gSt → Prop) (σ : gSt) : Prop := ∃ m2, L_X12_number_2 k0 Q (fun s18 => ∃ m59, L_X12_number_59 k0 Q (fun s26 => Q s26) m59 (nI 0) s18) m2 (nI 0) σ
set_option maxHeartbeats 4000000 in
theorem t_X12_number {o : gOm} {l : Launch} {b : Bool}   {σ : gSt} (hR : σ.2.2 = gRf b) {k0 : Nat} {Q : gSt → Prop} (hk0 : k0 < 116) (hk00 : (lay k0).1 = 0) (h : W_X12_number k0 Q σ) : Sp o l mX12_number 1 0 0 [.ref (ad o 65), .ref (ad o k0)] 116 116 σ (pV (fun s => s.2.2 = gRf b ∧ Q s)) := by
  have hk0y : lay k0 = (0, (lay k0).2) := Prod.ext hk00 rfl
  unfold W_X12_number at h
  refine Sp.of (ls0 := [some (.ref (ad o 65)), some (.ref (ad o k0)), none, none, none]) miX12_number rfl (Nat.le_of_ble_eq_true rfl) rfl (fun γ hγ hnm X Y => ?_)
  subst hγ
  have X : gX o γ cX12_number 5 RX12 := X
  refine g_iconst (pc := 0) X dX12_number_0 kiconst_0 ?_
  refine g_istore_2 (pc := 1) X dX12_number_1 (by decide) rfl ?_
  obtain ⟨n17, h⟩ := h
  have hL : ∀  (K : gSt → Prop) (_ : ∀  (s3 : gSt), s3.2.2 = gRf b → K s3 → G o γ 0 0 116 s3 57 [some (.ref (ad o 65)), some (.ref (ad o k0)), none, none, none] []) (n : Nat) (v1 : Int32) (s2 : gSt), s2.2.2 = gRf b → L_X12_number_2 k0 Q K n v1 s2 → G o γ 0 0 116 s2 2 [some (.ref (ad o 65)), some (.ref (ad o k0)), some (.int v1), none, none] [] := by
    intro K hK n
    induction n with
    | zero => intro v1 s2 hR h; exact False.elim h
    | succ n ih =>
      intro v1 s2 hR h
      rw [L_X12_number_2] at h
      refine g_iload_2 (pc := 2) X dX12_number_2 ?_
      refine g_aload_0 (pc := 3) X dX12_number_3 ?_
      refine g_getI (pc := 4) X dX12_number_4 rfl (by decide) fl_X12_177 (Or.inl rfl) ?_
      refine g_icmp_ge (pc := 7) X dX12_number_7 (tgt := 57) (by decide) (fun q4 => ?_) (fun q4 => ?_)
      · replace h := h.1 q4
        exact g_drop (by simp [lsub]) (hK s2 hR h)
      · replace h := h.2 q4
        refine g_iload_2 (pc := 10) X dX12_number_10 ?_
        refine g_istore_3 (pc := 11) X dX12_number_11 (by decide) rfl ?_
        refine g_aload_0 (pc := 12) X dX12_number_12 ?_
        refine g_getI (pc := 13) X dX12_number_13 rfl (by decide) fl_X12_177 (Or.inl rfl) ?_
        refine g_iconst (pc := 16) X dX12_number_16 kiconst_1 ?_
        refine g_isub (pc := 17) X dX12_number_17 ?_
        refine g_istore_4 (pc := 18) X dX12_number_18 (by decide) rfl ?_
        obtain ⟨n14, h⟩ := h
        have hL : ∀ (c5 : Int32) (s8 : gSt) (_ : s8.2.2 = gRf b) (K : Int32 → Prop) (_ : ∀ (y9 : Int32), K y9 → G o γ 0 0 116 s8 44 [some (.ref (ad o 65)), some (.ref (ad o k0)), some (.int c5), some (.int y9), none] []) (n : Nat) (v6 : Int32) (v7 : Int32), L_X12_number_20 k0 Q c5 s8 K n v6 v7 → G o γ 0 0 116 s8 20 [some (.ref (ad o 65)), some (.ref (ad o k0)), some (.int c5), some (.int v6), some (.int v7)] [] := by
          intro c5 s8 hR K hK n
          induction n with
          | zero => intro v6 v7 h; exact False.elim h
          | succ n ih =>
            intro v6 v7 h
            rw [L_X12_number_20] at h
            refine g_iload_4 (pc := 20) X dX12_number_20 ?_
            refine g_if_lt (pc := 22) X dX12_number_22 (tgt := 44) (by decide) (fun q10 => ?_) (fun q10 => ?_)
            · replace h := h.1 q10
              exact g_drop (by simp [lsub]) (hK v6 h)
            · replace h := h.2 q10
              refine g_aload_1 (pc := 25) X dX12_number_25 ?_
              refine g_iload_4 (pc := 26) X dX12_number_26 ?_
              refine g_iaload_w (pc := 28) X dX12_number_28 hk0y hk0 h (fun x11 h => ?_)
              refine g_aload_1 (pc := 29) X dX12_number_29 ?_
              refine g_iload_2 (pc := 30) X dX12_number_30 ?_
              refine g_iaload_w (pc := 31) X dX12_number_31 hk0y hk0 h (fun x12 h => ?_)
              refine g_icmp_ne (pc := 32) X dX12_number_32 (tgt := 38) (by decide) (fun q13 => ?_) (fun q13 => ?_)
              · replace h := h.2 q13
                refine g_iinc_4 (pc := 38) X dX12_number_38 (v := v7 + (-1 : Int32)) rfl (by decide) rfl ?_
                refine g_goto (pc := 41) X dX12_number_41 (tgt := 20) (by decide) ?_
                exact ih v6 (v7 + (-1 : Int32)) h
              · replace h := h.1 q13
                refine g_iload_4 (pc := 35) X dX12_number_35 ?_
                refine g_istore_3 (pc := 37) X dX12_number_37 (by decide) rfl ?_
                refine g_iinc_4 (pc := 38) X dX12_number_38 (v := v7 + (-1 : Int32)) rfl (by decide) rfl ?_
                refine g_goto (pc := 41) X dX12_number_41 (tgt := 20) (by decide) ?_
                exact ih v7 (v7 + (-1 : Int32)) h
        refine hL v1 s2 hR _ (fun y15 h => ?_) n14 v1 ((s2.1 65 1) - (nI 1)) h
        · refine g_aload_0 (pc := 44) X dX12_number_44 ?_
          refine g_getRf (pc := 45) X dX12_number_45 fl_X12_117 rfl (by decide) rfl hR rfl ?_
          refine g_iload_2 (pc := 48) X dX12_number_48 ?_
          refine g_iload_3 (pc := 49) X dX12_number_49 ?_
          refine g_iastore_w (pc := 50) X dX12_number_50 rfl (by decide) hR h (fun s16 hR h => ?_)
          refine g_iinc_2 (pc := 51) X dX12_number_51 (v := v1 + nI 1) rfl (by decide) rfl ?_
          refine g_goto (pc := 54) X dX12_number_54 (tgt := 2) (by decide) ?_
          exact g_drop (by simp [lsub]) (ih (v1 + nI 1) s16 hR h)
  refine hL  _ (fun s18 hR h => ?_) n17 (nI 0) σ hR h
  · refine g_iconst (pc := 57) X dX12_number_57 kiconst_0 ?_
    refine g_istore_2 (pc := 58) X dX12_number_58 (by decide) rfl ?_
    obtain ⟨n25, h⟩ := h
    have hL : ∀  (K : gSt → Prop) (_ : ∀  (s21 : gSt), s21.2.2 = gRf b → K s21 → G o γ 0 0 116 s21 82 [some (.ref (ad o 65)), some (.ref (ad o k0)), none, none, none] []) (n : Nat) (v19 : Int32) (s20 : gSt), s20.2.2 = gRf b → L_X12_number_59 k0 Q K n v19 s20 → G o γ 0 0 116 s20 59 [some (.ref (ad o 65)), some (.ref (ad o k0)), some (.int v19), none, none] [] := by
      intro K hK n
      induction n with
      | zero => intro v19 s20 hR h; exact False.elim h
      | succ n ih =>
        intro v19 s20 hR h
        rw [L_X12_number_59] at h
        refine g_iload_2 (pc := 59) X dX12_number_59 ?_
        refine g_aload_0 (pc := 60) X dX12_number_60 ?_
        refine g_getI (pc := 61) X dX12_number_61 rfl (by decide) fl_X12_177 (Or.inl rfl) ?_
        refine g_icmp_ge (pc := 64) X dX12_number_64 (tgt := 82) (by decide) (fun q22 => ?_) (fun q22 => ?_)
        · replace h := h.1 q22
          exact g_drop (by simp [lsub]) (hK s20 hR h)
        · replace h := h.2 q22
          refine g_aload_1 (pc := 67) X dX12_number_67 ?_
          refine g_iload_2 (pc := 68) X dX12_number_68 ?_
          refine g_aload_0 (pc := 69) X dX12_number_69 ?_
          refine g_getRf (pc := 70) X dX12_number_70 fl_X12_117 rfl (by decide) rfl hR rfl ?_
          refine g_iload_2 (pc := 73) X dX12_number_73 ?_
          refine g_iaload_w (pc := 74) X dX12_number_74 rfl (by decide) h (fun x23 h => ?_)
          refine g_iastore_w (pc := 75) X dX12_number_75 hk0y hk0 hR h (fun s24 hR h => ?_)
          refine g_iinc_2 (pc := 76) X dX12_number_76 (v := v19 + nI 1) rfl (by decide) rfl ?_
          refine g_goto (pc := 79) X dX12_number_79 (tgt := 59) (by decide) ?_
          exact ih (v19 + nI 1) s24 hR h
    refine hL  _ (fun s26 hR h => ?_) n25 (nI 0) s18 hR h
    · exact g_return (pc := 82) X Y dX12_number_82 (Nat.le_of_ble_eq_true rfl) (Nat.le_of_ble_eq_true rfl) ⟨rfl, hR, h⟩
