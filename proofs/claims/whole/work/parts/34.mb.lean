def L_X12_readNumber_7 (Q : Int32 → gSt → Prop) (c1 : Int32) (K : Int32 → gSt → Prop) : Nat → Int32 → gSt → Prop
  | 0, _, _ => False
  | n7 + 1, v2, s3 => (((s3.1 65 10) ≤ (s3.1 65 11) → (K v2 s3)) ∧ (¬ (s3.1 65 10) ≤ (s3.1 65 11) → (rI s3 73 400 (s3.1 65 11) (fun x7 => W_X12_isDigit x7 (fun x8 => ((x8 = 0 → (K v2 s3)) ∧ (¬ x8 = 0 → (∀ J11 : Int32 → Prop, (∀ x10, (fI s3 65 11 ((s3.1 65 11) + (nI 1)) (fun s12 => L_X12_readNumber_7 Q c1 K n7 x10 s12)) → J11 x10) → ((v2 ≤ (nI 9999) → (rI s3 73 400 (s3.1 65 11) (fun x14 => J11 ((((nI 10) * v2) + x14) - (nI 48))))) ∧ (¬ v2 ≤ (nI 9999) → (J11 (nI 10000)))))))) s3))))
def W_X12_readNumber  (Q : Int32 → gSt → Prop) (σ : gSt) : Prop := ∃ m7, L_X12_readNumber_7 Q (σ.1 65 11) (fun y16 s17 => ((y16 ≤ (nI 9999) → (Q y16 s17)) ∧ (¬ y16 ≤ (nI 9999) → (W_X12_wrong (nI 2) (σ.1 65 11) (fun s19 => Q y16 s19) s17)))) m7 (nI 0) σ
set_option maxHeartbeats 4000000 in
theorem t_X12_readNumber {o : gOm} {l : Launch} {b : Bool}   {σ : gSt} (hR : σ.2.2 = gRf b)  {Q : Int32 → gSt → Prop} (h : W_X12_readNumber  Q σ) : Sp o l mX12_readNumber 2 0 0 [.ref (ad o 65)] 116 116 σ (pI (fun x s => s.2.2 = gRf b ∧ Q x s)) := by
  unfold W_X12_readNumber at h
  refine Sp.of (ls0 := [some (.ref (ad o 65)), none, none]) miX12_readNumber rfl (Nat.le_of_ble_eq_true rfl) rfl (fun γ hγ hnm X Y => ?_)
  subst hγ
  have X : gX o γ cX12_readNumber 3 RX12 := X
  refine g_aload_0 (pc := 0) X dX12_readNumber_0 ?_
  refine g_getI (pc := 1) X dX12_readNumber_1 rfl (by decide) fl_X12_206 (Or.inl rfl) ?_
  refine g_istore_1 (pc := 4) X dX12_readNumber_4 (by decide) rfl ?_
  refine g_iconst (pc := 5) X dX12_readNumber_5 kiconst_0 ?_
  refine g_istore_2 (pc := 6) X dX12_readNumber_6 (by decide) rfl ?_
  obtain ⟨n15, h⟩ := h
  have hL : ∀ (c1 : Int32) (K : Int32 → gSt → Prop) (_ : ∀ (y4 : Int32) (s5 : gSt), s5.2.2 = gRf b → K y4 s5 → G o γ 0 0 116 s5 77 [some (.ref (ad o 65)), some (.int c1), some (.int y4)] []) (n : Nat) (v2 : Int32) (s3 : gSt), s3.2.2 = gRf b → L_X12_readNumber_7 Q c1 K n v2 s3 → G o γ 0 0 116 s3 7 [some (.ref (ad o 65)), some (.int c1), some (.int v2)] [] := by
    intro c1 K hK n
    induction n with
    | zero => intro v2 s3 hR h; exact False.elim h
    | succ n ih =>
      intro v2 s3 hR h
      rw [L_X12_readNumber_7] at h
      refine g_aload_0 (pc := 7) X dX12_readNumber_7 ?_
      refine g_getI (pc := 8) X dX12_readNumber_8 rfl (by decide) fl_X12_206 (Or.inl rfl) ?_
      refine g_aload_0 (pc := 11) X dX12_readNumber_11 ?_
      refine g_getI (pc := 12) X dX12_readNumber_12 rfl (by decide) fl_X12_209 (Or.inl rfl) ?_
      refine g_icmp_ge (pc := 15) X dX12_readNumber_15 (tgt := 77) (by decide) (fun q6 => ?_) (fun q6 => ?_)
      · replace h := h.1 q6
        exact hK v2 s3 hR h
      · replace h := h.2 q6
        refine g_aload_0 (pc := 18) X dX12_readNumber_18 ?_
        refine g_getRf (pc := 19) X dX12_readNumber_19 fl_X12_38 rfl (by decide) rfl hR rfl ?_
        refine g_aload_0 (pc := 22) X dX12_readNumber_22 ?_
        refine g_getI (pc := 23) X dX12_readNumber_23 rfl (by decide) fl_X12_206 (Or.inl rfl) ?_
        refine g_iaload_w (pc := 26) X dX12_readNumber_26 rfl (by decide) h (fun x7 h => ?_)
        refine g_callS_I (pc := 27) X Y dX12_readNumber_27 miX12_isDigit li_X12_219 (t_X12_isDigit hR  h) rfl ⟨Nat.le_of_ble_eq_true rfl, Nat.le_of_ble_eq_true rfl⟩ (Nat.le_of_ble_eq_true rfl) (Nat.le_of_ble_eq_true rfl) rfl (by exact Nat.le_of_ble_eq_true rfl) (fun x8 σ9 hp => ?_)
        obtain ⟨rfl, h⟩ := hp
        refine g_if_eq (pc := 30) X dX12_readNumber_30 (tgt := 77) (by decide) (fun q9 => ?_) (fun q9 => ?_)
        · replace h := h.1 q9
          exact hK v2 s3 hR h
        · replace h := h.2 q9
          refine g_iload_2 (pc := 33) X dX12_readNumber_33 ?_
          refine g_sipush (pc := 34) X dX12_readNumber_34 ksipush_9999 ?_
          replace h := h (fun x10 => G o γ 0 0 116 s3 63 [some (.ref (ad o 65)), some (.int c1), none] [.int x10]) (by
              intro x10 h
              refine g_istore_2 (pc := 63) X dX12_readNumber_63 (by decide) rfl ?_
              refine g_aload_0 (pc := 64) X dX12_readNumber_64 ?_
              refine g_dup (pc := 65) X dX12_readNumber_65 rfl ?_
              refine g_getI (pc := 66) X dX12_readNumber_66 rfl (by decide) fl_X12_206 (Or.inl rfl) ?_
              refine g_iconst (pc := 69) X dX12_readNumber_69 kiconst_1 ?_
              refine g_iadd (pc := 70) X dX12_readNumber_70 ?_
              refine g_putI_w (pc := 71) X dX12_readNumber_71 fl_X12_206 rfl (by decide) rfl rfl hR h (fun s12 hR h => ?_)
              refine g_goto (pc := 74) X dX12_readNumber_74 (tgt := 7) (by decide) ?_
              exact ih x10 s12 hR h)
          refine g_icmp_le (pc := 37) X dX12_readNumber_37 (tgt := 46) (by decide) (fun q13 => ?_) (fun q13 => ?_)
          · replace h := h.1 q13
            refine g_bipush (pc := 46) X dX12_readNumber_46 kbipush_10 ?_
            refine g_iload_2 (pc := 48) X dX12_readNumber_48 ?_
            refine g_imul (pc := 49) X dX12_readNumber_49 ?_
            refine g_aload_0 (pc := 50) X dX12_readNumber_50 ?_
            refine g_getRf (pc := 51) X dX12_readNumber_51 fl_X12_38 rfl (by decide) rfl hR rfl ?_
            refine g_aload_0 (pc := 54) X dX12_readNumber_54 ?_
            refine g_getI (pc := 55) X dX12_readNumber_55 rfl (by decide) fl_X12_206 (Or.inl rfl) ?_
            refine g_iaload_w (pc := 58) X dX12_readNumber_58 rfl (by decide) h (fun x14 h => ?_)
            refine g_iadd (pc := 59) X dX12_readNumber_59 ?_
            refine g_bipush (pc := 60) X dX12_readNumber_60 kbipush_48 ?_
            refine g_isub (pc := 62) X dX12_readNumber_62 ?_
            exact g_drop (by simp [lsub]) (h)
          · replace h := h.2 q13
            refine g_sipush (pc := 40) X dX12_readNumber_40 ksipush_10000 ?_
            refine g_goto (pc := 43) X dX12_readNumber_43 (tgt := 63) (by decide) ?_
            exact g_drop (by simp [lsub]) (h)
  refine hL (σ.1 65 11) _ (fun y16 s17 hR h => ?_) n15 (nI 0) σ hR h
  · refine g_iload_2 (pc := 77) X dX12_readNumber_77 ?_
    refine g_sipush (pc := 78) X dX12_readNumber_78 ksipush_9999 ?_
    refine g_icmp_le (pc := 81) X dX12_readNumber_81 (tgt := 90) (by decide) (fun q18 => ?_) (fun q18 => ?_)
    · replace h := h.1 q18
      refine g_iload_2 (pc := 90) X dX12_readNumber_90 ?_
      exact g_ireturn (pc := 91) X Y dX12_readNumber_91 (Nat.le_of_ble_eq_true rfl) (Nat.le_of_ble_eq_true rfl) ⟨_, rfl, hR, h⟩
    · replace h := h.2 q18
      refine g_aload_0 (pc := 84) X dX12_readNumber_84 ?_
      refine g_iconst (pc := 85) X dX12_readNumber_85 kiconst_2 ?_
      refine g_iload_1 (pc := 86) X dX12_readNumber_86 ?_
      refine g_callV_V (pc := 87) X Y dX12_readNumber_87 miX12_wrong li_X12_222 (t_X12_wrong hR  h) rfl (by decide) rfl ⟨_, rfl⟩ rfl ⟨Nat.le_of_ble_eq_true rfl, Nat.le_of_ble_eq_true rfl⟩ (Nat.le_of_ble_eq_true rfl) (Nat.le_of_ble_eq_true rfl) rfl (by exact Nat.le_of_ble_eq_true rfl) (fun s19 hp => ?_)
      obtain ⟨hR, h⟩ := hp
      refine g_iload_2 (pc := 90) X dX12_readNumber_90 ?_
      exact g_ireturn (pc := 91) X Y dX12_readNumber_91 (Nat.le_of_ble_eq_true rfl) (Nat.le_of_ble_eq_true rfl) ⟨_, rfl, hR, h⟩
def W_X12_need (p0 : Int32) (Q : gSt → Prop) (σ : gSt) : Prop := W_X12_fine (fun x1 => ∀ J3 : gSt → Prop, (∀ s2, (W_X12_fine (fun x4 => ((x4 = 0 → (Q s2)) ∧ (¬ x4 = 0 → (fI s2 65 11 ((s2.1 65 11) + (nI 1)) (fun s6 => Q s6))))) s2) → J3 s2) → ((x1 = 0 → (J3 σ)) ∧ (¬ x1 = 0 → (W_X12_here (fun x8 s9 => ((x8 = p0 → (J3 s9)) ∧ (¬ x8 = p0 → (W_X12_wrong (nI 1) (s9.1 65 11) (fun s11 => J3 s11) s9)))) σ)))) σ
set_option maxHeartbeats 4000000 in
theorem t_X12_need {o : gOm} {l : Launch} {b : Bool}   {σ : gSt} (hR : σ.2.2 = gRf b) {p0 : Int32} {Q : gSt → Prop} (h : W_X12_need p0 Q σ) : Sp o l mX12_need 2 0 0 [.ref (ad o 65), .int p0] 116 116 σ (pV (fun s => s.2.2 = gRf b ∧ Q s)) := by
  unfold W_X12_need at h
  refine Sp.of (ls0 := [some (.ref (ad o 65)), some (.int p0)]) miX12_need rfl (Nat.le_of_ble_eq_true rfl) rfl (fun γ hγ hnm X Y => ?_)
  subst hγ
  have X : gX o γ cX12_need 2 RX12 := X
  refine g_aload_0 (pc := 0) X dX12_need_0 ?_
  refine g_callV_I (pc := 1) X Y dX12_need_1 miX12_fine li_X12_226 (t_X12_fine hR  h) rfl (by decide) rfl ⟨_, rfl⟩ rfl ⟨Nat.le_of_ble_eq_true rfl, Nat.le_of_ble_eq_true rfl⟩ (Nat.le_of_ble_eq_true rfl) (Nat.le_of_ble_eq_true rfl) rfl (by exact Nat.le_of_ble_eq_true rfl) (fun x1 σ9 hp => ?_)
  obtain ⟨rfl, h⟩ := hp
  replace h := h (fun s2 => s2.2.2 = gRf b → G o γ 0 0 116 s2 24 [some (.ref (ad o 65)), none] []) (by
      intro s2 h hR
      refine g_aload_0 (pc := 24) X dX12_need_24 ?_
      refine g_callV_I (pc := 25) X Y dX12_need_25 miX12_fine li_X12_226 (t_X12_fine hR  h) rfl (by decide) rfl ⟨_, rfl⟩ rfl ⟨Nat.le_of_ble_eq_true rfl, Nat.le_of_ble_eq_true rfl⟩ (Nat.le_of_ble_eq_true rfl) (Nat.le_of_ble_eq_true rfl) rfl (by exact Nat.le_of_ble_eq_true rfl) (fun x4 σ9 hp => ?_)
      obtain ⟨rfl, h⟩ := hp
      refine g_if_eq (pc := 28) X dX12_need_28 (tgt := 41) (by decide) (fun q5 => ?_) (fun q5 => ?_)
      · replace h := h.1 q5
        exact g_return (pc := 41) X Y dX12_need_41 (Nat.le_of_ble_eq_true rfl) (Nat.le_of_ble_eq_true rfl) ⟨rfl, hR, h⟩
      · replace h := h.2 q5
        refine g_aload_0 (pc := 31) X dX12_need_31 ?_
        refine g_dup (pc := 32) X dX12_need_32 rfl ?_
        refine g_getI (pc := 33) X dX12_need_33 rfl (by decide) fl_X12_206 (Or.inl rfl) ?_
        refine g_iconst (pc := 36) X dX12_need_36 kiconst_1 ?_
        refine g_iadd (pc := 37) X dX12_need_37 ?_
        refine g_putI_w (pc := 38) X dX12_need_38 fl_X12_206 rfl (by decide) rfl rfl hR h (fun s6 hR h => ?_)
        exact g_return (pc := 41) X Y dX12_need_41 (Nat.le_of_ble_eq_true rfl) (Nat.le_of_ble_eq_true rfl) ⟨rfl, hR, h⟩)
  refine g_if_eq (pc := 4) X dX12_need_4 (tgt := 24) (by decide) (fun q7 => ?_) (fun q7 => ?_)
  · replace h := h.1 q7
    exact g_drop (by simp [lsub]) (h hR)
  · replace h := h.2 q7
    refine g_aload_0 (pc := 7) X dX12_need_7 ?_
    refine g_callV_I (pc := 8) X Y dX12_need_8 miX12_here li_X12_212 (t_X12_here hR  h) rfl (by decide) rfl ⟨_, rfl⟩ rfl ⟨Nat.le_of_ble_eq_true rfl, Nat.le_of_ble_eq_true rfl⟩ (Nat.le_of_ble_eq_true rfl) (Nat.le_of_ble_eq_true rfl) rfl (by exact Nat.le_of_ble_eq_true rfl) (fun x8 s9 hp => ?_)
    obtain ⟨hR, h⟩ := hp
    refine g_iload_1 (pc := 11) X dX12_need_11 ?_
    refine g_icmp_eq (pc := 12) X dX12_need_12 (tgt := 24) (by decide) (fun q10 => ?_) (fun q10 => ?_)
    · replace h := h.1 q10
      exact g_drop (by simp [lsub]) (h hR)
    · replace h := h.2 q10
      refine g_aload_0 (pc := 15) X dX12_need_15 ?_
      refine g_iconst (pc := 16) X dX12_need_16 kiconst_1 ?_
      refine g_aload_0 (pc := 17) X dX12_need_17 ?_
      refine g_getI (pc := 18) X dX12_need_18 rfl (by decide) fl_X12_206 (Or.inl rfl) ?_
      refine g_callV_V (pc := 21) X Y dX12_need_21 miX12_wrong li_X12_222 (t_X12_wrong hR  h) rfl (by decide) rfl ⟨_, rfl⟩ rfl ⟨Nat.le_of_ble_eq_true rfl, Nat.le_of_ble_eq_true rfl⟩ (Nat.le_of_ble_eq_true rfl) (Nat.le_of_ble_eq_true rfl) rfl (by exact Nat.le_of_ble_eq_true rfl) (fun s11 hp => ?_)
      obtain ⟨hR, h⟩ := hp
      exact g_drop (by simp [lsub]) (h hR)
def W_X12_emit (p0 : Int32) (p1 : Int32) (Q : gSt → Prop) (σ : gSt) : Prop := W_X12_fine (fun x1 => ((x1 = 0 → (Q σ)) ∧ (¬ x1 = 0 → (wI σ 84 400 (σ.1 65 15) p0 (fun s3 => wI s3 85 400 (s3.1 65 15) p1 (fun s4 => fI s4 65 15 ((s4.1 65 15) + (nI 1)) (fun s5 => Q s5))))))) σ
set_option maxHeartbeats 4000000 in
theorem t_X12_emit {o : gOm} {l : Launch} {b : Bool}   {σ : gSt} (hR : σ.2.2 = gRf b) {p0 : Int32} {p1 : Int32} {Q : gSt → Prop} (h : W_X12_emit p0 p1 Q σ) : Sp o l mX12_emit 2 0 0 [.ref (ad o 65), .int p0, .int p1] 116 116 σ (pV (fun s => s.2.2 = gRf b ∧ Q s)) := by
  unfold W_X12_emit at h
  refine Sp.of (ls0 := [some (.ref (ad o 65)), some (.int p0), some (.int p1)]) miX12_emit rfl (Nat.le_of_ble_eq_true rfl) rfl (fun γ hγ hnm X Y => ?_)
  subst hγ
  have X : gX o γ cX12_emit 3 RX12 := X
  refine g_aload_0 (pc := 0) X dX12_emit_0 ?_
  refine g_callV_I (pc := 1) X Y dX12_emit_1 miX12_fine li_X12_226 (t_X12_fine hR  h) rfl (by decide) rfl ⟨_, rfl⟩ rfl ⟨Nat.le_of_ble_eq_true rfl, Nat.le_of_ble_eq_true rfl⟩ (Nat.le_of_ble_eq_true rfl) (Nat.le_of_ble_eq_true rfl) rfl (by exact Nat.le_of_ble_eq_true rfl) (fun x1 σ9 hp => ?_)
  obtain ⟨rfl, h⟩ := hp
  refine g_if_ne (pc := 4) X dX12_emit_4 (tgt := 8) (by decide) (fun q2 => ?_) (fun q2 => ?_)
  · replace h := h.2 q2
    refine g_aload_0 (pc := 8) X dX12_emit_8 ?_
    refine g_getRf (pc := 9) X dX12_emit_9 fl_X12_71 rfl (by decide) rfl hR rfl ?_
    refine g_aload_0 (pc := 12) X dX12_emit_12 ?_
    refine g_getI (pc := 13) X dX12_emit_13 rfl (by decide) fl_X12_230 (Or.inl rfl) ?_
    refine g_iload_1 (pc := 16) X dX12_emit_16 ?_
    refine g_iastore_w (pc := 17) X dX12_emit_17 rfl (by decide) hR h (fun s3 hR h => ?_)
    refine g_aload_0 (pc := 18) X dX12_emit_18 ?_
    refine g_getRf (pc := 19) X dX12_emit_19 fl_X12_74 rfl (by decide) rfl hR rfl ?_
    refine g_aload_0 (pc := 22) X dX12_emit_22 ?_
    refine g_getI (pc := 23) X dX12_emit_23 rfl (by decide) fl_X12_230 (Or.inl rfl) ?_
    refine g_iload_2 (pc := 26) X dX12_emit_26 ?_
    refine g_iastore_w (pc := 27) X dX12_emit_27 rfl (by decide) hR h (fun s4 hR h => ?_)
    refine g_aload_0 (pc := 28) X dX12_emit_28 ?_
    refine g_dup (pc := 29) X dX12_emit_29 rfl ?_
    refine g_getI (pc := 30) X dX12_emit_30 rfl (by decide) fl_X12_230 (Or.inl rfl) ?_
    refine g_iconst (pc := 33) X dX12_emit_33 kiconst_1 ?_
    refine g_iadd (pc := 34) X dX12_emit_34 ?_
    refine g_putI_w (pc := 35) X dX12_emit_35 fl_X12_230 rfl (by decide) rfl rfl hR h (fun s5 hR h => ?_)
    exact g_return (pc := 38) X Y dX12_emit_38 (Nat.le_of_ble_eq_true rfl) (Nat.le_of_ble_eq_true rfl) ⟨rfl, hR, h⟩
  · replace h := h.1 q2
    exact g_return (pc := 7) X Y dX12_emit_7 (Nat.le_of_ble_eq_true rfl) (Nat.le_of_ble_eq_true rfl) ⟨rfl, hR, h⟩
def W_X12_opensAt (p0 : Int32) (p1 : Int32) (Q : gSt → Prop) (σ : gSt) : Prop := W_X12_fine (fun x1 => ((x1 = 0 → (Q σ)) ∧ (¬ x1 = 0 → (∀ J4 : gSt → Prop, (∀ s3, (W_X12_fine (fun x5 => ∀ J7 : gSt → Prop, (∀ s6, (fI s6 65 14 ((s6.1 65 14) + (nI 1)) (fun s8 => Q s8)) → J7 s6) → ((x5 = 0 → (J7 s3)) ∧ (¬ x5 = 0 → (fI s3 65 11 ((s3.1 65 11) + p1) (fun s10 => J7 s10))))) s3) → J4 s3) → ∀ J12 : gSt → Prop, (∀ s11, ((((s11.1 65 14) = (nI 6) → (W_X12_wrong (nI 3) (s11.1 65 11) (fun s14 => J4 s14) s11)) ∧ (¬ (s11.1 65 14) = (nI 6) → (J4 s11)))) → J12 s11) → ((p0 = 0 → (J12 σ)) ∧ (¬ p0 = 0 → (W_X12_here (fun x16 s17 => ((x16 = p0 → (J12 s17)) ∧ (¬ x16 = p0 → (W_X12_wrong (nI 1) (s17.1 65 11) (fun s19 => J4 s19) s17)))) σ))))))) σ
set_option maxHeartbeats 4000000 in
theorem t_X12_opensAt {o : gOm} {l : Launch} {b : Bool}   {σ : gSt} (hR : σ.2.2 = gRf b) {p0 : Int32} {p1 : Int32} {Q : gSt → Prop} (h : W_X12_opensAt p0 p1 Q σ) : Sp o l mX12_opensAt 2 0 0 [.ref (ad o 65), .int p0, .int p1] 116 116 σ (pV (fun s => s.2.2 = gRf b ∧ Q s)) := by
  unfold W_X12_opensAt at h
  refine Sp.of (ls0 := [some (.ref (ad o 65)), some (.int p0), some (.int p1)]) miX12_opensAt rfl (Nat.le_of_ble_eq_true rfl) rfl (fun γ hγ hnm X Y => ?_)
  subst hγ
  have X : gX o γ cX12_opensAt 3 RX12 := X
  refine g_aload_0 (pc := 0) X dX12_opensAt_0 ?_
  refine g_callV_I (pc := 1) X Y dX12_opensAt_1 miX12_fine li_X12_226 (t_X12_fine hR  h) rfl (by decide) rfl ⟨_, rfl⟩ rfl ⟨Nat.le_of_ble_eq_true rfl, Nat.le_of_ble_eq_true rfl⟩ (Nat.le_of_ble_eq_true rfl) (Nat.le_of_ble_eq_true rfl) rfl (by exact Nat.le_of_ble_eq_true rfl) (fun x1 σ9 hp => ?_)
  obtain ⟨rfl, h⟩ := hp
  refine g_if_ne (pc := 4) X dX12_opensAt_4 (tgt := 8) (by decide) (fun q2 => ?_) (fun q2 => ?_)
  · replace h := h.2 q2
    refine g_iload_1 (pc := 8) X dX12_opensAt_8 ?_
    replace h := h (fun s3 => s3.2.2 = gRf b → G o γ 0 0 116 s3 50 [some (.ref (ad o 65)), none, some (.int p1)] []) (by
        intro s3 h hR
        refine g_aload_0 (pc := 50) X dX12_opensAt_50 ?_
        refine g_callV_I (pc := 51) X Y dX12_opensAt_51 miX12_fine li_X12_226 (t_X12_fine hR  h) rfl (by decide) rfl ⟨_, rfl⟩ rfl ⟨Nat.le_of_ble_eq_true rfl, Nat.le_of_ble_eq_true rfl⟩ (Nat.le_of_ble_eq_true rfl) (Nat.le_of_ble_eq_true rfl) rfl (by exact Nat.le_of_ble_eq_true rfl) (fun x5 σ9 hp => ?_)
        obtain ⟨rfl, h⟩ := hp
        replace h := h (fun s6 => s6.2.2 = gRf b → G o γ 0 0 116 s6 67 [some (.ref (ad o 65)), none, none] []) (by
            intro s6 h hR
            refine g_aload_0 (pc := 67) X dX12_opensAt_67 ?_
            refine g_dup (pc := 68) X dX12_opensAt_68 rfl ?_
            refine g_getI (pc := 69) X dX12_opensAt_69 rfl (by decide) fl_X12_233 (Or.inl rfl) ?_
            refine g_iconst (pc := 72) X dX12_opensAt_72 kiconst_1 ?_
            refine g_iadd (pc := 73) X dX12_opensAt_73 ?_
            refine g_putI_w (pc := 74) X dX12_opensAt_74 fl_X12_233 rfl (by decide) rfl rfl hR h (fun s8 hR h => ?_)
            exact g_return (pc := 77) X Y dX12_opensAt_77 (Nat.le_of_ble_eq_true rfl) (Nat.le_of_ble_eq_true rfl) ⟨rfl, hR, h⟩)
        refine g_if_eq (pc := 54) X dX12_opensAt_54 (tgt := 67) (by decide) (fun q9 => ?_) (fun q9 => ?_)
        · replace h := h.1 q9
          exact g_drop (by simp [lsub]) (h hR)
        · replace h := h.2 q9
          refine g_aload_0 (pc := 57) X dX12_opensAt_57 ?_
          refine g_dup (pc := 58) X dX12_opensAt_58 rfl ?_
          refine g_getI (pc := 59) X dX12_opensAt_59 rfl (by decide) fl_X12_206 (Or.inl rfl) ?_
          refine g_iload_2 (pc := 62) X dX12_opensAt_62 ?_
          refine g_iadd (pc := 63) X dX12_opensAt_63 ?_
          refine g_putI_w (pc := 64) X dX12_opensAt_64 fl_X12_206 rfl (by decide) rfl rfl hR h (fun s10 hR h => ?_)
          exact g_drop (by simp [lsub]) (h hR))
    replace h := h (fun s11 => s11.2.2 = gRf b → G o γ 0 0 116 s11 32 [some (.ref (ad o 65)), none, some (.int p1)] []) (by
        intro s11 h hR
        refine g_aload_0 (pc := 32) X dX12_opensAt_32 ?_
        refine g_getI (pc := 33) X dX12_opensAt_33 rfl (by decide) fl_X12_233 (Or.inl rfl) ?_
        refine g_bipush (pc := 36) X dX12_opensAt_36 kbipush_6 ?_
        refine g_icmp_ne (pc := 38) X dX12_opensAt_38 (tgt := 50) (by decide) (fun q13 => ?_) (fun q13 => ?_)
        · replace h := h.2 q13
          exact h hR
        · replace h := h.1 q13
          refine g_aload_0 (pc := 41) X dX12_opensAt_41 ?_
          refine g_iconst (pc := 42) X dX12_opensAt_42 kiconst_3 ?_
          refine g_aload_0 (pc := 43) X dX12_opensAt_43 ?_
          refine g_getI (pc := 44) X dX12_opensAt_44 rfl (by decide) fl_X12_206 (Or.inl rfl) ?_
          refine g_callV_V (pc := 47) X Y dX12_opensAt_47 miX12_wrong li_X12_222 (t_X12_wrong hR  h) rfl (by decide) rfl ⟨_, rfl⟩ rfl ⟨Nat.le_of_ble_eq_true rfl, Nat.le_of_ble_eq_true rfl⟩ (Nat.le_of_ble_eq_true rfl) (Nat.le_of_ble_eq_true rfl) rfl (by exact Nat.le_of_ble_eq_true rfl) (fun s14 hp => ?_)
          obtain ⟨hR, h⟩ := hp
          exact h hR)
    refine g_if_eq (pc := 9) X dX12_opensAt_9 (tgt := 32) (by decide) (fun q15 => ?_) (fun q15 => ?_)
    · replace h := h.1 q15
      exact g_drop (by simp [lsub]) (h hR)
    · replace h := h.2 q15
      refine g_aload_0 (pc := 12) X dX12_opensAt_12 ?_
      refine g_callV_I (pc := 13) X Y dX12_opensAt_13 miX12_here li_X12_212 (t_X12_here hR  h) rfl (by decide) rfl ⟨_, rfl⟩ rfl ⟨Nat.le_of_ble_eq_true rfl, Nat.le_of_ble_eq_true rfl⟩ (Nat.le_of_ble_eq_true rfl) (Nat.le_of_ble_eq_true rfl) rfl (by exact Nat.le_of_ble_eq_true rfl) (fun x16 s17 hp => ?_)
      obtain ⟨hR, h⟩ := hp
      refine g_iload_1 (pc := 16) X dX12_opensAt_16 ?_
      refine g_icmp_eq (pc := 17) X dX12_opensAt_17 (tgt := 32) (by decide) (fun q18 => ?_) (fun q18 => ?_)
      · replace h := h.1 q18
        exact g_drop (by simp [lsub]) (h hR)
      · replace h := h.2 q18
        refine g_aload_0 (pc := 20) X dX12_opensAt_20 ?_
        refine g_iconst (pc := 21) X dX12_opensAt_21 kiconst_1 ?_
        refine g_aload_0 (pc := 22) X dX12_opensAt_22 ?_
        refine g_getI (pc := 23) X dX12_opensAt_23 rfl (by decide) fl_X12_206 (Or.inl rfl) ?_
        refine g_callV_V (pc := 26) X Y dX12_opensAt_26 miX12_wrong li_X12_222 (t_X12_wrong hR  h) rfl (by decide) rfl ⟨_, rfl⟩ rfl ⟨Nat.le_of_ble_eq_true rfl, Nat.le_of_ble_eq_true rfl⟩ (Nat.le_of_ble_eq_true rfl) (Nat.le_of_ble_eq_true rfl) rfl (by exact Nat.le_of_ble_eq_true rfl) (fun s19 hp => ?_)
        obtain ⟨hR, h⟩ := hp
        refine g_goto (pc := 29) X dX12_opensAt_29 (tgt := 50) (by decide) ?_
        exact g_drop (by simp [lsub]) (h hR)
  · replace h := h.1 q2
    exact g_return (pc := 7) X Y dX12_opensAt_7 (Nat.le_of_ble_eq_true rfl) (Nat.le_of_ble_eq_true rfl) ⟨rfl, hR, h⟩
def W_X12_closesAt (p0 : Int32) (Q : gSt → Prop) (σ : gSt) : Prop := W_X12_need p0 (fun s1 => fI s1 65 14 ((s1.1 65 14) - (nI 1)) (fun s2 => Q s2)) σ
set_option maxHeartbeats 4000000 in
theorem t_X12_closesAt {o : gOm} {l : Launch} {b : Bool}   {σ : gSt} (hR : σ.2.2 = gRf b) {p0 : Int32} {Q : gSt → Prop} (h : W_X12_closesAt p0 Q σ) : Sp o l mX12_closesAt 3 0 0 [.ref (ad o 65), .int p0] 116 116 σ (pV (fun s => s.2.2 = gRf b ∧ Q s)) := by
  unfold W_X12_closesAt at h
  refine Sp.of (ls0 := [some (.ref (ad o 65)), some (.int p0)]) miX12_closesAt rfl (Nat.le_of_ble_eq_true rfl) rfl (fun γ hγ hnm X Y => ?_)
  subst hγ
  have X : gX o γ cX12_closesAt 2 RX12 := X
  refine g_aload_0 (pc := 0) X dX12_closesAt_0 ?_
  refine g_iload_1 (pc := 1) X dX12_closesAt_1 ?_
  refine g_callV_V (pc := 2) X Y dX12_closesAt_2 miX12_need li_X12_236 (t_X12_need hR  h) rfl (by decide) rfl ⟨_, rfl⟩ rfl ⟨Nat.le_of_ble_eq_true rfl, Nat.le_of_ble_eq_true rfl⟩ (Nat.le_of_ble_eq_true rfl) (Nat.le_of_ble_eq_true rfl) rfl (by exact Nat.le_of_ble_eq_true rfl) (fun s1 hp => ?_)
  obtain ⟨hR, h⟩ := hp
  refine g_aload_0 (pc := 5) X dX12_closesAt_5 ?_
  refine g_dup (pc := 6) X dX12_closesAt_6 rfl ?_
  refine g_getI (pc := 7) X dX12_closesAt_7 rfl (by decide) fl_X12_233 (Or.inl rfl) ?_
  refine g_iconst (pc := 10) X dX12_closesAt_10 kiconst_1 ?_
  refine g_isub (pc := 11) X dX12_closesAt_11 ?_
  refine g_putI_w (pc := 12) X dX12_closesAt_12 fl_X12_233 rfl (by decide) rfl rfl hR h (fun s2 hR h => ?_)
  exact g_return (pc := 15) X Y dX12_closesAt_15 (Nat.le_of_ble_eq_true rfl) (Nat.le_of_ble_eq_true rfl) ⟨rfl, hR, h⟩
def W_X12_name (p0 : Int64) (Q : Int32 → Prop) (σ : gSt) : Prop := ((p0 = ((402789 : Int64)) → (Q (nI 1))) ∧ (¬ p0 = ((402789 : Int64)) → (((p0 = ((26379859 : Int64)) → (Q (nI 2))) ∧ (¬ p0 = ((26379859 : Int64)) → (((p0 = ((21562501 : Int64)) → (Q (nI 3))) ∧ (¬ p0 = ((21562501 : Int64)) → (((p0 = ((81387 : Int64)) → (Q (nI 4))) ∧ (¬ p0 = ((81387 : Int64)) → (((p0 = ((203038898 : Int64)) → (Q (nI 5))) ∧ (¬ p0 = ((203038898 : Int64)) → (((p0 = ((16392370 : Int64)) → (Q (nI 6))) ∧ (¬ p0 = ((16392370 : Int64)) → (Q ((-1 : Int32))))))))))))))))))))
set_option maxHeartbeats 4000000 in
theorem t_X12_name {o : gOm} {l : Launch} {b : Bool}   {σ : gSt} (hR : σ.2.2 = gRf b) {p0 : Int64} {Q : Int32 → Prop} (h : W_X12_name p0 Q σ) : Sp o l mX12_name 1 0 0 [.long p0] 116 116 σ (pI (fun x s => σ = s ∧ Q x)) := by
  unfold W_X12_name at h
  refine Sp.of (ls0 := [some (.long p0), none]) miX12_name rfl (Nat.le_of_ble_eq_true rfl) rfl (fun γ hγ hnm X Y => ?_)
  subst hγ
  have X : gX o γ cX12_name 2 RX12 := X
  refine g_lload_0 (pc := 0) X dX12_name_0 ?_
  refine g_ldc2 (pc := 1) X dX12_name_1 ct_X12_239 ?_
  refine g_lcmp_ne (pc := 4) X dX12_name_4 dX12_name_5 (tgt := 12) (by decide) (fun q1 => ?_) (fun q1 => ?_)
  · replace h := h.2 q1
    refine g_lload_0 (pc := 12) X dX12_name_12 ?_
    refine g_ldc2 (pc := 13) X dX12_name_13 ct_X12_241 ?_
    refine g_lcmp_ne (pc := 16) X dX12_name_16 dX12_name_17 (tgt := 24) (by decide) (fun q2 => ?_) (fun q2 => ?_)
    · replace h := h.2 q2
      refine g_lload_0 (pc := 24) X dX12_name_24 ?_
      refine g_ldc2 (pc := 25) X dX12_name_25 ct_X12_243 ?_
      refine g_lcmp_ne (pc := 28) X dX12_name_28 dX12_name_29 (tgt := 36) (by decide) (fun q3 => ?_) (fun q3 => ?_)
      · replace h := h.2 q3
        refine g_lload_0 (pc := 36) X dX12_name_36 ?_
        refine g_ldc2 (pc := 37) X dX12_name_37 ct_X12_245 ?_
        refine g_lcmp_ne (pc := 40) X dX12_name_40 dX12_name_41 (tgt := 48) (by decide) (fun q4 => ?_) (fun q4 => ?_)
        · replace h := h.2 q4
          refine g_lload_0 (pc := 48) X dX12_name_48 ?_
          refine g_ldc2 (pc := 49) X dX12_name_49 ct_X12_247 ?_
          refine g_lcmp_ne (pc := 52) X dX12_name_52 dX12_name_53 (tgt := 60) (by decide) (fun q5 => ?_) (fun q5 => ?_)
          · replace h := h.2 q5
            refine g_lload_0 (pc := 60) X dX12_name_60 ?_
            refine g_ldc2 (pc := 61) X dX12_name_61 ct_X12_249 ?_
            refine g_lcmp_ne (pc := 64) X dX12_name_64 dX12_name_65 (tgt := 73) (by decide) (fun q6 => ?_) (fun q6 => ?_)
            · replace h := h.2 q6
              refine g_iconst (pc := 73) X dX12_name_73 kiconst_m1 ?_
              exact g_ireturn (pc := 74) X Y dX12_name_74 (Nat.le_of_ble_eq_true rfl) (Nat.le_of_ble_eq_true rfl) ⟨_, rfl, rfl, h⟩
            · replace h := h.1 q6
              refine g_bipush (pc := 68) X dX12_name_68 kbipush_6 ?_
              refine g_goto (pc := 70) X dX12_name_70 (tgt := 74) (by decide) ?_
              exact g_ireturn (pc := 74) X Y dX12_name_74 (Nat.le_of_ble_eq_true rfl) (Nat.le_of_ble_eq_true rfl) ⟨_, rfl, rfl, h⟩
          · replace h := h.1 q5
            refine g_iconst (pc := 56) X dX12_name_56 kiconst_5 ?_
            refine g_goto (pc := 57) X dX12_name_57 (tgt := 74) (by decide) ?_
            exact g_ireturn (pc := 74) X Y dX12_name_74 (Nat.le_of_ble_eq_true rfl) (Nat.le_of_ble_eq_true rfl) ⟨_, rfl, rfl, h⟩
        · replace h := h.1 q4
          refine g_iconst (pc := 44) X dX12_name_44 kiconst_4 ?_
          refine g_goto (pc := 45) X dX12_name_45 (tgt := 74) (by decide) ?_
          exact g_ireturn (pc := 74) X Y dX12_name_74 (Nat.le_of_ble_eq_true rfl) (Nat.le_of_ble_eq_true rfl) ⟨_, rfl, rfl, h⟩
      · replace h := h.1 q3
        refine g_iconst (pc := 32) X dX12_name_32 kiconst_3 ?_
        refine g_goto (pc := 33) X dX12_name_33 (tgt := 74) (by decide) ?_
        exact g_ireturn (pc := 74) X Y dX12_name_74 (Nat.le_of_ble_eq_true rfl) (Nat.le_of_ble_eq_true rfl) ⟨_, rfl, rfl, h⟩
    · replace h := h.1 q2
      refine g_iconst (pc := 20) X dX12_name_20 kiconst_2 ?_
      refine g_goto (pc := 21) X dX12_name_21 (tgt := 74) (by decide) ?_
      exact g_ireturn (pc := 74) X Y dX12_name_74 (Nat.le_of_ble_eq_true rfl) (Nat.le_of_ble_eq_true rfl) ⟨_, rfl, rfl, h⟩
  · replace h := h.1 q1
    refine g_iconst (pc := 8) X dX12_name_8 kiconst_1 ?_
    refine g_goto (pc := 9) X dX12_name_9 (tgt := 74) (by decide) ?_
    exact g_ireturn (pc := 74) X Y dX12_name_74 (Nat.le_of_ble_eq_true rfl) (Nat.le_of_ble_eq_true rfl) ⟨_, rfl, rfl, h⟩
def L_X12_product_4 (R_X12_product : (gSt → Prop) → gSt → Prop) (R_X12_sum : (gSt → Prop) → gSt → Prop) (R_X12_unit : (gSt → Prop) → gSt → Prop) (Q : gSt → Prop)  (K : gSt → Prop) : Nat → gSt → Prop
  | 0, _ => False
  | n4 + 1, s2 => W_X12_fine (fun x4 => ((x4 = 0 → (K s2)) ∧ (¬ x4 = 0 → (W_X12_here (fun x6 s7 => ∀ J9 : gSt → Prop, (∀ s8, (W_X12_here (fun x10 s11 => fI s11 65 11 ((s11.1 65 11) + (nI 1)) (fun s12 => R_X12_unit (fun s13 => ∀ J15 : Int32 → Prop, (∀ x14, (W_X12_emit x14 (nI 0) (fun s16 => L_X12_product_4 R_X12_product R_X12_sum R_X12_unit Q K n4 s16) s13) → J15 x14) → ((x10 = (nI 42) → (J15 (nI 9))) ∧ (¬ x10 = (nI 42) → (J15 (nI 10))))) s12)) s8) → J9 s8) → ((x6 = (nI 42) → (J9 s7)) ∧ (¬ x6 = (nI 42) → (W_X12_here (fun x19 s20 => ((x19 = (nI 47) → (J9 s20)) ∧ (¬ x19 = (nI 47) → (K s20)))) s7)))) s2)))) s2
def S_X12_product (R_X12_product : (gSt → Prop) → gSt → Prop) (R_X12_sum : (gSt → Prop) → gSt → Prop) (R_X12_unit : (gSt → Prop) → gSt → Prop)  (Q : gSt → Prop) (σ : gSt) : Prop := R_X12_unit (fun s1 => ∃ m4, L_X12_product_4 R_X12_product R_X12_sum R_X12_unit Q (fun s23 => Q s23) m4 s1) σ
set_option maxHeartbeats 4000000 in
theorem ts_X12_product {o : gOm} {l : Launch} {d1 : Nat} {b : Bool} {R_X12_product : (gSt → Prop) → gSt → Prop} {R_X12_sum : (gSt → Prop) → gSt → Prop} {R_X12_unit : (gSt → Prop) → gSt → Prop} (hR_X12_product : ∀ {σ : gSt} (_ : σ.2.2 = gRf b)  {Q : gSt → Prop} (_ : R_X12_product  Q σ), Sp o l mX12_product d1 0 0 [.ref (ad o 65)] 116 116 σ (pV (fun s => s.2.2 = gRf b ∧ Q s))) (hR_X12_sum : ∀ {σ : gSt} (_ : σ.2.2 = gRf b)  {Q : gSt → Prop} (_ : R_X12_sum  Q σ), Sp o l mX12_sum d1 0 0 [.ref (ad o 65)] 116 116 σ (pV (fun s => s.2.2 = gRf b ∧ Q s))) (hR_X12_unit : ∀ {σ : gSt} (_ : σ.2.2 = gRf b)  {Q : gSt → Prop} (_ : R_X12_unit  Q σ), Sp o l mX12_unit d1 0 0 [.ref (ad o 65)] 116 116 σ (pV (fun s => s.2.2 = gRf b ∧ Q s))) (hd1 : 2 ≤ d1) {σ : gSt} (hR : σ.2.2 = gRf b)  {Q : gSt → Prop} (h : S_X12_product R_X12_product R_X12_sum R_X12_unit  Q σ) : Sp o l mX12_product (d1 + 1) 0 0 [.ref (ad o 65)] 116 116 σ (pV (fun s => s.2.2 = gRf b ∧ Q s)) := by
  unfold S_X12_product at h
  refine Sp.of (ls0 := [some (.ref (ad o 65)), none]) miX12_product rfl (Nat.le_of_ble_eq_true rfl) rfl (fun γ hγ hnm X Y => ?_)
  subst hγ
  have X : gX o γ cX12_product 2 RX12 := X
  refine g_aload_0 (pc := 0) X dX12_product_0 ?_
  refine g_callV_V (pc := 1) X Y dX12_product_1 miX12_unit li_X12_280 (hR_X12_unit hR  h) rfl (by decide) rfl ⟨_, rfl⟩ rfl ⟨by omega, by show 8 + (4 + 11) + 40 * d1 ≤ 40 * (d1 + 1); omega⟩ (Nat.le_of_ble_eq_true rfl) (Nat.le_of_ble_eq_true rfl) rfl (by exact Nat.le_of_ble_eq_true rfl) (fun s1 hp => ?_)
  obtain ⟨hR, h⟩ := hp
  obtain ⟨n22, h⟩ := h
  have hL : ∀  (K : gSt → Prop) (_ : ∀  (s3 : gSt), s3.2.2 = gRf b → K s3 → G o γ 0 0 116 s3 69 [some (.ref (ad o 65)), none] []) (n : Nat)  (s2 : gSt), s2.2.2 = gRf b → L_X12_product_4 R_X12_product R_X12_sum R_X12_unit Q K n s2 → G o γ 0 0 116 s2 4 [some (.ref (ad o 65)), none] [] := by
    intro K hK n
    induction n with
    | zero => intro s2 hR h; exact False.elim h
    | succ n ih =>
      intro s2 hR h
      rw [L_X12_product_4] at h
      refine g_aload_0 (pc := 4) X dX12_product_4 ?_
      refine g_callV_I (pc := 5) X Y dX12_product_5 miX12_fine li_X12_226 (t_X12_fine hR  h) rfl (by decide) rfl ⟨_, rfl⟩ rfl ⟨by omega, by show 8 + (1 + 11) + 40 * 1 ≤ 40 * (d1 + 1); omega⟩ (Nat.le_of_ble_eq_true rfl) (Nat.le_of_ble_eq_true rfl) rfl (by exact Nat.le_of_ble_eq_true rfl) (fun x4 σ9 hp => ?_)
      obtain ⟨rfl, h⟩ := hp
      refine g_if_eq (pc := 8) X dX12_product_8 (tgt := 69) (by decide) (fun q5 => ?_) (fun q5 => ?_)
      · replace h := h.1 q5
        exact hK s2 hR h
      · replace h := h.2 q5
        refine g_aload_0 (pc := 11) X dX12_product_11 ?_
        refine g_callV_I (pc := 12) X Y dX12_product_12 miX12_here li_X12_212 (t_X12_here hR  h) rfl (by decide) rfl ⟨_, rfl⟩ rfl ⟨by omega, by show 8 + (1 + 11) + 40 * 1 ≤ 40 * (d1 + 1); omega⟩ (Nat.le_of_ble_eq_true rfl) (Nat.le_of_ble_eq_true rfl) rfl (by exact Nat.le_of_ble_eq_true rfl) (fun x6 s7 hp => ?_)
        obtain ⟨hR, h⟩ := hp
        refine g_bipush (pc := 15) X dX12_product_15 kbipush_42 ?_
        replace h := h (fun s8 => s8.2.2 = gRf b → G o γ 0 0 116 s8 29 [some (.ref (ad o 65)), none] []) (by
            intro s8 h hR
            refine g_aload_0 (pc := 29) X dX12_product_29 ?_
            refine g_callV_I (pc := 30) X Y dX12_product_30 miX12_here li_X12_212 (t_X12_here hR  h) rfl (by decide) rfl ⟨_, rfl⟩ rfl ⟨by omega, by show 8 + (1 + 11) + 40 * 1 ≤ 40 * (d1 + 1); omega⟩ (Nat.le_of_ble_eq_true rfl) (Nat.le_of_ble_eq_true rfl) rfl (by exact Nat.le_of_ble_eq_true rfl) (fun x10 s11 hp => ?_)
            obtain ⟨hR, h⟩ := hp
            refine g_istore_1 (pc := 33) X dX12_product_33 (by decide) rfl ?_
            refine g_aload_0 (pc := 34) X dX12_product_34 ?_
            refine g_dup (pc := 35) X dX12_product_35 rfl ?_
            refine g_getI (pc := 36) X dX12_product_36 rfl (by decide) fl_X12_206 (Or.inl rfl) ?_
            refine g_iconst (pc := 39) X dX12_product_39 kiconst_1 ?_
            refine g_iadd (pc := 40) X dX12_product_40 ?_
            refine g_putI_w (pc := 41) X dX12_product_41 fl_X12_206 rfl (by decide) rfl rfl hR h (fun s12 hR h => ?_)
            refine g_aload_0 (pc := 44) X dX12_product_44 ?_
            refine g_callV_V (pc := 45) X Y dX12_product_45 miX12_unit li_X12_280 (hR_X12_unit hR  h) rfl (by decide) rfl ⟨_, rfl⟩ rfl ⟨by omega, by show 8 + (4 + 11) + 40 * d1 ≤ 40 * (d1 + 1); omega⟩ (Nat.le_of_ble_eq_true rfl) (Nat.le_of_ble_eq_true rfl) rfl (by exact Nat.le_of_ble_eq_true rfl) (fun s13 hp => ?_)
            obtain ⟨hR, h⟩ := hp
            refine g_aload_0 (pc := 48) X dX12_product_48 ?_
            refine g_iload_1 (pc := 49) X dX12_product_49 ?_
            refine g_bipush (pc := 50) X dX12_product_50 kbipush_42 ?_
            replace h := h (fun x14 => G o γ 0 0 116 s13 62 [some (.ref (ad o 65)), none] [.int x14, .ref (ad o 65)]) (by
                intro x14 h
                refine g_iconst (pc := 62) X dX12_product_62 kiconst_0 ?_
                refine g_callV_V (pc := 63) X Y dX12_product_63 miX12_emit li_X12_254 (t_X12_emit hR  h) rfl (by decide) rfl ⟨_, rfl⟩ rfl ⟨by omega, by show 8 + (3 + 11) + 40 * 2 ≤ 40 * (d1 + 1); omega⟩ (Nat.le_of_ble_eq_true rfl) (Nat.le_of_ble_eq_true rfl) rfl (by exact Nat.le_of_ble_eq_true rfl) (fun s16 hp => ?_)
                obtain ⟨hR, h⟩ := hp
                refine g_goto (pc := 66) X dX12_product_66 (tgt := 4) (by decide) ?_
                exact ih  s16 hR h)
            refine g_icmp_ne (pc := 52) X dX12_product_52 (tgt := 60) (by decide) (fun q17 => ?_) (fun q17 => ?_)
            · replace h := h.2 q17
              refine g_bipush (pc := 60) X dX12_product_60 kbipush_10 ?_
              exact g_drop (by simp [lsub]) (h)
            · replace h := h.1 q17
              refine g_bipush (pc := 55) X dX12_product_55 kbipush_9 ?_
              refine g_goto (pc := 57) X dX12_product_57 (tgt := 62) (by decide) ?_
              exact g_drop (by simp [lsub]) (h))
        refine g_icmp_eq (pc := 17) X dX12_product_17 (tgt := 29) (by decide) (fun q18 => ?_) (fun q18 => ?_)
        · replace h := h.1 q18
          exact h hR
        · replace h := h.2 q18
          refine g_aload_0 (pc := 20) X dX12_product_20 ?_
          refine g_callV_I (pc := 21) X Y dX12_product_21 miX12_here li_X12_212 (t_X12_here hR  h) rfl (by decide) rfl ⟨_, rfl⟩ rfl ⟨by omega, by show 8 + (1 + 11) + 40 * 1 ≤ 40 * (d1 + 1); omega⟩ (Nat.le_of_ble_eq_true rfl) (Nat.le_of_ble_eq_true rfl) rfl (by exact Nat.le_of_ble_eq_true rfl) (fun x19 s20 hp => ?_)
          obtain ⟨hR, h⟩ := hp
          refine g_bipush (pc := 24) X dX12_product_24 kbipush_47 ?_
          refine g_icmp_ne (pc := 26) X dX12_product_26 (tgt := 69) (by decide) (fun q21 => ?_) (fun q21 => ?_)
          · replace h := h.2 q21
            exact hK s20 hR h
          · replace h := h.1 q21
            exact h hR
  refine hL  _ (fun s23 hR h => ?_) n22  s1 hR h
  · exact g_return (pc := 69) X Y dX12_product_69 (Nat.le_of_ble_eq_true rfl) (Nat.le_of_ble_eq_true rfl) ⟨rfl, hR, h⟩
def L_X12_sum_4 (R_X12_product : (gSt → Prop) → gSt → Prop) (R_X12_sum : (gSt → Prop) → gSt → Prop) (R_X12_unit : (gSt → Prop) → gSt → Prop) (Q : gSt → Prop)  (K : gSt → Prop) : Nat → gSt → Prop
  | 0, _ => False
  | n4 + 1, s2 => W_X12_fine (fun x4 => ((x4 = 0 → (K s2)) ∧ (¬ x4 = 0 → (W_X12_here (fun x6 s7 => ∀ J9 : gSt → Prop, (∀ s8, (W_X12_here (fun x10 s11 => fI s11 65 11 ((s11.1 65 11) + (nI 1)) (fun s12 => R_X12_product (fun s13 => ∀ J15 : Int32 → Prop, (∀ x14, (W_X12_emit x14 (nI 0) (fun s16 => L_X12_sum_4 R_X12_product R_X12_sum R_X12_unit Q K n4 s16) s13) → J15 x14) → ((x10 = (nI 43) → (J15 (nI 7))) ∧ (¬ x10 = (nI 43) → (J15 (nI 8))))) s12)) s8) → J9 s8) → ((x6 = (nI 43) → (J9 s7)) ∧ (¬ x6 = (nI 43) → (W_X12_here (fun x19 s20 => ((x19 = (nI 45) → (J9 s20)) ∧ (¬ x19 = (nI 45) → (K s20)))) s7)))) s2)))) s2
def S_X12_sum (R_X12_product : (gSt → Prop) → gSt → Prop) (R_X12_sum : (gSt → Prop) → gSt → Prop) (R_X12_unit : (gSt → Prop) → gSt → Prop)  (Q : gSt → Prop) (σ : gSt) : Prop := R_X12_product (fun s1 => ∃ m4, L_X12_sum_4 R_X12_product R_X12_sum R_X12_unit Q (fun s23 => Q s23) m4 s1) σ
set_option maxHeartbeats 4000000 in
theorem ts_X12_sum {o : gOm} {l : Launch} {d1 : Nat} {b : Bool} {R_X12_product : (gSt → Prop) → gSt → Prop} {R_X12_sum : (gSt → Prop) → gSt → Prop} {R_X12_unit : (gSt → Prop) → gSt → Prop} (hR_X12_product : ∀ {σ : gSt} (_ : σ.2.2 = gRf b)  {Q : gSt → Prop} (_ : R_X12_product  Q σ), Sp o l mX12_product d1 0 0 [.ref (ad o 65)] 116 116 σ (pV (fun s => s.2.2 = gRf b ∧ Q s))) (hR_X12_sum : ∀ {σ : gSt} (_ : σ.2.2 = gRf b)  {Q : gSt → Prop} (_ : R_X12_sum  Q σ), Sp o l mX12_sum d1 0 0 [.ref (ad o 65)] 116 116 σ (pV (fun s => s.2.2 = gRf b ∧ Q s))) (hR_X12_unit : ∀ {σ : gSt} (_ : σ.2.2 = gRf b)  {Q : gSt → Prop} (_ : R_X12_unit  Q σ), Sp o l mX12_unit d1 0 0 [.ref (ad o 65)] 116 116 σ (pV (fun s => s.2.2 = gRf b ∧ Q s))) (hd1 : 2 ≤ d1) {σ : gSt} (hR : σ.2.2 = gRf b)  {Q : gSt → Prop} (h : S_X12_sum R_X12_product R_X12_sum R_X12_unit  Q σ) : Sp o l mX12_sum (d1 + 1) 0 0 [.ref (ad o 65)] 116 116 σ (pV (fun s => s.2.2 = gRf b ∧ Q s)) := by
  unfold S_X12_sum at h
  refine Sp.of (ls0 := [some (.ref (ad o 65)), none]) miX12_sum rfl (Nat.le_of_ble_eq_true rfl) rfl (fun γ hγ hnm X Y => ?_)
  subst hγ
  have X : gX o γ cX12_sum 2 RX12 := X
  refine g_aload_0 (pc := 0) X dX12_sum_0 ?_
  refine g_callV_V (pc := 1) X Y dX12_sum_1 miX12_product li_X12_283 (hR_X12_product hR  h) rfl (by decide) rfl ⟨_, rfl⟩ rfl ⟨by omega, by show 8 + (2 + 11) + 40 * d1 ≤ 40 * (d1 + 1); omega⟩ (Nat.le_of_ble_eq_true rfl) (Nat.le_of_ble_eq_true rfl) rfl (by exact Nat.le_of_ble_eq_true rfl) (fun s1 hp => ?_)
  obtain ⟨hR, h⟩ := hp
  obtain ⟨n22, h⟩ := h
  have hL : ∀  (K : gSt → Prop) (_ : ∀  (s3 : gSt), s3.2.2 = gRf b → K s3 → G o γ 0 0 116 s3 69 [some (.ref (ad o 65)), none] []) (n : Nat)  (s2 : gSt), s2.2.2 = gRf b → L_X12_sum_4 R_X12_product R_X12_sum R_X12_unit Q K n s2 → G o γ 0 0 116 s2 4 [some (.ref (ad o 65)), none] [] := by
    intro K hK n
    induction n with
    | zero => intro s2 hR h; exact False.elim h
    | succ n ih =>
      intro s2 hR h
      rw [L_X12_sum_4] at h
      refine g_aload_0 (pc := 4) X dX12_sum_4 ?_
      refine g_callV_I (pc := 5) X Y dX12_sum_5 miX12_fine li_X12_226 (t_X12_fine hR  h) rfl (by decide) rfl ⟨_, rfl⟩ rfl ⟨by omega, by show 8 + (1 + 11) + 40 * 1 ≤ 40 * (d1 + 1); omega⟩ (Nat.le_of_ble_eq_true rfl) (Nat.le_of_ble_eq_true rfl) rfl (by exact Nat.le_of_ble_eq_true rfl) (fun x4 σ9 hp => ?_)
      obtain ⟨rfl, h⟩ := hp
      refine g_if_eq (pc := 8) X dX12_sum_8 (tgt := 69) (by decide) (fun q5 => ?_) (fun q5 => ?_)
      · replace h := h.1 q5
        exact hK s2 hR h
      · replace h := h.2 q5
        refine g_aload_0 (pc := 11) X dX12_sum_11 ?_
        refine g_callV_I (pc := 12) X Y dX12_sum_12 miX12_here li_X12_212 (t_X12_here hR  h) rfl (by decide) rfl ⟨_, rfl⟩ rfl ⟨by omega, by show 8 + (1 + 11) + 40 * 1 ≤ 40 * (d1 + 1); omega⟩ (Nat.le_of_ble_eq_true rfl) (Nat.le_of_ble_eq_true rfl) rfl (by exact Nat.le_of_ble_eq_true rfl) (fun x6 s7 hp => ?_)
        obtain ⟨hR, h⟩ := hp
        refine g_bipush (pc := 15) X dX12_sum_15 kbipush_43 ?_
        replace h := h (fun s8 => s8.2.2 = gRf b → G o γ 0 0 116 s8 29 [some (.ref (ad o 65)), none] []) (by
            intro s8 h hR
            refine g_aload_0 (pc := 29) X dX12_sum_29 ?_
            refine g_callV_I (pc := 30) X Y dX12_sum_30 miX12_here li_X12_212 (t_X12_here hR  h) rfl (by decide) rfl ⟨_, rfl⟩ rfl ⟨by omega, by show 8 + (1 + 11) + 40 * 1 ≤ 40 * (d1 + 1); omega⟩ (Nat.le_of_ble_eq_true rfl) (Nat.le_of_ble_eq_true rfl) rfl (by exact Nat.le_of_ble_eq_true rfl) (fun x10 s11 hp => ?_)
            obtain ⟨hR, h⟩ := hp
            refine g_istore_1 (pc := 33) X dX12_sum_33 (by decide) rfl ?_
            refine g_aload_0 (pc := 34) X dX12_sum_34 ?_
            refine g_dup (pc := 35) X dX12_sum_35 rfl ?_
            refine g_getI (pc := 36) X dX12_sum_36 rfl (by decide) fl_X12_206 (Or.inl rfl) ?_
            refine g_iconst (pc := 39) X dX12_sum_39 kiconst_1 ?_
            refine g_iadd (pc := 40) X dX12_sum_40 ?_
            refine g_putI_w (pc := 41) X dX12_sum_41 fl_X12_206 rfl (by decide) rfl rfl hR h (fun s12 hR h => ?_)
            refine g_aload_0 (pc := 44) X dX12_sum_44 ?_
            refine g_callV_V (pc := 45) X Y dX12_sum_45 miX12_product li_X12_283 (hR_X12_product hR  h) rfl (by decide) rfl ⟨_, rfl⟩ rfl ⟨by omega, by show 8 + (2 + 11) + 40 * d1 ≤ 40 * (d1 + 1); omega⟩ (Nat.le_of_ble_eq_true rfl) (Nat.le_of_ble_eq_true rfl) rfl (by exact Nat.le_of_ble_eq_true rfl) (fun s13 hp => ?_)
            obtain ⟨hR, h⟩ := hp
            refine g_aload_0 (pc := 48) X dX12_sum_48 ?_
            refine g_iload_1 (pc := 49) X dX12_sum_49 ?_
            refine g_bipush (pc := 50) X dX12_sum_50 kbipush_43 ?_
            replace h := h (fun x14 => G o γ 0 0 116 s13 62 [some (.ref (ad o 65)), none] [.int x14, .ref (ad o 65)]) (by
                intro x14 h
                refine g_iconst (pc := 62) X dX12_sum_62 kiconst_0 ?_
                refine g_callV_V (pc := 63) X Y dX12_sum_63 miX12_emit li_X12_254 (t_X12_emit hR  h) rfl (by decide) rfl ⟨_, rfl⟩ rfl ⟨by omega, by show 8 + (3 + 11) + 40 * 2 ≤ 40 * (d1 + 1); omega⟩ (Nat.le_of_ble_eq_true rfl) (Nat.le_of_ble_eq_true rfl) rfl (by exact Nat.le_of_ble_eq_true rfl) (fun s16 hp => ?_)
                obtain ⟨hR, h⟩ := hp
                refine g_goto (pc := 66) X dX12_sum_66 (tgt := 4) (by decide) ?_
                exact ih  s16 hR h)
            refine g_icmp_ne (pc := 52) X dX12_sum_52 (tgt := 60) (by decide) (fun q17 => ?_) (fun q17 => ?_)
            · replace h := h.2 q17
              refine g_bipush (pc := 60) X dX12_sum_60 kbipush_8 ?_
              exact g_drop (by simp [lsub]) (h)
            · replace h := h.1 q17
              refine g_bipush (pc := 55) X dX12_sum_55 kbipush_7 ?_
              refine g_goto (pc := 57) X dX12_sum_57 (tgt := 62) (by decide) ?_
              exact g_drop (by simp [lsub]) (h))
        refine g_icmp_eq (pc := 17) X dX12_sum_17 (tgt := 29) (by decide) (fun q18 => ?_) (fun q18 => ?_)
        · replace h := h.1 q18
          exact h hR
        · replace h := h.2 q18
          refine g_aload_0 (pc := 20) X dX12_sum_20 ?_
          refine g_callV_I (pc := 21) X Y dX12_sum_21 miX12_here li_X12_212 (t_X12_here hR  h) rfl (by decide) rfl ⟨_, rfl⟩ rfl ⟨by omega, by show 8 + (1 + 11) + 40 * 1 ≤ 40 * (d1 + 1); omega⟩ (Nat.le_of_ble_eq_true rfl) (Nat.le_of_ble_eq_true rfl) rfl (by exact Nat.le_of_ble_eq_true rfl) (fun x19 s20 hp => ?_)
          obtain ⟨hR, h⟩ := hp
          refine g_bipush (pc := 24) X dX12_sum_24 kbipush_45 ?_
          refine g_icmp_ne (pc := 26) X dX12_sum_26 (tgt := 69) (by decide) (fun q21 => ?_) (fun q21 => ?_)
          · replace h := h.2 q21
            exact hK s20 hR h
          · replace h := h.1 q21
            exact h hR
  refine hL  _ (fun s23 hR h => ?_) n22  s1 hR h
  · exact g_return (pc := 69) X Y dX12_sum_69 (Nat.le_of_ble_eq_true rfl) (Nat.le_of_ble_eq_true rfl) ⟨rfl, hR, h⟩
def S_X12_unit (R_X12_product : (gSt → Prop) → gSt → Prop) (R_X12_sum : (gSt → Prop) → gSt → Prop) (R_X12_unit : (gSt → Prop) → gSt → Prop)  (Q : gSt → Prop) (σ : gSt) : Prop := W_X12_fine (fun x1 => ((x1 = 0 → (Q σ)) ∧ (¬ x1 = 0 → (W_X12_here (fun x3 s4 => W_X12_isDigit x3 (fun x5 => ((x5 = 0 → (((x3 = (nI 40) → (W_X12_opensAt (nI 40) (nI 1) (fun s29 => R_X12_sum (fun s30 => W_X12_closesAt (nI 41) (fun s31 => Q s31) s30) s29) s4)) ∧ (¬ x3 = (nI 40) → (W_X12_word (fun x8 s9 => ∀ J10 : Prop, ((W_X12_pass (fun s11 => W_X12_opensAt (nI 40) (nI 1) (fun s12 => R_X12_sum (fun s13 => W_X12_need (nI 44) (fun s14 => R_X12_sum (fun s15 => W_X12_closesAt (nI 41) (fun s16 => ∀ J18 : Int32 → Prop, (∀ x17, (W_X12_emit x17 (nI 0) (fun s19 => Q s19) s16) → J18 x17) → ((x8 = ((12748404 : Int64)) → (J18 (nI 11))) ∧ (¬ x8 = ((12748404 : Int64)) → (J18 (nI 12))))) s15) s14) s13) s12) s11) s9) → J10) → ((x8 = ((12748404 : Int64)) → J10) ∧ (¬ x8 = ((12748404 : Int64)) → (((x8 = ((441972 : Int64)) → J10) ∧ (¬ x8 = ((441972 : Int64)) → (W_X12_name x8 (fun x23 => ((x23 = ((-1 : Int32)) → (W_X12_wrong (nI 1) (s9.1 65 11) (fun s28 => Q s28) s9)) ∧ (¬ x23 = ((-1 : Int32)) → (W_X12_pass (fun s25 => W_X12_name x8 (fun x26 => W_X12_emit x26 (nI 0) (fun s27 => Q s27) s25) s25) s9)))) s9))))))) s4))))) ∧ (¬ x5 = 0 → (W_X12_readNumber (fun x32 s33 => W_X12_emit (nI 0) x32 (fun s34 => Q s34) s33) s4)))) s4) σ)))) σ
set_option maxHeartbeats 4000000 in
theorem ts_X12_unit {o : gOm} {l : Launch} {d1 : Nat} {b : Bool} {R_X12_product : (gSt → Prop) → gSt → Prop} {R_X12_sum : (gSt → Prop) → gSt → Prop} {R_X12_unit : (gSt → Prop) → gSt → Prop} (hR_X12_product : ∀ {σ : gSt} (_ : σ.2.2 = gRf b)  {Q : gSt → Prop} (_ : R_X12_product  Q σ), Sp o l mX12_product d1 0 0 [.ref (ad o 65)] 116 116 σ (pV (fun s => s.2.2 = gRf b ∧ Q s))) (hR_X12_sum : ∀ {σ : gSt} (_ : σ.2.2 = gRf b)  {Q : gSt → Prop} (_ : R_X12_sum  Q σ), Sp o l mX12_sum d1 0 0 [.ref (ad o 65)] 116 116 σ (pV (fun s => s.2.2 = gRf b ∧ Q s))) (hR_X12_unit : ∀ {σ : gSt} (_ : σ.2.2 = gRf b)  {Q : gSt → Prop} (_ : R_X12_unit  Q σ), Sp o l mX12_unit d1 0 0 [.ref (ad o 65)] 116 116 σ (pV (fun s => s.2.2 = gRf b ∧ Q s))) (hd1 : 3 ≤ d1) {σ : gSt} (hR : σ.2.2 = gRf b)  {Q : gSt → Prop} (h : S_X12_unit R_X12_product R_X12_sum R_X12_unit  Q σ) : Sp o l mX12_unit (d1 + 1) 0 0 [.ref (ad o 65)] 116 116 σ (pV (fun s => s.2.2 = gRf b ∧ Q s)) := by
  unfold S_X12_unit at h
  refine Sp.of (ls0 := [some (.ref (ad o 65)), none, none, none]) miX12_unit rfl (Nat.le_of_ble_eq_true rfl) rfl (fun γ hγ hnm X Y => ?_)
  subst hγ
  have X : gX o γ cX12_unit 4 RX12 := X
  refine g_aload_0 (pc := 0) X dX12_unit_0 ?_
  refine g_callV_I (pc := 1) X Y dX12_unit_1 miX12_fine li_X12_226 (t_X12_fine hR  h) rfl (by decide) rfl ⟨_, rfl⟩ rfl ⟨by omega, by show 8 + (1 + 11) + 40 * 1 ≤ 40 * (d1 + 1); omega⟩ (Nat.le_of_ble_eq_true rfl) (Nat.le_of_ble_eq_true rfl) rfl (by exact Nat.le_of_ble_eq_true rfl) (fun x1 σ9 hp => ?_)
  obtain ⟨rfl, h⟩ := hp
  refine g_if_ne (pc := 4) X dX12_unit_4 (tgt := 8) (by decide) (fun q2 => ?_) (fun q2 => ?_)
  · replace h := h.2 q2
    refine g_aload_0 (pc := 8) X dX12_unit_8 ?_
    refine g_callV_I (pc := 9) X Y dX12_unit_9 miX12_here li_X12_212 (t_X12_here hR  h) rfl (by decide) rfl ⟨_, rfl⟩ rfl ⟨by omega, by show 8 + (1 + 11) + 40 * 1 ≤ 40 * (d1 + 1); omega⟩ (Nat.le_of_ble_eq_true rfl) (Nat.le_of_ble_eq_true rfl) rfl (by exact Nat.le_of_ble_eq_true rfl) (fun x3 s4 hp => ?_)
    obtain ⟨hR, h⟩ := hp
    refine g_istore_1 (pc := 12) X dX12_unit_12 (by decide) rfl ?_
    refine g_iload_1 (pc := 13) X dX12_unit_13 ?_
    refine g_callS_I (pc := 14) X Y dX12_unit_14 miX12_isDigit li_X12_219 (t_X12_isDigit hR  h) rfl ⟨by omega, by show 8 + (1 + 11) + 40 * 1 ≤ 40 * (d1 + 1); omega⟩ (Nat.le_of_ble_eq_true rfl) (Nat.le_of_ble_eq_true rfl) rfl (by exact Nat.le_of_ble_eq_true rfl) (fun x5 σ9 hp => ?_)
    obtain ⟨rfl, h⟩ := hp
    refine g_if_eq (pc := 17) X dX12_unit_17 (tgt := 30) (by decide) (fun q6 => ?_) (fun q6 => ?_)
    · replace h := h.1 q6
      refine g_iload_1 (pc := 30) X dX12_unit_30 ?_
      refine g_bipush (pc := 31) X dX12_unit_31 kbipush_40 ?_
      refine g_icmp_ne (pc := 33) X dX12_unit_33 (tgt := 54) (by decide) (fun q7 => ?_) (fun q7 => ?_)
      · replace h := h.2 q7
        refine g_aload_0 (pc := 54) X dX12_unit_54 ?_
        refine g_callV_L (pc := 55) X Y dX12_unit_55 miX12_word li_X12_266 (t_X12_word hR  h) rfl (by decide) rfl ⟨_, rfl⟩ rfl ⟨by omega, by show 8 + (5 + 11) + 40 * 2 ≤ 40 * (d1 + 1); omega⟩ (Nat.le_of_ble_eq_true rfl) (Nat.le_of_ble_eq_true rfl) rfl (by exact Nat.le_of_ble_eq_true rfl) (fun x8 s9 hp => ?_)
        obtain ⟨hR, h⟩ := hp
        refine g_lstore_2 (pc := 58) X dX12_unit_58 (by decide) rfl ?_
        refine g_lload_2 (pc := 59) X dX12_unit_59 ?_
        refine g_ldc2 (pc := 60) X dX12_unit_60 ct_X12_270 ?_
        replace h := h (G o γ 0 0 116 s9 75 [some (.ref (ad o 65)), none, some (.long x8), none] []) (by
            intro  h
            refine g_aload_0 (pc := 75) X dX12_unit_75 ?_
            refine g_callV_V (pc := 76) X Y dX12_unit_76 miX12_pass li_X12_274 (t_X12_pass hR  h) rfl (by decide) rfl ⟨_, rfl⟩ rfl ⟨by omega, by show 8 + (1 + 11) + 40 * 2 ≤ 40 * (d1 + 1); omega⟩ (Nat.le_of_ble_eq_true rfl) (Nat.le_of_ble_eq_true rfl) rfl (by exact Nat.le_of_ble_eq_true rfl) (fun s11 hp => ?_)
            obtain ⟨hR, h⟩ := hp
            refine g_aload_0 (pc := 79) X dX12_unit_79 ?_
            refine g_bipush (pc := 80) X dX12_unit_80 kbipush_40 ?_
            refine g_iconst (pc := 82) X dX12_unit_82 kiconst_1 ?_
            refine g_callV_V (pc := 83) X Y dX12_unit_83 miX12_opensAt li_X12_257 (t_X12_opensAt hR  h) rfl (by decide) rfl ⟨_, rfl⟩ rfl ⟨by omega, by show 8 + (3 + 11) + 40 * 2 ≤ 40 * (d1 + 1); omega⟩ (Nat.le_of_ble_eq_true rfl) (Nat.le_of_ble_eq_true rfl) rfl (by exact Nat.le_of_ble_eq_true rfl) (fun s12 hp => ?_)
            obtain ⟨hR, h⟩ := hp
            refine g_aload_0 (pc := 86) X dX12_unit_86 ?_
            refine g_callV_V (pc := 87) X Y dX12_unit_87 miX12_sum li_X12_260 (hR_X12_sum hR  h) rfl (by decide) rfl ⟨_, rfl⟩ rfl ⟨by omega, by show 8 + (2 + 11) + 40 * d1 ≤ 40 * (d1 + 1); omega⟩ (Nat.le_of_ble_eq_true rfl) (Nat.le_of_ble_eq_true rfl) rfl (by exact Nat.le_of_ble_eq_true rfl) (fun s13 hp => ?_)
            obtain ⟨hR, h⟩ := hp
            refine g_aload_0 (pc := 90) X dX12_unit_90 ?_
            refine g_bipush (pc := 91) X dX12_unit_91 kbipush_44 ?_
            refine g_callV_V (pc := 93) X Y dX12_unit_93 miX12_need li_X12_236 (t_X12_need hR  h) rfl (by decide) rfl ⟨_, rfl⟩ rfl ⟨by omega, by show 8 + (2 + 11) + 40 * 2 ≤ 40 * (d1 + 1); omega⟩ (Nat.le_of_ble_eq_true rfl) (Nat.le_of_ble_eq_true rfl) rfl (by exact Nat.le_of_ble_eq_true rfl) (fun s14 hp => ?_)
            obtain ⟨hR, h⟩ := hp
            refine g_aload_0 (pc := 96) X dX12_unit_96 ?_
            refine g_callV_V (pc := 97) X Y dX12_unit_97 miX12_sum li_X12_260 (hR_X12_sum hR  h) rfl (by decide) rfl ⟨_, rfl⟩ rfl ⟨by omega, by show 8 + (2 + 11) + 40 * d1 ≤ 40 * (d1 + 1); omega⟩ (Nat.le_of_ble_eq_true rfl) (Nat.le_of_ble_eq_true rfl) rfl (by exact Nat.le_of_ble_eq_true rfl) (fun s15 hp => ?_)
            obtain ⟨hR, h⟩ := hp
            refine g_aload_0 (pc := 100) X dX12_unit_100 ?_
            refine g_bipush (pc := 101) X dX12_unit_101 kbipush_41 ?_
            refine g_callV_V (pc := 103) X Y dX12_unit_103 miX12_closesAt li_X12_263 (t_X12_closesAt hR  h) rfl (by decide) rfl ⟨_, rfl⟩ rfl ⟨by omega, by show 8 + (2 + 11) + 40 * 3 ≤ 40 * (d1 + 1); omega⟩ (Nat.le_of_ble_eq_true rfl) (Nat.le_of_ble_eq_true rfl) rfl (by exact Nat.le_of_ble_eq_true rfl) (fun s16 hp => ?_)
            obtain ⟨hR, h⟩ := hp
            refine g_aload_0 (pc := 106) X dX12_unit_106 ?_
            refine g_lload_2 (pc := 107) X dX12_unit_107 ?_
            refine g_ldc2 (pc := 108) X dX12_unit_108 ct_X12_270 ?_
            replace h := h (fun x17 => G o γ 0 0 116 s16 122 [none, none, none, none] [.int x17, .ref (ad o 65)]) (by
                intro x17 h
                refine g_iconst (pc := 122) X dX12_unit_122 kiconst_0 ?_
                refine g_callV_V (pc := 123) X Y dX12_unit_123 miX12_emit li_X12_254 (t_X12_emit hR  h) rfl (by decide) rfl ⟨_, rfl⟩ rfl ⟨by omega, by show 8 + (3 + 11) + 40 * 2 ≤ 40 * (d1 + 1); omega⟩ (Nat.le_of_ble_eq_true rfl) (Nat.le_of_ble_eq_true rfl) rfl (by exact Nat.le_of_ble_eq_true rfl) (fun s19 hp => ?_)
                obtain ⟨hR, h⟩ := hp
                refine g_goto (pc := 126) X dX12_unit_126 (tgt := 162) (by decide) ?_
                exact g_return (pc := 162) X Y dX12_unit_162 (Nat.le_of_ble_eq_true rfl) (Nat.le_of_ble_eq_true rfl) ⟨rfl, hR, h⟩)
            refine g_lcmp_ne (pc := 111) X dX12_unit_111 dX12_unit_112 (tgt := 120) (by decide) (fun q20 => ?_) (fun q20 => ?_)
            · replace h := h.2 q20
              refine g_bipush (pc := 120) X dX12_unit_120 kbipush_12 ?_
              exact g_drop (by simp [lsub]) (h)
            · replace h := h.1 q20
              refine g_bipush (pc := 115) X dX12_unit_115 kbipush_11 ?_
              refine g_goto (pc := 117) X dX12_unit_117 (tgt := 122) (by decide) ?_
              exact g_drop (by simp [lsub]) (h))
        refine g_lcmp_eq (pc := 63) X dX12_unit_63 dX12_unit_64 (tgt := 75) (by decide) (fun q21 => ?_) (fun q21 => ?_)
        · replace h := h.1 q21
          exact g_drop (by simp [lsub]) (h)
        · replace h := h.2 q21
          refine g_lload_2 (pc := 67) X dX12_unit_67 ?_
          refine g_ldc2 (pc := 68) X dX12_unit_68 ct_X12_272 ?_
          refine g_lcmp_ne (pc := 71) X dX12_unit_71 dX12_unit_72 (tgt := 129) (by decide) (fun q22 => ?_) (fun q22 => ?_)
          · replace h := h.2 q22
            refine g_lload_2 (pc := 129) X dX12_unit_129 ?_
            refine g_callS_I (pc := 130) X Y dX12_unit_130 miX12_name li_X12_277 (t_X12_name hR  h) rfl ⟨by omega, by show 8 + (2 + 11) + 40 * 1 ≤ 40 * (d1 + 1); omega⟩ (Nat.le_of_ble_eq_true rfl) (Nat.le_of_ble_eq_true rfl) rfl (by exact Nat.le_of_ble_eq_true rfl) (fun x23 σ9 hp => ?_)
            obtain ⟨rfl, h⟩ := hp
            refine g_iconst (pc := 133) X dX12_unit_133 kiconst_m1 ?_
            refine g_icmp_ne (pc := 134) X dX12_unit_134 (tgt := 149) (by decide) (fun q24 => ?_) (fun q24 => ?_)
            · replace h := h.2 q24
              refine g_aload_0 (pc := 149) X dX12_unit_149 ?_
              refine g_callV_V (pc := 150) X Y dX12_unit_150 miX12_pass li_X12_274 (t_X12_pass hR  h) rfl (by decide) rfl ⟨_, rfl⟩ rfl ⟨by omega, by show 8 + (1 + 11) + 40 * 2 ≤ 40 * (d1 + 1); omega⟩ (Nat.le_of_ble_eq_true rfl) (Nat.le_of_ble_eq_true rfl) rfl (by exact Nat.le_of_ble_eq_true rfl) (fun s25 hp => ?_)
              obtain ⟨hR, h⟩ := hp
              refine g_aload_0 (pc := 153) X dX12_unit_153 ?_
              refine g_lload_2 (pc := 154) X dX12_unit_154 ?_
              refine g_callS_I (pc := 155) X Y dX12_unit_155 miX12_name li_X12_277 (t_X12_name hR  h) rfl ⟨by omega, by show 8 + (2 + 11) + 40 * 1 ≤ 40 * (d1 + 1); omega⟩ (Nat.le_of_ble_eq_true rfl) (Nat.le_of_ble_eq_true rfl) rfl (by exact Nat.le_of_ble_eq_true rfl) (fun x26 σ9 hp => ?_)
              obtain ⟨rfl, h⟩ := hp
              refine g_iconst (pc := 158) X dX12_unit_158 kiconst_0 ?_
              refine g_callV_V (pc := 159) X Y dX12_unit_159 miX12_emit li_X12_254 (t_X12_emit hR  h) rfl (by decide) rfl ⟨_, rfl⟩ rfl ⟨by omega, by show 8 + (3 + 11) + 40 * 2 ≤ 40 * (d1 + 1); omega⟩ (Nat.le_of_ble_eq_true rfl) (Nat.le_of_ble_eq_true rfl) rfl (by exact Nat.le_of_ble_eq_true rfl) (fun s27 hp => ?_)
              obtain ⟨hR, h⟩ := hp
              exact g_return (pc := 162) X Y dX12_unit_162 (Nat.le_of_ble_eq_true rfl) (Nat.le_of_ble_eq_true rfl) ⟨rfl, hR, h⟩
            · replace h := h.1 q24
              refine g_aload_0 (pc := 137) X dX12_unit_137 ?_
              refine g_iconst (pc := 138) X dX12_unit_138 kiconst_1 ?_
              refine g_aload_0 (pc := 139) X dX12_unit_139 ?_
              refine g_getI (pc := 140) X dX12_unit_140 rfl (by decide) fl_X12_206 (Or.inl rfl) ?_
              refine g_callV_V (pc := 143) X Y dX12_unit_143 miX12_wrong li_X12_222 (t_X12_wrong hR  h) rfl (by decide) rfl ⟨_, rfl⟩ rfl ⟨by omega, by show 8 + (3 + 11) + 40 * 1 ≤ 40 * (d1 + 1); omega⟩ (Nat.le_of_ble_eq_true rfl) (Nat.le_of_ble_eq_true rfl) rfl (by exact Nat.le_of_ble_eq_true rfl) (fun s28 hp => ?_)
              obtain ⟨hR, h⟩ := hp
              refine g_goto (pc := 146) X dX12_unit_146 (tgt := 162) (by decide) ?_
              exact g_return (pc := 162) X Y dX12_unit_162 (Nat.le_of_ble_eq_true rfl) (Nat.le_of_ble_eq_true rfl) ⟨rfl, hR, h⟩
          · replace h := h.1 q22
            exact g_drop (by simp [lsub]) (h)
      · replace h := h.1 q7
        refine g_aload_0 (pc := 36) X dX12_unit_36 ?_
        refine g_bipush (pc := 37) X dX12_unit_37 kbipush_40 ?_
        refine g_iconst (pc := 39) X dX12_unit_39 kiconst_1 ?_
        refine g_callV_V (pc := 40) X Y dX12_unit_40 miX12_opensAt li_X12_257 (t_X12_opensAt hR  h) rfl (by decide) rfl ⟨_, rfl⟩ rfl ⟨by omega, by show 8 + (3 + 11) + 40 * 2 ≤ 40 * (d1 + 1); omega⟩ (Nat.le_of_ble_eq_true rfl) (Nat.le_of_ble_eq_true rfl) rfl (by exact Nat.le_of_ble_eq_true rfl) (fun s29 hp => ?_)
        obtain ⟨hR, h⟩ := hp
        refine g_aload_0 (pc := 43) X dX12_unit_43 ?_
        refine g_callV_V (pc := 44) X Y dX12_unit_44 miX12_sum li_X12_260 (hR_X12_sum hR  h) rfl (by decide) rfl ⟨_, rfl⟩ rfl ⟨by omega, by show 8 + (2 + 11) + 40 * d1 ≤ 40 * (d1 + 1); omega⟩ (Nat.le_of_ble_eq_true rfl) (Nat.le_of_ble_eq_true rfl) rfl (by exact Nat.le_of_ble_eq_true rfl) (fun s30 hp => ?_)
        obtain ⟨hR, h⟩ := hp
        refine g_aload_0 (pc := 47) X dX12_unit_47 ?_
        refine g_bipush (pc := 48) X dX12_unit_48 kbipush_41 ?_
        refine g_callV_V (pc := 50) X Y dX12_unit_50 miX12_closesAt li_X12_263 (t_X12_closesAt hR  h) rfl (by decide) rfl ⟨_, rfl⟩ rfl ⟨by omega, by show 8 + (2 + 11) + 40 * 3 ≤ 40 * (d1 + 1); omega⟩ (Nat.le_of_ble_eq_true rfl) (Nat.le_of_ble_eq_true rfl) rfl (by exact Nat.le_of_ble_eq_true rfl) (fun s31 hp => ?_)
        obtain ⟨hR, h⟩ := hp
        exact g_return (pc := 53) X Y dX12_unit_53 (Nat.le_of_ble_eq_true rfl) (Nat.le_of_ble_eq_true rfl) ⟨rfl, hR, h⟩
    · replace h := h.2 q6
      refine g_aload_0 (pc := 20) X dX12_unit_20 ?_
      refine g_iconst (pc := 21) X dX12_unit_21 kiconst_0 ?_
      refine g_aload_0 (pc := 22) X dX12_unit_22 ?_
      refine g_callV_I (pc := 23) X Y dX12_unit_23 miX12_readNumber li_X12_251 (t_X12_readNumber hR  h) rfl (by decide) rfl ⟨_, rfl⟩ rfl ⟨by omega, by show 8 + (3 + 11) + 40 * 2 ≤ 40 * (d1 + 1); omega⟩ (Nat.le_of_ble_eq_true rfl) (Nat.le_of_ble_eq_true rfl) rfl (by exact Nat.le_of_ble_eq_true rfl) (fun x32 s33 hp => ?_)
      obtain ⟨hR, h⟩ := hp
      refine g_callV_V (pc := 26) X Y dX12_unit_26 miX12_emit li_X12_254 (t_X12_emit hR  h) rfl (by decide) rfl ⟨_, rfl⟩ rfl ⟨by omega, by show 8 + (3 + 11) + 40 * 2 ≤ 40 * (d1 + 1); omega⟩ (Nat.le_of_ble_eq_true rfl) (Nat.le_of_ble_eq_true rfl) rfl (by exact Nat.le_of_ble_eq_true rfl) (fun s34 hp => ?_)
      obtain ⟨hR, h⟩ := hp
      exact g_return (pc := 29) X Y dX12_unit_29 (Nat.le_of_ble_eq_true rfl) (Nat.le_of_ble_eq_true rfl) ⟨rfl, hR, h⟩
  · replace h := h.1 q2
    exact g_return (pc := 7) X Y dX12_unit_7 (Nat.le_of_ble_eq_true rfl) (Nat.le_of_ble_eq_true rfl) ⟨rfl, hR, h⟩
def WR_X12_product : Nat → ((gSt → Prop) → gSt → Prop) × ((gSt → Prop) → gSt → Prop) × ((gSt → Prop) → gSt → Prop)
  | 0 => ((fun _ _ => False), (fun _ _ => False), (fun _ _ => False))
  | n + 1 => (S_X12_product ((WR_X12_product n).1) ((WR_X12_product n).2.1) ((WR_X12_product n).2.2), S_X12_sum ((WR_X12_product n).1) ((WR_X12_product n).2.1) ((WR_X12_product n).2.2), S_X12_unit ((WR_X12_product n).1) ((WR_X12_product n).2.1) ((WR_X12_product n).2.2))
theorem tr_X12_product {o : gOm} {l : Launch} {b : Bool} : ∀ n : Nat, (∀ {σ : gSt} (_ : σ.2.2 = gRf b)  {Q : gSt → Prop} (_ : (WR_X12_product n).1  Q σ), Sp o l mX12_product (3 + n) 0 0 [.ref (ad o 65)] 116 116 σ (pV (fun s => s.2.2 = gRf b ∧ Q s))) ∧ (∀ {σ : gSt} (_ : σ.2.2 = gRf b)  {Q : gSt → Prop} (_ : (WR_X12_product n).2.1  Q σ), Sp o l mX12_sum (3 + n) 0 0 [.ref (ad o 65)] 116 116 σ (pV (fun s => s.2.2 = gRf b ∧ Q s))) ∧ (∀ {σ : gSt} (_ : σ.2.2 = gRf b)  {Q : gSt → Prop} (_ : (WR_X12_product n).2.2  Q σ), Sp o l mX12_unit (3 + n) 0 0 [.ref (ad o 65)] 116 116 σ (pV (fun s => s.2.2 = gRf b ∧ Q s)))
  | 0 => ⟨fun {_} _ {_} h => False.elim h, fun {_} _ {_} h => False.elim h, fun {_} _ {_} h => False.elim h⟩
  | n + 1 => ⟨fun {_} hR {_} h => ts_X12_product (d1 := 3 + n) ((tr_X12_product (o := o) (l := l) (b := b) n).1) ((tr_X12_product (o := o) (l := l) (b := b) n).2.1) ((tr_X12_product (o := o) (l := l) (b := b) n).2.2) (by omega) hR h, fun {_} hR {_} h => ts_X12_sum (d1 := 3 + n) ((tr_X12_product (o := o) (l := l) (b := b) n).1) ((tr_X12_product (o := o) (l := l) (b := b) n).2.1) ((tr_X12_product (o := o) (l := l) (b := b) n).2.2) (by omega) hR h, fun {_} hR {_} h => ts_X12_unit (d1 := 3 + n) ((tr_X12_product (o := o) (l := l) (b := b) n).1) ((tr_X12_product (o := o) (l := l) (b := b) n).2.1) ((tr_X12_product (o := o) (l := l) (b := b) n).2.2) (by omega) hR h⟩
def W_X12_product  (Q : gSt → Prop) (σ : gSt) : Prop := (WR_X12_product 60).1  Q σ
theorem t_X12_product {o : gOm} {l : Launch} {b : Bool} {σ : gSt} (hR : σ.2.2 = gRf b)  {Q : gSt → Prop} (h : W_X12_product  Q σ) : Sp o l mX12_product 63 0 0 [.ref (ad o 65)] 116 116 σ (pV (fun s => s.2.2 = gRf b ∧ Q s)) := (tr_X12_product (o := o) (l := l) (b := b) 60).1 hR h
def W_X12_sum  (Q : gSt → Prop) (σ : gSt) : Prop := (WR_X12_product 60).2.1  Q σ
theorem t_X12_sum {o : gOm} {l : Launch} {b : Bool} {σ : gSt} (hR : σ.2.2 = gRf b)  {Q : gSt → Prop} (h : W_X12_sum  Q σ) : Sp o l mX12_sum 63 0 0 [.ref (ad o 65)] 116 116 σ (pV (fun s => s.2.2 = gRf b ∧ Q s)) := (tr_X12_product (o := o) (l := l) (b := b) 60).2.1 hR h
def W_X12_unit  (Q : gSt → Prop) (σ : gSt) : Prop := (WR_X12_product 60).2.2  Q σ
theorem t_X12_unit {o : gOm} {l : Launch} {b : Bool} {σ : gSt} (hR : σ.2.2 = gRf b)  {Q : gSt → Prop} (h : W_X12_unit  Q σ) : Sp o l mX12_unit 63 0 0 [.ref (ad o 65)] 116 116 σ (pV (fun s => s.2.2 = gRf b ∧ Q s)) := (tr_X12_product (o := o) (l := l) (b := b) 60).2.2 hR h
def L_X12_allOf_4 (R_X12_allOf : (gSt → Prop) → gSt → Prop) (R_X12_anyOf : (gSt → Prop) → gSt → Prop) (R_X12_term : (gSt → Prop) → gSt → Prop) (Q : gSt → Prop)  (K : gSt → Prop) : Nat → gSt → Prop
  | 0, _ => False
  | n4 + 1, s2 => W_X12_fine (fun x4 => ((x4 = 0 → (K s2)) ∧ (¬ x4 = 0 → (W_X12_word (fun x6 s7 => ((x6 = ((1476 : Int64)) → (W_X12_pass (fun s9 => R_X12_term (fun s10 => W_X12_emit (nI 17) (nI 0) (fun s11 => L_X12_allOf_4 R_X12_allOf R_X12_anyOf R_X12_term Q K n4 s11) s10) s9) s7)) ∧ (¬ x6 = ((1476 : Int64)) → (K s7)))) s2)))) s2
def S_X12_allOf (R_X12_allOf : (gSt → Prop) → gSt → Prop) (R_X12_anyOf : (gSt → Prop) → gSt → Prop) (R_X12_term : (gSt → Prop) → gSt → Prop)  (Q : gSt → Prop) (σ : gSt) : Prop := R_X12_term (fun s1 => ∃ m4, L_X12_allOf_4 R_X12_allOf R_X12_anyOf R_X12_term Q (fun s13 => Q s13) m4 s1) σ
set_option maxHeartbeats 4000000 in
theorem ts_X12_allOf {o : gOm} {l : Launch} {d1 : Nat} {b : Bool} {R_X12_allOf : (gSt → Prop) → gSt → Prop} {R_X12_anyOf : (gSt → Prop) → gSt → Prop} {R_X12_term : (gSt → Prop) → gSt → Prop} (hR_X12_allOf : ∀ {σ : gSt} (_ : σ.2.2 = gRf b)  {Q : gSt → Prop} (_ : R_X12_allOf  Q σ), Sp o l mX12_allOf d1 0 0 [.ref (ad o 65)] 116 116 σ (pV (fun s => s.2.2 = gRf b ∧ Q s))) (hR_X12_anyOf : ∀ {σ : gSt} (_ : σ.2.2 = gRf b)  {Q : gSt → Prop} (_ : R_X12_anyOf  Q σ), Sp o l mX12_anyOf d1 0 0 [.ref (ad o 65)] 116 116 σ (pV (fun s => s.2.2 = gRf b ∧ Q s))) (hR_X12_term : ∀ {σ : gSt} (_ : σ.2.2 = gRf b)  {Q : gSt → Prop} (_ : R_X12_term  Q σ), Sp o l mX12_term d1 0 0 [.ref (ad o 65)] 116 116 σ (pV (fun s => s.2.2 = gRf b ∧ Q s))) (hd1 : 2 ≤ d1) {σ : gSt} (hR : σ.2.2 = gRf b)  {Q : gSt → Prop} (h : S_X12_allOf R_X12_allOf R_X12_anyOf R_X12_term  Q σ) : Sp o l mX12_allOf (d1 + 1) 0 0 [.ref (ad o 65)] 116 116 σ (pV (fun s => s.2.2 = gRf b ∧ Q s)) := by
  unfold S_X12_allOf at h
  refine Sp.of (ls0 := [some (.ref (ad o 65))]) miX12_allOf rfl (Nat.le_of_ble_eq_true rfl) rfl (fun γ hγ hnm X Y => ?_)
  subst hγ
  have X : gX o γ cX12_allOf 1 RX12 := X
  refine g_aload_0 (pc := 0) X dX12_allOf_0 ?_
  refine g_callV_V (pc := 1) X Y dX12_allOf_1 miX12_term li_X12_291 (hR_X12_term hR  h) rfl (by decide) rfl ⟨_, rfl⟩ rfl ⟨by omega, by show 8 + (2 + 11) + 40 * d1 ≤ 40 * (d1 + 1); omega⟩ (Nat.le_of_ble_eq_true rfl) (Nat.le_of_ble_eq_true rfl) rfl (by exact Nat.le_of_ble_eq_true rfl) (fun s1 hp => ?_)
  obtain ⟨hR, h⟩ := hp
  obtain ⟨n12, h⟩ := h
  have hL : ∀  (K : gSt → Prop) (_ : ∀  (s3 : gSt), s3.2.2 = gRf b → K s3 → G o γ 0 0 116 s3 40 [some (.ref (ad o 65))] []) (n : Nat)  (s2 : gSt), s2.2.2 = gRf b → L_X12_allOf_4 R_X12_allOf R_X12_anyOf R_X12_term Q K n s2 → G o γ 0 0 116 s2 4 [some (.ref (ad o 65))] [] := by
    intro K hK n
    induction n with
    | zero => intro s2 hR h; exact False.elim h
    | succ n ih =>
      intro s2 hR h
      rw [L_X12_allOf_4] at h
      refine g_aload_0 (pc := 4) X dX12_allOf_4 ?_
      refine g_callV_I (pc := 5) X Y dX12_allOf_5 miX12_fine li_X12_226 (t_X12_fine hR  h) rfl (by decide) rfl ⟨_, rfl⟩ rfl ⟨by omega, by show 8 + (1 + 11) + 40 * 1 ≤ 40 * (d1 + 1); omega⟩ (Nat.le_of_ble_eq_true rfl) (Nat.le_of_ble_eq_true rfl) rfl (by exact Nat.le_of_ble_eq_true rfl) (fun x4 σ9 hp => ?_)
      obtain ⟨rfl, h⟩ := hp
      refine g_if_eq (pc := 8) X dX12_allOf_8 (tgt := 40) (by decide) (fun q5 => ?_) (fun q5 => ?_)
      · replace h := h.1 q5
        exact hK s2 hR h
      · replace h := h.2 q5
        refine g_aload_0 (pc := 11) X dX12_allOf_11 ?_
        refine g_callV_L (pc := 12) X Y dX12_allOf_12 miX12_word li_X12_266 (t_X12_word hR  h) rfl (by decide) rfl ⟨_, rfl⟩ rfl ⟨by omega, by show 8 + (5 + 11) + 40 * 2 ≤ 40 * (d1 + 1); omega⟩ (Nat.le_of_ble_eq_true rfl) (Nat.le_of_ble_eq_true rfl) rfl (by exact Nat.le_of_ble_eq_true rfl) (fun x6 s7 hp => ?_)
        obtain ⟨hR, h⟩ := hp
        refine g_ldc2 (pc := 15) X dX12_allOf_15 ct_X12_294 ?_
        refine g_lcmp_ne (pc := 18) X dX12_allOf_18 dX12_allOf_19 (tgt := 40) (by decide) (fun q8 => ?_) (fun q8 => ?_)
        · replace h := h.2 q8
          exact hK s7 hR h
        · replace h := h.1 q8
          refine g_aload_0 (pc := 22) X dX12_allOf_22 ?_
          refine g_callV_V (pc := 23) X Y dX12_allOf_23 miX12_pass li_X12_274 (t_X12_pass hR  h) rfl (by decide) rfl ⟨_, rfl⟩ rfl ⟨by omega, by show 8 + (1 + 11) + 40 * 2 ≤ 40 * (d1 + 1); omega⟩ (Nat.le_of_ble_eq_true rfl) (Nat.le_of_ble_eq_true rfl) rfl (by exact Nat.le_of_ble_eq_true rfl) (fun s9 hp => ?_)
          obtain ⟨hR, h⟩ := hp
          refine g_aload_0 (pc := 26) X dX12_allOf_26 ?_
          refine g_callV_V (pc := 27) X Y dX12_allOf_27 miX12_term li_X12_291 (hR_X12_term hR  h) rfl (by decide) rfl ⟨_, rfl⟩ rfl ⟨by omega, by show 8 + (2 + 11) + 40 * d1 ≤ 40 * (d1 + 1); omega⟩ (Nat.le_of_ble_eq_true rfl) (Nat.le_of_ble_eq_true rfl) rfl (by exact Nat.le_of_ble_eq_true rfl) (fun s10 hp => ?_)
          obtain ⟨hR, h⟩ := hp
          refine g_aload_0 (pc := 30) X dX12_allOf_30 ?_
          refine g_bipush (pc := 31) X dX12_allOf_31 kbipush_17 ?_
          refine g_iconst (pc := 33) X dX12_allOf_33 kiconst_0 ?_
          refine g_callV_V (pc := 34) X Y dX12_allOf_34 miX12_emit li_X12_254 (t_X12_emit hR  h) rfl (by decide) rfl ⟨_, rfl⟩ rfl ⟨by omega, by show 8 + (3 + 11) + 40 * 2 ≤ 40 * (d1 + 1); omega⟩ (Nat.le_of_ble_eq_true rfl) (Nat.le_of_ble_eq_true rfl) rfl (by exact Nat.le_of_ble_eq_true rfl) (fun s11 hp => ?_)
          obtain ⟨hR, h⟩ := hp
          refine g_goto (pc := 37) X dX12_allOf_37 (tgt := 4) (by decide) ?_
          exact ih  s11 hR h
  refine hL  _ (fun s13 hR h => ?_) n12  s1 hR h
  · exact g_return (pc := 40) X Y dX12_allOf_40 (Nat.le_of_ble_eq_true rfl) (Nat.le_of_ble_eq_true rfl) ⟨rfl, hR, h⟩
def L_X12_anyOf_4 (R_X12_allOf : (gSt → Prop) → gSt → Prop) (R_X12_anyOf : (gSt → Prop) → gSt → Prop) (R_X12_term : (gSt → Prop) → gSt → Prop) (Q : gSt → Prop)  (K : gSt → Prop) : Nat → gSt → Prop
  | 0, _ => False
  | n4 + 1, s2 => W_X12_fine (fun x4 => ((x4 = 0 → (K s2)) ∧ (¬ x4 = 0 → (W_X12_word (fun x6 s7 => ((x6 = ((498 : Int64)) → (W_X12_pass (fun s9 => R_X12_allOf (fun s10 => W_X12_emit (nI 16) (nI 0) (fun s11 => L_X12_anyOf_4 R_X12_allOf R_X12_anyOf R_X12_term Q K n4 s11) s10) s9) s7)) ∧ (¬ x6 = ((498 : Int64)) → (K s7)))) s2)))) s2
def S_X12_anyOf (R_X12_allOf : (gSt → Prop) → gSt → Prop) (R_X12_anyOf : (gSt → Prop) → gSt → Prop) (R_X12_term : (gSt → Prop) → gSt → Prop)  (Q : gSt → Prop) (σ : gSt) : Prop := R_X12_allOf (fun s1 => ∃ m4, L_X12_anyOf_4 R_X12_allOf R_X12_anyOf R_X12_term Q (fun s13 => Q s13) m4 s1) σ
set_option maxHeartbeats 4000000 in
theorem ts_X12_anyOf {o : gOm} {l : Launch} {d1 : Nat} {b : Bool} {R_X12_allOf : (gSt → Prop) → gSt → Prop} {R_X12_anyOf : (gSt → Prop) → gSt → Prop} {R_X12_term : (gSt → Prop) → gSt → Prop} (hR_X12_allOf : ∀ {σ : gSt} (_ : σ.2.2 = gRf b)  {Q : gSt → Prop} (_ : R_X12_allOf  Q σ), Sp o l mX12_allOf d1 0 0 [.ref (ad o 65)] 116 116 σ (pV (fun s => s.2.2 = gRf b ∧ Q s))) (hR_X12_anyOf : ∀ {σ : gSt} (_ : σ.2.2 = gRf b)  {Q : gSt → Prop} (_ : R_X12_anyOf  Q σ), Sp o l mX12_anyOf d1 0 0 [.ref (ad o 65)] 116 116 σ (pV (fun s => s.2.2 = gRf b ∧ Q s))) (hR_X12_term : ∀ {σ : gSt} (_ : σ.2.2 = gRf b)  {Q : gSt → Prop} (_ : R_X12_term  Q σ), Sp o l mX12_term d1 0 0 [.ref (ad o 65)] 116 116 σ (pV (fun s => s.2.2 = gRf b ∧ Q s))) (hd1 : 2 ≤ d1) {σ : gSt} (hR : σ.2.2 = gRf b)  {Q : gSt → Prop} (h : S_X12_anyOf R_X12_allOf R_X12_anyOf R_X12_term  Q σ) : Sp o l mX12_anyOf (d1 + 1) 0 0 [.ref (ad o 65)] 116 116 σ (pV (fun s => s.2.2 = gRf b ∧ Q s)) := by
  unfold S_X12_anyOf at h
  refine Sp.of (ls0 := [some (.ref (ad o 65))]) miX12_anyOf rfl (Nat.le_of_ble_eq_true rfl) rfl (fun γ hγ hnm X Y => ?_)
  subst hγ
  have X : gX o γ cX12_anyOf 1 RX12 := X
  refine g_aload_0 (pc := 0) X dX12_anyOf_0 ?_
  refine g_callV_V (pc := 1) X Y dX12_anyOf_1 miX12_allOf li_X12_286 (hR_X12_allOf hR  h) rfl (by decide) rfl ⟨_, rfl⟩ rfl ⟨by omega, by show 8 + (1 + 11) + 40 * d1 ≤ 40 * (d1 + 1); omega⟩ (Nat.le_of_ble_eq_true rfl) (Nat.le_of_ble_eq_true rfl) rfl (by exact Nat.le_of_ble_eq_true rfl) (fun s1 hp => ?_)
  obtain ⟨hR, h⟩ := hp
  obtain ⟨n12, h⟩ := h
  have hL : ∀  (K : gSt → Prop) (_ : ∀  (s3 : gSt), s3.2.2 = gRf b → K s3 → G o γ 0 0 116 s3 40 [some (.ref (ad o 65))] []) (n : Nat)  (s2 : gSt), s2.2.2 = gRf b → L_X12_anyOf_4 R_X12_allOf R_X12_anyOf R_X12_term Q K n s2 → G o γ 0 0 116 s2 4 [some (.ref (ad o 65))] [] := by
    intro K hK n
    induction n with
    | zero => intro s2 hR h; exact False.elim h
    | succ n ih =>
      intro s2 hR h
      rw [L_X12_anyOf_4] at h
      refine g_aload_0 (pc := 4) X dX12_anyOf_4 ?_
      refine g_callV_I (pc := 5) X Y dX12_anyOf_5 miX12_fine li_X12_226 (t_X12_fine hR  h) rfl (by decide) rfl ⟨_, rfl⟩ rfl ⟨by omega, by show 8 + (1 + 11) + 40 * 1 ≤ 40 * (d1 + 1); omega⟩ (Nat.le_of_ble_eq_true rfl) (Nat.le_of_ble_eq_true rfl) rfl (by exact Nat.le_of_ble_eq_true rfl) (fun x4 σ9 hp => ?_)
      obtain ⟨rfl, h⟩ := hp
      refine g_if_eq (pc := 8) X dX12_anyOf_8 (tgt := 40) (by decide) (fun q5 => ?_) (fun q5 => ?_)
      · replace h := h.1 q5
        exact hK s2 hR h
      · replace h := h.2 q5
        refine g_aload_0 (pc := 11) X dX12_anyOf_11 ?_
        refine g_callV_L (pc := 12) X Y dX12_anyOf_12 miX12_word li_X12_266 (t_X12_word hR  h) rfl (by decide) rfl ⟨_, rfl⟩ rfl ⟨by omega, by show 8 + (5 + 11) + 40 * 2 ≤ 40 * (d1 + 1); omega⟩ (Nat.le_of_ble_eq_true rfl) (Nat.le_of_ble_eq_true rfl) rfl (by exact Nat.le_of_ble_eq_true rfl) (fun x6 s7 hp => ?_)
        obtain ⟨hR, h⟩ := hp
        refine g_ldc2 (pc := 15) X dX12_anyOf_15 ct_X12_289 ?_
        refine g_lcmp_ne (pc := 18) X dX12_anyOf_18 dX12_anyOf_19 (tgt := 40) (by decide) (fun q8 => ?_) (fun q8 => ?_)
        · replace h := h.2 q8
          exact hK s7 hR h
        · replace h := h.1 q8
          refine g_aload_0 (pc := 22) X dX12_anyOf_22 ?_
          refine g_callV_V (pc := 23) X Y dX12_anyOf_23 miX12_pass li_X12_274 (t_X12_pass hR  h) rfl (by decide) rfl ⟨_, rfl⟩ rfl ⟨by omega, by show 8 + (1 + 11) + 40 * 2 ≤ 40 * (d1 + 1); omega⟩ (Nat.le_of_ble_eq_true rfl) (Nat.le_of_ble_eq_true rfl) rfl (by exact Nat.le_of_ble_eq_true rfl) (fun s9 hp => ?_)
          obtain ⟨hR, h⟩ := hp
          refine g_aload_0 (pc := 26) X dX12_anyOf_26 ?_
          refine g_callV_V (pc := 27) X Y dX12_anyOf_27 miX12_allOf li_X12_286 (hR_X12_allOf hR  h) rfl (by decide) rfl ⟨_, rfl⟩ rfl ⟨by omega, by show 8 + (1 + 11) + 40 * d1 ≤ 40 * (d1 + 1); omega⟩ (Nat.le_of_ble_eq_true rfl) (Nat.le_of_ble_eq_true rfl) rfl (by exact Nat.le_of_ble_eq_true rfl) (fun s10 hp => ?_)
          obtain ⟨hR, h⟩ := hp
          refine g_aload_0 (pc := 30) X dX12_anyOf_30 ?_
          refine g_bipush (pc := 31) X dX12_anyOf_31 kbipush_16 ?_
          refine g_iconst (pc := 33) X dX12_anyOf_33 kiconst_0 ?_
          refine g_callV_V (pc := 34) X Y dX12_anyOf_34 miX12_emit li_X12_254 (t_X12_emit hR  h) rfl (by decide) rfl ⟨_, rfl⟩ rfl ⟨by omega, by show 8 + (3 + 11) + 40 * 2 ≤ 40 * (d1 + 1); omega⟩ (Nat.le_of_ble_eq_true rfl) (Nat.le_of_ble_eq_true rfl) rfl (by exact Nat.le_of_ble_eq_true rfl) (fun s11 hp => ?_)
          obtain ⟨hR, h⟩ := hp
          refine g_goto (pc := 37) X dX12_anyOf_37 (tgt := 4) (by decide) ?_
          exact ih  s11 hR h
  refine hL  _ (fun s13 hR h => ?_) n12  s1 hR h
  · exact g_return (pc := 40) X Y dX12_anyOf_40 (Nat.le_of_ble_eq_true rfl) (Nat.le_of_ble_eq_true rfl) ⟨rfl, hR, h⟩
def S_X12_term (R_X12_allOf : (gSt → Prop) → gSt → Prop) (R_X12_anyOf : (gSt → Prop) → gSt → Prop) (R_X12_term : (gSt → Prop) → gSt → Prop)  (Q : gSt → Prop) (σ : gSt) : Prop := W_X12_fine (fun x1 => ((x1 = 0 → (Q σ)) ∧ (¬ x1 = 0 → (W_X12_here (fun x3 s4 => ((x3 = (nI 91) → (W_X12_opensAt (nI 91) (nI 1) (fun s38 => R_X12_anyOf (fun s39 => W_X12_closesAt (nI 93) (fun s40 => Q s40) s39) s38) s4)) ∧ (¬ x3 = (nI 91) → (W_X12_word (fun x6 s7 => ((x6 = ((14836 : Int64)) → (W_X12_opensAt (nI 0) (nI 3) (fun s34 => R_X12_term (fun s35 => fI s35 65 14 ((s35.1 65 14) - (nI 1)) (fun s36 => W_X12_emit (nI 18) (nI 0) (fun s37 => Q s37) s36)) s34) s7)) ∧ (¬ x6 = ((14836 : Int64)) → (W_X12_sum (fun s9 => W_X12_fine (fun x10 => ∀ J13 : Int32 → gSt → Prop, (∀ x11 s12, (∀ J15 : gSt → Prop, (∀ s14, (W_X12_fine (fun x16 => ∀ J18 : gSt → Prop, (∀ s17, (W_X12_sum (fun s19 => ∀ J21 : Int32 → Prop, (∀ x20, (W_X12_emit x20 (nI 0) (fun s22 => Q s22) s19) → J21 x20) → ((x11 = (nI 60) → (J21 (nI 13))) ∧ (¬ x11 = (nI 60) → (((x11 = (nI 62) → (J21 (nI 14))) ∧ (¬ x11 = (nI 62) → (J21 (nI 15)))))))) s17) → J18 s17) → ((x16 = 0 → (J18 s14)) ∧ (¬ x16 = 0 → (fI s14 65 11 ((s14.1 65 11) + (nI 1)) (fun s26 => J18 s26))))) s14) → J15 s14) → ((x11 = (nI 60) → (J15 s12)) ∧ (¬ x11 = (nI 60) → (((x11 = (nI 62) → (J15 s12)) ∧ (¬ x11 = (nI 62) → (((x11 = (nI 61) → (J15 s12)) ∧ (¬ x11 = (nI 61) → (W_X12_wrong (nI 1) (s12.1 65 11) (fun s30 => J15 s30) s12)))))))))) → J13 x11 s12) → ((x10 = 0 → (J13 (nI 0) s9)) ∧ (¬ x10 = 0 → (W_X12_here (fun x32 s33 => J13 x32 s33) s9)))) s9) s7)))) s4)))) σ)))) σ
set_option maxHeartbeats 4000000 in
theorem ts_X12_term {o : gOm} {l : Launch} {d1 : Nat} {b : Bool} {R_X12_allOf : (gSt → Prop) → gSt → Prop} {R_X12_anyOf : (gSt → Prop) → gSt → Prop} {R_X12_term : (gSt → Prop) → gSt → Prop} (hR_X12_allOf : ∀ {σ : gSt} (_ : σ.2.2 = gRf b)  {Q : gSt → Prop} (_ : R_X12_allOf  Q σ), Sp o l mX12_allOf d1 0 0 [.ref (ad o 65)] 116 116 σ (pV (fun s => s.2.2 = gRf b ∧ Q s))) (hR_X12_anyOf : ∀ {σ : gSt} (_ : σ.2.2 = gRf b)  {Q : gSt → Prop} (_ : R_X12_anyOf  Q σ), Sp o l mX12_anyOf d1 0 0 [.ref (ad o 65)] 116 116 σ (pV (fun s => s.2.2 = gRf b ∧ Q s))) (hR_X12_term : ∀ {σ : gSt} (_ : σ.2.2 = gRf b)  {Q : gSt → Prop} (_ : R_X12_term  Q σ), Sp o l mX12_term d1 0 0 [.ref (ad o 65)] 116 116 σ (pV (fun s => s.2.2 = gRf b ∧ Q s))) (hd1 : 63 ≤ d1) {σ : gSt} (hR : σ.2.2 = gRf b)  {Q : gSt → Prop} (h : S_X12_term R_X12_allOf R_X12_anyOf R_X12_term  Q σ) : Sp o l mX12_term (d1 + 1) 0 0 [.ref (ad o 65)] 116 116 σ (pV (fun s => s.2.2 = gRf b ∧ Q s)) := by
  unfold S_X12_term at h
  refine Sp.of (ls0 := [some (.ref (ad o 65)), none]) miX12_term rfl (Nat.le_of_ble_eq_true rfl) rfl (fun γ hγ hnm X Y => ?_)
  subst hγ
  have X : gX o γ cX12_term 2 RX12 := X
  refine g_aload_0 (pc := 0) X dX12_term_0 ?_
  refine g_callV_I (pc := 1) X Y dX12_term_1 miX12_fine li_X12_226 (t_X12_fine hR  h) rfl (by decide) rfl ⟨_, rfl⟩ rfl ⟨by omega, by show 8 + (1 + 11) + 40 * 1 ≤ 40 * (d1 + 1); omega⟩ (Nat.le_of_ble_eq_true rfl) (Nat.le_of_ble_eq_true rfl) rfl (by exact Nat.le_of_ble_eq_true rfl) (fun x1 σ9 hp => ?_)
  obtain ⟨rfl, h⟩ := hp
  refine g_if_ne (pc := 4) X dX12_term_4 (tgt := 8) (by decide) (fun q2 => ?_) (fun q2 => ?_)
  · replace h := h.2 q2
    refine g_aload_0 (pc := 8) X dX12_term_8 ?_
    refine g_callV_I (pc := 9) X Y dX12_term_9 miX12_here li_X12_212 (t_X12_here hR  h) rfl (by decide) rfl ⟨_, rfl⟩ rfl ⟨by omega, by show 8 + (1 + 11) + 40 * 1 ≤ 40 * (d1 + 1); omega⟩ (Nat.le_of_ble_eq_true rfl) (Nat.le_of_ble_eq_true rfl) rfl (by exact Nat.le_of_ble_eq_true rfl) (fun x3 s4 hp => ?_)
    obtain ⟨hR, h⟩ := hp
    refine g_bipush (pc := 12) X dX12_term_12 kbipush_91 ?_
    refine g_icmp_ne (pc := 14) X dX12_term_14 (tgt := 37) (by decide) (fun q5 => ?_) (fun q5 => ?_)
    · replace h := h.2 q5
      refine g_aload_0 (pc := 37) X dX12_term_37 ?_
      refine g_callV_L (pc := 38) X Y dX12_term_38 miX12_word li_X12_266 (t_X12_word hR  h) rfl (by decide) rfl ⟨_, rfl⟩ rfl ⟨by omega, by show 8 + (5 + 11) + 40 * 2 ≤ 40 * (d1 + 1); omega⟩ (Nat.le_of_ble_eq_true rfl) (Nat.le_of_ble_eq_true rfl) rfl (by exact Nat.le_of_ble_eq_true rfl) (fun x6 s7 hp => ?_)
      obtain ⟨hR, h⟩ := hp
      refine g_ldc2 (pc := 41) X dX12_term_41 ct_X12_299 ?_
      refine g_lcmp_ne (pc := 44) X dX12_term_44 dX12_term_45 (tgt := 78) (by decide) (fun q8 => ?_) (fun q8 => ?_)
      · replace h := h.2 q8
        refine g_aload_0 (pc := 78) X dX12_term_78 ?_
        refine g_callV_V (pc := 79) X Y dX12_term_79 miX12_sum li_X12_260 (t_X12_sum hR  h) rfl (by decide) rfl ⟨_, rfl⟩ rfl ⟨by omega, by show 8 + (2 + 11) + 40 * 63 ≤ 40 * (d1 + 1); omega⟩ (Nat.le_of_ble_eq_true rfl) (Nat.le_of_ble_eq_true rfl) rfl (by exact Nat.le_of_ble_eq_true rfl) (fun s9 hp => ?_)
        obtain ⟨hR, h⟩ := hp
        refine g_aload_0 (pc := 82) X dX12_term_82 ?_
        refine g_callV_I (pc := 83) X Y dX12_term_83 miX12_fine li_X12_226 (t_X12_fine hR  h) rfl (by decide) rfl ⟨_, rfl⟩ rfl ⟨by omega, by show 8 + (1 + 11) + 40 * 1 ≤ 40 * (d1 + 1); omega⟩ (Nat.le_of_ble_eq_true rfl) (Nat.le_of_ble_eq_true rfl) rfl (by exact Nat.le_of_ble_eq_true rfl) (fun x10 σ9 hp => ?_)
        obtain ⟨rfl, h⟩ := hp
        replace h := h (fun x11 s12 => s12.2.2 = gRf b → G o γ 0 0 116 s12 97 [some (.ref (ad o 65)), none] [.int x11]) (by
            intro x11 s12 h hR
            refine g_istore_1 (pc := 97) X dX12_term_97 (by decide) rfl ?_
            refine g_iload_1 (pc := 98) X dX12_term_98 ?_
            refine g_bipush (pc := 99) X dX12_term_99 kbipush_60 ?_
            replace h := h (fun s14 => s14.2.2 = gRf b → G o γ 0 0 116 s14 125 [some (.ref (ad o 65)), some (.int x11)] []) (by
                intro s14 h hR
                refine g_aload_0 (pc := 125) X dX12_term_125 ?_
                refine g_callV_I (pc := 126) X Y dX12_term_126 miX12_fine li_X12_226 (t_X12_fine hR  h) rfl (by decide) rfl ⟨_, rfl⟩ rfl ⟨by omega, by show 8 + (1 + 11) + 40 * 1 ≤ 40 * (d1 + 1); omega⟩ (Nat.le_of_ble_eq_true rfl) (Nat.le_of_ble_eq_true rfl) rfl (by exact Nat.le_of_ble_eq_true rfl) (fun x16 σ9 hp => ?_)
                obtain ⟨rfl, h⟩ := hp
                replace h := h (fun s17 => s17.2.2 = gRf b → G o γ 0 0 116 s17 142 [some (.ref (ad o 65)), some (.int x11)] []) (by
                    intro s17 h hR
                    refine g_aload_0 (pc := 142) X dX12_term_142 ?_
                    refine g_callV_V (pc := 143) X Y dX12_term_143 miX12_sum li_X12_260 (t_X12_sum hR  h) rfl (by decide) rfl ⟨_, rfl⟩ rfl ⟨by omega, by show 8 + (2 + 11) + 40 * 63 ≤ 40 * (d1 + 1); omega⟩ (Nat.le_of_ble_eq_true rfl) (Nat.le_of_ble_eq_true rfl) rfl (by exact Nat.le_of_ble_eq_true rfl) (fun s19 hp => ?_)
                    obtain ⟨hR, h⟩ := hp
                    refine g_aload_0 (pc := 146) X dX12_term_146 ?_
                    refine g_iload_1 (pc := 147) X dX12_term_147 ?_
                    refine g_bipush (pc := 148) X dX12_term_148 kbipush_60 ?_
                    replace h := h (fun x20 => G o γ 0 0 116 s19 171 [none, none] [.int x20, .ref (ad o 65)]) (by
                        intro x20 h
                        refine g_iconst (pc := 171) X dX12_term_171 kiconst_0 ?_
                        refine g_callV_V (pc := 172) X Y dX12_term_172 miX12_emit li_X12_254 (t_X12_emit hR  h) rfl (by decide) rfl ⟨_, rfl⟩ rfl ⟨by omega, by show 8 + (3 + 11) + 40 * 2 ≤ 40 * (d1 + 1); omega⟩ (Nat.le_of_ble_eq_true rfl) (Nat.le_of_ble_eq_true rfl) rfl (by exact Nat.le_of_ble_eq_true rfl) (fun s22 hp => ?_)
                        obtain ⟨hR, h⟩ := hp
                        exact g_return (pc := 175) X Y dX12_term_175 (Nat.le_of_ble_eq_true rfl) (Nat.le_of_ble_eq_true rfl) ⟨rfl, hR, h⟩)
                    refine g_icmp_ne (pc := 150) X dX12_term_150 (tgt := 158) (by decide) (fun q23 => ?_) (fun q23 => ?_)
                    · replace h := h.2 q23
                      refine g_iload_1 (pc := 158) X dX12_term_158 ?_
                      refine g_bipush (pc := 159) X dX12_term_159 kbipush_62 ?_
                      refine g_icmp_ne (pc := 161) X dX12_term_161 (tgt := 169) (by decide) (fun q24 => ?_) (fun q24 => ?_)
                      · replace h := h.2 q24
                        refine g_bipush (pc := 169) X dX12_term_169 kbipush_15 ?_
                        exact g_drop (by simp [lsub]) (h)
                      · replace h := h.1 q24
                        refine g_bipush (pc := 164) X dX12_term_164 kbipush_14 ?_
                        refine g_goto (pc := 166) X dX12_term_166 (tgt := 171) (by decide) ?_
                        exact g_drop (by simp [lsub]) (h)
                    · replace h := h.1 q23
                      refine g_bipush (pc := 153) X dX12_term_153 kbipush_13 ?_
                      refine g_goto (pc := 155) X dX12_term_155 (tgt := 171) (by decide) ?_
                      exact g_drop (by simp [lsub]) (h))
                refine g_if_eq (pc := 129) X dX12_term_129 (tgt := 142) (by decide) (fun q25 => ?_) (fun q25 => ?_)
                · replace h := h.1 q25
                  exact h hR
                · replace h := h.2 q25
                  refine g_aload_0 (pc := 132) X dX12_term_132 ?_
                  refine g_dup (pc := 133) X dX12_term_133 rfl ?_
                  refine g_getI (pc := 134) X dX12_term_134 rfl (by decide) fl_X12_206 (Or.inl rfl) ?_
                  refine g_iconst (pc := 137) X dX12_term_137 kiconst_1 ?_
                  refine g_iadd (pc := 138) X dX12_term_138 ?_
                  refine g_putI_w (pc := 139) X dX12_term_139 fl_X12_206 rfl (by decide) rfl rfl hR h (fun s26 hR h => ?_)
                  exact h hR)
            refine g_icmp_eq (pc := 101) X dX12_term_101 (tgt := 125) (by decide) (fun q27 => ?_) (fun q27 => ?_)
            · replace h := h.1 q27
              exact h hR
            · replace h := h.2 q27
              refine g_iload_1 (pc := 104) X dX12_term_104 ?_
              refine g_bipush (pc := 105) X dX12_term_105 kbipush_62 ?_
              refine g_icmp_eq (pc := 107) X dX12_term_107 (tgt := 125) (by decide) (fun q28 => ?_) (fun q28 => ?_)
              · replace h := h.1 q28
                exact h hR
              · replace h := h.2 q28
                refine g_iload_1 (pc := 110) X dX12_term_110 ?_
                refine g_bipush (pc := 111) X dX12_term_111 kbipush_61 ?_
                refine g_icmp_eq (pc := 113) X dX12_term_113 (tgt := 125) (by decide) (fun q29 => ?_) (fun q29 => ?_)
                · replace h := h.1 q29
                  exact h hR
                · replace h := h.2 q29
                  refine g_aload_0 (pc := 116) X dX12_term_116 ?_
                  refine g_iconst (pc := 117) X dX12_term_117 kiconst_1 ?_
                  refine g_aload_0 (pc := 118) X dX12_term_118 ?_
                  refine g_getI (pc := 119) X dX12_term_119 rfl (by decide) fl_X12_206 (Or.inl rfl) ?_
                  refine g_callV_V (pc := 122) X Y dX12_term_122 miX12_wrong li_X12_222 (t_X12_wrong hR  h) rfl (by decide) rfl ⟨_, rfl⟩ rfl ⟨by omega, by show 8 + (3 + 11) + 40 * 1 ≤ 40 * (d1 + 1); omega⟩ (Nat.le_of_ble_eq_true rfl) (Nat.le_of_ble_eq_true rfl) rfl (by exact Nat.le_of_ble_eq_true rfl) (fun s30 hp => ?_)
                  obtain ⟨hR, h⟩ := hp
                  exact h hR)
        refine g_if_eq (pc := 86) X dX12_term_86 (tgt := 96) (by decide) (fun q31 => ?_) (fun q31 => ?_)
        · replace h := h.1 q31
          refine g_iconst (pc := 96) X dX12_term_96 kiconst_0 ?_
          exact h hR
        · replace h := h.2 q31
          refine g_aload_0 (pc := 89) X dX12_term_89 ?_
          refine g_callV_I (pc := 90) X Y dX12_term_90 miX12_here li_X12_212 (t_X12_here hR  h) rfl (by decide) rfl ⟨_, rfl⟩ rfl ⟨by omega, by show 8 + (1 + 11) + 40 * 1 ≤ 40 * (d1 + 1); omega⟩ (Nat.le_of_ble_eq_true rfl) (Nat.le_of_ble_eq_true rfl) rfl (by exact Nat.le_of_ble_eq_true rfl) (fun x32 s33 hp => ?_)
          obtain ⟨hR, h⟩ := hp
          refine g_goto (pc := 93) X dX12_term_93 (tgt := 97) (by decide) ?_
          exact h hR
      · replace h := h.1 q8
        refine g_aload_0 (pc := 48) X dX12_term_48 ?_
        refine g_iconst (pc := 49) X dX12_term_49 kiconst_0 ?_
        refine g_iconst (pc := 50) X dX12_term_50 kiconst_3 ?_
        refine g_callV_V (pc := 51) X Y dX12_term_51 miX12_opensAt li_X12_257 (t_X12_opensAt hR  h) rfl (by decide) rfl ⟨_, rfl⟩ rfl ⟨by omega, by show 8 + (3 + 11) + 40 * 2 ≤ 40 * (d1 + 1); omega⟩ (Nat.le_of_ble_eq_true rfl) (Nat.le_of_ble_eq_true rfl) rfl (by exact Nat.le_of_ble_eq_true rfl) (fun s34 hp => ?_)
        obtain ⟨hR, h⟩ := hp
        refine g_aload_0 (pc := 54) X dX12_term_54 ?_
        refine g_callV_V (pc := 55) X Y dX12_term_55 miX12_term li_X12_291 (hR_X12_term hR  h) rfl (by decide) rfl ⟨_, rfl⟩ rfl ⟨by omega, by show 8 + (2 + 11) + 40 * d1 ≤ 40 * (d1 + 1); omega⟩ (Nat.le_of_ble_eq_true rfl) (Nat.le_of_ble_eq_true rfl) rfl (by exact Nat.le_of_ble_eq_true rfl) (fun s35 hp => ?_)
        obtain ⟨hR, h⟩ := hp
        refine g_aload_0 (pc := 58) X dX12_term_58 ?_
        refine g_dup (pc := 59) X dX12_term_59 rfl ?_
        refine g_getI (pc := 60) X dX12_term_60 rfl (by decide) fl_X12_233 (Or.inl rfl) ?_
        refine g_iconst (pc := 63) X dX12_term_63 kiconst_1 ?_
        refine g_isub (pc := 64) X dX12_term_64 ?_
        refine g_putI_w (pc := 65) X dX12_term_65 fl_X12_233 rfl (by decide) rfl rfl hR h (fun s36 hR h => ?_)
        refine g_aload_0 (pc := 68) X dX12_term_68 ?_
        refine g_bipush (pc := 69) X dX12_term_69 kbipush_18 ?_
        refine g_iconst (pc := 71) X dX12_term_71 kiconst_0 ?_
        refine g_callV_V (pc := 72) X Y dX12_term_72 miX12_emit li_X12_254 (t_X12_emit hR  h) rfl (by decide) rfl ⟨_, rfl⟩ rfl ⟨by omega, by show 8 + (3 + 11) + 40 * 2 ≤ 40 * (d1 + 1); omega⟩ (Nat.le_of_ble_eq_true rfl) (Nat.le_of_ble_eq_true rfl) rfl (by exact Nat.le_of_ble_eq_true rfl) (fun s37 hp => ?_)
        obtain ⟨hR, h⟩ := hp
        refine g_goto (pc := 75) X dX12_term_75 (tgt := 175) (by decide) ?_
        exact g_return (pc := 175) X Y dX12_term_175 (Nat.le_of_ble_eq_true rfl) (Nat.le_of_ble_eq_true rfl) ⟨rfl, hR, h⟩
    · replace h := h.1 q5
      refine g_aload_0 (pc := 17) X dX12_term_17 ?_
      refine g_bipush (pc := 18) X dX12_term_18 kbipush_91 ?_
      refine g_iconst (pc := 20) X dX12_term_20 kiconst_1 ?_
      refine g_callV_V (pc := 21) X Y dX12_term_21 miX12_opensAt li_X12_257 (t_X12_opensAt hR  h) rfl (by decide) rfl ⟨_, rfl⟩ rfl ⟨by omega, by show 8 + (3 + 11) + 40 * 2 ≤ 40 * (d1 + 1); omega⟩ (Nat.le_of_ble_eq_true rfl) (Nat.le_of_ble_eq_true rfl) rfl (by exact Nat.le_of_ble_eq_true rfl) (fun s38 hp => ?_)
      obtain ⟨hR, h⟩ := hp
      refine g_aload_0 (pc := 24) X dX12_term_24 ?_
      refine g_callV_V (pc := 25) X Y dX12_term_25 miX12_anyOf li_X12_296 (hR_X12_anyOf hR  h) rfl (by decide) rfl ⟨_, rfl⟩ rfl ⟨by omega, by show 8 + (1 + 11) + 40 * d1 ≤ 40 * (d1 + 1); omega⟩ (Nat.le_of_ble_eq_true rfl) (Nat.le_of_ble_eq_true rfl) rfl (by exact Nat.le_of_ble_eq_true rfl) (fun s39 hp => ?_)
      obtain ⟨hR, h⟩ := hp
      refine g_aload_0 (pc := 28) X dX12_term_28 ?_
      refine g_bipush (pc := 29) X dX12_term_29 kbipush_93 ?_
      refine g_callV_V (pc := 31) X Y dX12_term_31 miX12_closesAt li_X12_263 (t_X12_closesAt hR  h) rfl (by decide) rfl ⟨_, rfl⟩ rfl ⟨by omega, by show 8 + (2 + 11) + 40 * 3 ≤ 40 * (d1 + 1); omega⟩ (Nat.le_of_ble_eq_true rfl) (Nat.le_of_ble_eq_true rfl) rfl (by exact Nat.le_of_ble_eq_true rfl) (fun s40 hp => ?_)
      obtain ⟨hR, h⟩ := hp
      refine g_goto (pc := 34) X dX12_term_34 (tgt := 175) (by decide) ?_
      exact g_return (pc := 175) X Y dX12_term_175 (Nat.le_of_ble_eq_true rfl) (Nat.le_of_ble_eq_true rfl) ⟨rfl, hR, h⟩
  · replace h := h.1 q2
    exact g_return (pc := 7) X Y dX12_term_7 (Nat.le_of_ble_eq_true rfl) (Nat.le_of_ble_eq_true rfl) ⟨rfl, hR, h⟩
def WR_X12_allOf : Nat → ((gSt → Prop) → gSt → Prop) × ((gSt → Prop) → gSt → Prop) × ((gSt → Prop) → gSt → Prop)
  | 0 => ((fun _ _ => False), (fun _ _ => False), (fun _ _ => False))
  | n + 1 => (S_X12_allOf ((WR_X12_allOf n).1) ((WR_X12_allOf n).2.1) ((WR_X12_allOf n).2.2), S_X12_anyOf ((WR_X12_allOf n).1) ((WR_X12_allOf n).2.1) ((WR_X12_allOf n).2.2), S_X12_term ((WR_X12_allOf n).1) ((WR_X12_allOf n).2.1) ((WR_X12_allOf n).2.2))
theorem tr_X12_allOf {o : gOm} {l : Launch} {b : Bool} : ∀ n : Nat, (∀ {σ : gSt} (_ : σ.2.2 = gRf b)  {Q : gSt → Prop} (_ : (WR_X12_allOf n).1  Q σ), Sp o l mX12_allOf (63 + n) 0 0 [.ref (ad o 65)] 116 116 σ (pV (fun s => s.2.2 = gRf b ∧ Q s))) ∧ (∀ {σ : gSt} (_ : σ.2.2 = gRf b)  {Q : gSt → Prop} (_ : (WR_X12_allOf n).2.1  Q σ), Sp o l mX12_anyOf (63 + n) 0 0 [.ref (ad o 65)] 116 116 σ (pV (fun s => s.2.2 = gRf b ∧ Q s))) ∧ (∀ {σ : gSt} (_ : σ.2.2 = gRf b)  {Q : gSt → Prop} (_ : (WR_X12_allOf n).2.2  Q σ), Sp o l mX12_term (63 + n) 0 0 [.ref (ad o 65)] 116 116 σ (pV (fun s => s.2.2 = gRf b ∧ Q s)))
  | 0 => ⟨fun {_} _ {_} h => False.elim h, fun {_} _ {_} h => False.elim h, fun {_} _ {_} h => False.elim h⟩
  | n + 1 => ⟨fun {_} hR {_} h => ts_X12_allOf (d1 := 63 + n) ((tr_X12_allOf (o := o) (l := l) (b := b) n).1) ((tr_X12_allOf (o := o) (l := l) (b := b) n).2.1) ((tr_X12_allOf (o := o) (l := l) (b := b) n).2.2) (by omega) hR h, fun {_} hR {_} h => ts_X12_anyOf (d1 := 63 + n) ((tr_X12_allOf (o := o) (l := l) (b := b) n).1) ((tr_X12_allOf (o := o) (l := l) (b := b) n).2.1) ((tr_X12_allOf (o := o) (l := l) (b := b) n).2.2) (by omega) hR h, fun {_} hR {_} h => ts_X12_term (d1 := 63 + n) ((tr_X12_allOf (o := o) (l := l) (b := b) n).1) ((tr_X12_allOf (o := o) (l := l) (b := b) n).2.1) ((tr_X12_allOf (o := o) (l := l) (b := b) n).2.2) (by omega) hR h⟩
def W_X12_allOf  (Q : gSt → Prop) (σ : gSt) : Prop := (WR_X12_allOf 60).1  Q σ
theorem t_X12_allOf {o : gOm} {l : Launch} {b : Bool} {σ : gSt} (hR : σ.2.2 = gRf b)  {Q : gSt → Prop} (h : W_X12_allOf  Q σ) : Sp o l mX12_allOf 123 0 0 [.ref (ad o 65)] 116 116 σ (pV (fun s => s.2.2 = gRf b ∧ Q s)) := (tr_X12_allOf (o := o) (l := l) (b := b) 60).1 hR h
def W_X12_anyOf  (Q : gSt → Prop) (σ : gSt) : Prop := (WR_X12_allOf 60).2.1  Q σ
theorem t_X12_anyOf {o : gOm} {l : Launch} {b : Bool} {σ : gSt} (hR : σ.2.2 = gRf b)  {Q : gSt → Prop} (h : W_X12_anyOf  Q σ) : Sp o l mX12_anyOf 123 0 0 [.ref (ad o 65)] 116 116 σ (pV (fun s => s.2.2 = gRf b ∧ Q s)) := (tr_X12_allOf (o := o) (l := l) (b := b) 60).2.1 hR h
def W_X12_term  (Q : gSt → Prop) (σ : gSt) : Prop := (WR_X12_allOf 60).2.2  Q σ
theorem t_X12_term {o : gOm} {l : Launch} {b : Bool} {σ : gSt} (hR : σ.2.2 = gRf b)  {Q : gSt → Prop} (h : W_X12_term  Q σ) : Sp o l mX12_term 123 0 0 [.ref (ad o 65)] 116 116 σ (pV (fun s => s.2.2 = gRf b ∧ Q s)) := (tr_X12_allOf (o := o) (l := l) (b := b) 60).2.2 hR h
def W_X12_readClause  (Q : gSt → Prop) (σ : gSt) : Prop := W_X12_word (fun x1 s2 => ∀ J4 : Int32 → Prop, (∀ x3, (∀ J6 : gSt → Prop, (∀ s5, (W_X12_fine (fun x7 => ((x7 = 0 → (Q s5)) ∧ (¬ x7 = 0 → (W_X12_pass (fun s9 => fI s9 65 17 ((s9.1 65 17) + (nI 1)) (fun s10 => wI s10 80 16 (s9.1 65 17) x3 (fun s11 => wI s11 81 16 (s9.1 65 17) (s11.1 65 15) (fun s12 => ∀ J14 : gSt → Prop, (∀ s13, (wI s13 82 16 (s9.1 65 17) (s13.1 65 15) (fun s15 => W_X12_fine (fun x16 => ∀ J19 : Int32 → gSt → Prop, (∀ x17 s18, (W_X12_fine (fun x20 => ∀ J22 : gSt → Prop, (∀ s21, (W_X12_fine (fun x23 => ∀ J25 : gSt → Prop, (∀ s24, (wI s24 83 16 (s9.1 65 17) (s24.1 65 15) (fun s26 => W_X12_need (nI 59) (fun s27 => Q s27) s26)) → J25 s24) → ((x23 = 0 → (J25 s21)) ∧ (¬ x23 = 0 → (((x17 = 0 → (J25 s21)) ∧ (¬ x17 = 0 → (W_X12_pass (fun s30 => W_X12_anyOf (fun s31 => J25 s31) s30) s21))))))) s21) → J22 s21) → ((x20 = 0 → (J22 s18)) ∧ (¬ x20 = 0 → (((x17 = 0 → (((x3 < (nI 2) → (J22 s18)) ∧ (¬ x3 < (nI 2) → (W_X12_wrong (nI 1) (s18.1 65 11) (fun s35 => J22 s35) s18))))) ∧ (¬ x17 = 0 → (J22 s18))))))) s18) → J19 x17 s18) → ∀ J37 : gSt → Prop, (∀ s36, (J19 (nI 0) s36) → J37 s36) → ((x16 = 0 → (J37 s15)) ∧ (¬ x16 = 0 → (W_X12_word (fun x39 s40 => ((x39 = ((294 : Int64)) → (J19 (nI 1) s40)) ∧ (¬ x39 = ((294 : Int64)) → (J37 s40)))) s15)))) s15)) → J14 s13) → ∀ J42 : Prop, ((W_X12_sum (fun s43 => J14 s43) s12) → J42) → ((x3 = 0 → J42) ∧ (¬ x3 = 0 → (((x3 = (nI 1) → J42) ∧ (¬ x3 = (nI 1) → (J14 s12)))))))))) s5)))) s5) → J6 s5) → ((x3 = ((-1 : Int32)) → (W_X12_wrong (nI 1) (s2.1 65 11) (fun s49 => J6 s49) s2)) ∧ (¬ x3 = ((-1 : Int32)) → ((((s2.1 65 17) = (nI 16) → (W_X12_wrong (nI 3) (s2.1 65 11) (fun s48 => J6 s48) s2)) ∧ (¬ (s2.1 65 17) = (nI 16) → (J6 s2))))))) → J4 x3) → ((x1 = ((6642 : Int64)) → (J4 (nI 0))) ∧ (¬ x1 = ((6642 : Int64)) → (((x1 = ((1309981300 : Int64)) → (J4 (nI 1))) ∧ (¬ x1 = ((1309981300 : Int64)) → (((x1 = ((14866610 : Int64)) → (J4 (nI 2))) ∧ (¬ x1 = ((14866610 : Int64)) → (((x1 = ((409067 : Int64)) → (J4 (nI 3))) ∧ (¬ x1 = ((409067 : Int64)) → (J4 ((-1 : Int32))))))))))))))) σ
set_option maxHeartbeats 4000000 in
theorem t_X12_readClause {o : gOm} {l : Launch} {b : Bool}   {σ : gSt} (hR : σ.2.2 = gRf b)  {Q : gSt → Prop} (h : W_X12_readClause  Q σ) : Sp o l mX12_readClause 124 0 0 [.ref (ad o 65)] 116 116 σ (pV (fun s => s.2.2 = gRf b ∧ Q s)) := by
  unfold W_X12_readClause at h
  refine Sp.of (ls0 := [some (.ref (ad o 65)), none, none, none, none, none]) miX12_readClause rfl (Nat.le_of_ble_eq_true rfl) rfl (fun γ hγ hnm X Y => ?_)
  subst hγ
  have X : gX o γ cX12_readClause 6 RX12 := X
  refine g_aload_0 (pc := 0) X dX12_readClause_0 ?_
  refine g_callV_L (pc := 1) X Y dX12_readClause_1 miX12_word li_X12_266 (t_X12_word hR  h) rfl (by decide) rfl ⟨_, rfl⟩ rfl ⟨Nat.le_of_ble_eq_true rfl, Nat.le_of_ble_eq_true rfl⟩ (Nat.le_of_ble_eq_true rfl) (Nat.le_of_ble_eq_true rfl) rfl (by exact Nat.le_of_ble_eq_true rfl) (fun x1 s2 hp => ?_)
  obtain ⟨hR, h⟩ := hp
  refine g_lstore_1 (pc := 4) X dX12_readClause_4 (by decide) rfl ?_
  refine g_lload_1 (pc := 5) X dX12_readClause_5 ?_
  refine g_ldc2 (pc := 6) X dX12_readClause_6 ct_X12_301 ?_
  replace h := h (fun x3 => G o γ 0 0 116 s2 54 [some (.ref (ad o 65)), none, none, none, none, none] [.int x3]) (by
      intro x3 h
      refine g_istore_3 (pc := 54) X dX12_readClause_54 (by decide) rfl ?_
      refine g_iload_3 (pc := 55) X dX12_readClause_55 ?_
      refine g_iconst (pc := 56) X dX12_readClause_56 kiconst_m1 ?_
      replace h := h (fun s5 => s5.2.2 = gRf b → G o γ 0 0 116 s5 90 [some (.ref (ad o 65)), none, none, some (.int x3), none, none] []) (by
          intro s5 h hR
          refine g_aload_0 (pc := 90) X dX12_readClause_90 ?_
          refine g_callV_I (pc := 91) X Y dX12_readClause_91 miX12_fine li_X12_226 (t_X12_fine hR  h) rfl (by decide) rfl ⟨_, rfl⟩ rfl ⟨Nat.le_of_ble_eq_true rfl, Nat.le_of_ble_eq_true rfl⟩ (Nat.le_of_ble_eq_true rfl) (Nat.le_of_ble_eq_true rfl) rfl (by exact Nat.le_of_ble_eq_true rfl) (fun x7 σ9 hp => ?_)
          obtain ⟨rfl, h⟩ := hp
          refine g_if_ne (pc := 94) X dX12_readClause_94 (tgt := 98) (by decide) (fun q8 => ?_) (fun q8 => ?_)
          · replace h := h.2 q8
            refine g_aload_0 (pc := 98) X dX12_readClause_98 ?_
            refine g_callV_V (pc := 99) X Y dX12_readClause_99 miX12_pass li_X12_274 (t_X12_pass hR  h) rfl (by decide) rfl ⟨_, rfl⟩ rfl ⟨Nat.le_of_ble_eq_true rfl, Nat.le_of_ble_eq_true rfl⟩ (Nat.le_of_ble_eq_true rfl) (Nat.le_of_ble_eq_true rfl) rfl (by exact Nat.le_of_ble_eq_true rfl) (fun s9 hp => ?_)
            obtain ⟨hR, h⟩ := hp
            refine g_aload_0 (pc := 102) X dX12_readClause_102 ?_
            refine g_getI (pc := 103) X dX12_readClause_103 rfl (by decide) fl_X12_309 (Or.inl rfl) ?_
            refine g_istore_4 (pc := 106) X dX12_readClause_106 (by decide) rfl ?_
            refine g_aload_0 (pc := 108) X dX12_readClause_108 ?_
            refine g_dup (pc := 109) X dX12_readClause_109 rfl ?_
            refine g_getI (pc := 110) X dX12_readClause_110 rfl (by decide) fl_X12_309 (Or.inl rfl) ?_
            refine g_iconst (pc := 113) X dX12_readClause_113 kiconst_1 ?_
            refine g_iadd (pc := 114) X dX12_readClause_114 ?_
            refine g_putI_w (pc := 115) X dX12_readClause_115 fl_X12_309 rfl (by decide) rfl rfl hR h (fun s10 hR h => ?_)
            refine g_aload_0 (pc := 118) X dX12_readClause_118 ?_
            refine g_getRf (pc := 119) X dX12_readClause_119 fl_X12_59 rfl (by decide) rfl hR rfl ?_
            refine g_iload_4 (pc := 122) X dX12_readClause_122 ?_
            refine g_iload_3 (pc := 124) X dX12_readClause_124 ?_
            refine g_iastore_w (pc := 125) X dX12_readClause_125 rfl (by decide) hR h (fun s11 hR h => ?_)
            refine g_aload_0 (pc := 126) X dX12_readClause_126 ?_
            refine g_getRf (pc := 127) X dX12_readClause_127 fl_X12_62 rfl (by decide) rfl hR rfl ?_
            refine g_iload_4 (pc := 130) X dX12_readClause_130 ?_
            refine g_aload_0 (pc := 132) X dX12_readClause_132 ?_
            refine g_getI (pc := 133) X dX12_readClause_133 rfl (by decide) fl_X12_230 (Or.inl rfl) ?_
            refine g_iastore_w (pc := 136) X dX12_readClause_136 rfl (by decide) hR h (fun s12 hR h => ?_)
            refine g_iload_3 (pc := 137) X dX12_readClause_137 ?_
            replace h := h (fun s13 => s13.2.2 = gRf b → G o γ 0 0 116 s13 150 [some (.ref (ad o 65)), none, none, some (.int x3), some (.int (s9.1 65 17)), none] []) (by
                intro s13 h hR
                refine g_aload_0 (pc := 150) X dX12_readClause_150 ?_
                refine g_getRf (pc := 151) X dX12_readClause_151 fl_X12_65 rfl (by decide) rfl hR rfl ?_
                refine g_iload_4 (pc := 154) X dX12_readClause_154 ?_
                refine g_aload_0 (pc := 156) X dX12_readClause_156 ?_
                refine g_getI (pc := 157) X dX12_readClause_157 rfl (by decide) fl_X12_230 (Or.inl rfl) ?_
                refine g_iastore_w (pc := 160) X dX12_readClause_160 rfl (by decide) hR h (fun s15 hR h => ?_)
                refine g_aload_0 (pc := 161) X dX12_readClause_161 ?_
                refine g_callV_I (pc := 162) X Y dX12_readClause_162 miX12_fine li_X12_226 (t_X12_fine hR  h) rfl (by decide) rfl ⟨_, rfl⟩ rfl ⟨Nat.le_of_ble_eq_true rfl, Nat.le_of_ble_eq_true rfl⟩ (Nat.le_of_ble_eq_true rfl) (Nat.le_of_ble_eq_true rfl) rfl (by exact Nat.le_of_ble_eq_true rfl) (fun x16 σ9 hp => ?_)
                obtain ⟨rfl, h⟩ := hp
                replace h := h (fun x17 s18 => s18.2.2 = gRf b → G o γ 0 0 116 s18 184 [some (.ref (ad o 65)), none, none, some (.int x3), some (.int (s9.1 65 17)), none] [.int x17]) (by
                    intro x17 s18 h hR
                    refine g_istore_5 (pc := 184) X dX12_readClause_184 (by decide) rfl ?_
                    refine g_aload_0 (pc := 186) X dX12_readClause_186 ?_
                    refine g_callV_I (pc := 187) X Y dX12_readClause_187 miX12_fine li_X12_226 (t_X12_fine hR  h) rfl (by decide) rfl ⟨_, rfl⟩ rfl ⟨Nat.le_of_ble_eq_true rfl, Nat.le_of_ble_eq_true rfl⟩ (Nat.le_of_ble_eq_true rfl) (Nat.le_of_ble_eq_true rfl) rfl (by exact Nat.le_of_ble_eq_true rfl) (fun x20 σ9 hp => ?_)
                    obtain ⟨rfl, h⟩ := hp
                    replace h := h (fun s21 => s21.2.2 = gRf b → G o γ 0 0 116 s21 212 [some (.ref (ad o 65)), none, none, none, some (.int (s9.1 65 17)), some (.int x17)] []) (by
                        intro s21 h hR
                        refine g_aload_0 (pc := 212) X dX12_readClause_212 ?_
                        refine g_callV_I (pc := 213) X Y dX12_readClause_213 miX12_fine li_X12_226 (t_X12_fine hR  h) rfl (by decide) rfl ⟨_, rfl⟩ rfl ⟨Nat.le_of_ble_eq_true rfl, Nat.le_of_ble_eq_true rfl⟩ (Nat.le_of_ble_eq_true rfl) (Nat.le_of_ble_eq_true rfl) rfl (by exact Nat.le_of_ble_eq_true rfl) (fun x23 σ9 hp => ?_)
                        obtain ⟨rfl, h⟩ := hp
                        replace h := h (fun s24 => s24.2.2 = gRf b → G o γ 0 0 116 s24 232 [some (.ref (ad o 65)), none, none, none, some (.int (s9.1 65 17)), none] []) (by
                            intro s24 h hR
                            refine g_aload_0 (pc := 232) X dX12_readClause_232 ?_
                            refine g_getRf (pc := 233) X dX12_readClause_233 fl_X12_68 rfl (by decide) rfl hR rfl ?_
                            refine g_iload_4 (pc := 236) X dX12_readClause_236 ?_
                            refine g_aload_0 (pc := 238) X dX12_readClause_238 ?_
                            refine g_getI (pc := 239) X dX12_readClause_239 rfl (by decide) fl_X12_230 (Or.inl rfl) ?_
                            refine g_iastore_w (pc := 242) X dX12_readClause_242 rfl (by decide) hR h (fun s26 hR h => ?_)
                            refine g_aload_0 (pc := 243) X dX12_readClause_243 ?_
                            refine g_bipush (pc := 244) X dX12_readClause_244 kbipush_59 ?_
                            refine g_callV_V (pc := 246) X Y dX12_readClause_246 miX12_need li_X12_236 (t_X12_need hR  h) rfl (by decide) rfl ⟨_, rfl⟩ rfl ⟨Nat.le_of_ble_eq_true rfl, Nat.le_of_ble_eq_true rfl⟩ (Nat.le_of_ble_eq_true rfl) (Nat.le_of_ble_eq_true rfl) rfl (by exact Nat.le_of_ble_eq_true rfl) (fun s27 hp => ?_)
                            obtain ⟨hR, h⟩ := hp
                            exact g_return (pc := 249) X Y dX12_readClause_249 (Nat.le_of_ble_eq_true rfl) (Nat.le_of_ble_eq_true rfl) ⟨rfl, hR, h⟩)
                        refine g_if_eq (pc := 216) X dX12_readClause_216 (tgt := 232) (by decide) (fun q28 => ?_) (fun q28 => ?_)
                        · replace h := h.1 q28
                          exact g_drop (by simp [lsub]) (h hR)
                        · replace h := h.2 q28
                          refine g_iload_5 (pc := 219) X dX12_readClause_219 ?_
                          refine g_if_eq (pc := 221) X dX12_readClause_221 (tgt := 232) (by decide) (fun q29 => ?_) (fun q29 => ?_)
                          · replace h := h.1 q29
                            exact g_drop (by simp [lsub]) (h hR)
                          · replace h := h.2 q29
                            refine g_aload_0 (pc := 224) X dX12_readClause_224 ?_
                            refine g_callV_V (pc := 225) X Y dX12_readClause_225 miX12_pass li_X12_274 (t_X12_pass hR  h) rfl (by decide) rfl ⟨_, rfl⟩ rfl ⟨Nat.le_of_ble_eq_true rfl, Nat.le_of_ble_eq_true rfl⟩ (Nat.le_of_ble_eq_true rfl) (Nat.le_of_ble_eq_true rfl) rfl (by exact Nat.le_of_ble_eq_true rfl) (fun s30 hp => ?_)
                            obtain ⟨hR, h⟩ := hp
                            refine g_aload_0 (pc := 228) X dX12_readClause_228 ?_
                            refine g_callV_V (pc := 229) X Y dX12_readClause_229 miX12_anyOf li_X12_296 (t_X12_anyOf hR  h) rfl (by decide) rfl ⟨_, rfl⟩ rfl ⟨Nat.le_of_ble_eq_true rfl, Nat.le_of_ble_eq_true rfl⟩ (Nat.le_of_ble_eq_true rfl) (Nat.le_of_ble_eq_true rfl) rfl (by exact Nat.le_of_ble_eq_true rfl) (fun s31 hp => ?_)
                            obtain ⟨hR, h⟩ := hp
                            exact g_drop (by simp [lsub]) (h hR))
                    refine g_if_eq (pc := 190) X dX12_readClause_190 (tgt := 212) (by decide) (fun q32 => ?_) (fun q32 => ?_)
                    · replace h := h.1 q32
                      exact g_drop (by simp [lsub]) (h hR)
                    · replace h := h.2 q32
                      refine g_iload_5 (pc := 193) X dX12_readClause_193 ?_
                      refine g_if_ne (pc := 195) X dX12_readClause_195 (tgt := 212) (by decide) (fun q33 => ?_) (fun q33 => ?_)
                      · replace h := h.2 q33
                        exact g_drop (by simp [lsub]) (h hR)
                      · replace h := h.1 q33
                        refine g_iload_3 (pc := 198) X dX12_readClause_198 ?_
                        refine g_iconst (pc := 199) X dX12_readClause_199 kiconst_2 ?_
                        refine g_icmp_lt (pc := 200) X dX12_readClause_200 (tgt := 212) (by decide) (fun q34 => ?_) (fun q34 => ?_)
                        · replace h := h.1 q34
                          exact g_drop (by simp [lsub]) (h hR)
                        · replace h := h.2 q34
                          refine g_aload_0 (pc := 203) X dX12_readClause_203 ?_
                          refine g_iconst (pc := 204) X dX12_readClause_204 kiconst_1 ?_
                          refine g_aload_0 (pc := 205) X dX12_readClause_205 ?_
                          refine g_getI (pc := 206) X dX12_readClause_206 rfl (by decide) fl_X12_206 (Or.inl rfl) ?_
                          refine g_callV_V (pc := 209) X Y dX12_readClause_209 miX12_wrong li_X12_222 (t_X12_wrong hR  h) rfl (by decide) rfl ⟨_, rfl⟩ rfl ⟨Nat.le_of_ble_eq_true rfl, Nat.le_of_ble_eq_true rfl⟩ (Nat.le_of_ble_eq_true rfl) (Nat.le_of_ble_eq_true rfl) rfl (by exact Nat.le_of_ble_eq_true rfl) (fun s35 hp => ?_)
                          obtain ⟨hR, h⟩ := hp
                          exact g_drop (by simp [lsub]) (h hR))
                replace h := h (fun s36 => s36.2.2 = gRf b → G o γ 0 0 116 s36 183 [some (.ref (ad o 65)), none, none, some (.int x3), some (.int (s9.1 65 17)), none] []) (by
                    intro s36 h hR
                    refine g_iconst (pc := 183) X dX12_readClause_183 kiconst_0 ?_
                    exact h hR)
                refine g_if_eq (pc := 165) X dX12_readClause_165 (tgt := 183) (by decide) (fun q38 => ?_) (fun q38 => ?_)
                · replace h := h.1 q38
                  exact h hR
                · replace h := h.2 q38
                  refine g_aload_0 (pc := 168) X dX12_readClause_168 ?_
                  refine g_callV_L (pc := 169) X Y dX12_readClause_169 miX12_word li_X12_266 (t_X12_word hR  h) rfl (by decide) rfl ⟨_, rfl⟩ rfl ⟨Nat.le_of_ble_eq_true rfl, Nat.le_of_ble_eq_true rfl⟩ (Nat.le_of_ble_eq_true rfl) (Nat.le_of_ble_eq_true rfl) rfl (by exact Nat.le_of_ble_eq_true rfl) (fun x39 s40 hp => ?_)
                  obtain ⟨hR, h⟩ := hp
                  refine g_ldc2 (pc := 172) X dX12_readClause_172 ct_X12_312 ?_
                  refine g_lcmp_ne (pc := 175) X dX12_readClause_175 dX12_readClause_176 (tgt := 183) (by decide) (fun q41 => ?_) (fun q41 => ?_)
                  · replace h := h.2 q41
                    exact h hR
                  · replace h := h.1 q41
                    refine g_iconst (pc := 179) X dX12_readClause_179 kiconst_1 ?_
                    refine g_goto (pc := 180) X dX12_readClause_180 (tgt := 184) (by decide) ?_
                    exact h hR)
            replace h := h (G o γ 0 0 116 s12 146 [some (.ref (ad o 65)), none, none, some (.int x3), some (.int (s9.1 65 17)), none] []) (by
                intro  h
                refine g_aload_0 (pc := 146) X dX12_readClause_146 ?_
                refine g_callV_V (pc := 147) X Y dX12_readClause_147 miX12_sum li_X12_260 (t_X12_sum hR  h) rfl (by decide) rfl ⟨_, rfl⟩ rfl ⟨Nat.le_of_ble_eq_true rfl, Nat.le_of_ble_eq_true rfl⟩ (Nat.le_of_ble_eq_true rfl) (Nat.le_of_ble_eq_true rfl) rfl (by exact Nat.le_of_ble_eq_true rfl) (fun s43 hp => ?_)
                obtain ⟨hR, h⟩ := hp
                exact h hR)
            refine g_if_eq (pc := 138) X dX12_readClause_138 (tgt := 146) (by decide) (fun q44 => ?_) (fun q44 => ?_)
            · replace h := h.1 q44
              exact h
            · replace h := h.2 q44
              refine g_iload_3 (pc := 141) X dX12_readClause_141 ?_
              refine g_iconst (pc := 142) X dX12_readClause_142 kiconst_1 ?_
              refine g_icmp_ne (pc := 143) X dX12_readClause_143 (tgt := 150) (by decide) (fun q45 => ?_) (fun q45 => ?_)
              · replace h := h.2 q45
                exact h hR
              · replace h := h.1 q45
                exact h
          · replace h := h.1 q8
            exact g_return (pc := 97) X Y dX12_readClause_97 (Nat.le_of_ble_eq_true rfl) (Nat.le_of_ble_eq_true rfl) ⟨rfl, hR, h⟩)
      refine g_icmp_ne (pc := 57) X dX12_readClause_57 (tgt := 72) (by decide) (fun q46 => ?_) (fun q46 => ?_)
      · replace h := h.2 q46
        refine g_aload_0 (pc := 72) X dX12_readClause_72 ?_
        refine g_getI (pc := 73) X dX12_readClause_73 rfl (by decide) fl_X12_309 (Or.inl rfl) ?_
        refine g_bipush (pc := 76) X dX12_readClause_76 kbipush_16 ?_
        refine g_icmp_ne (pc := 78) X dX12_readClause_78 (tgt := 90) (by decide) (fun q47 => ?_) (fun q47 => ?_)
        · replace h := h.2 q47
          exact h hR
        · replace h := h.1 q47
          refine g_aload_0 (pc := 81) X dX12_readClause_81 ?_
          refine g_iconst (pc := 82) X dX12_readClause_82 kiconst_3 ?_
          refine g_aload_0 (pc := 83) X dX12_readClause_83 ?_
          refine g_getI (pc := 84) X dX12_readClause_84 rfl (by decide) fl_X12_206 (Or.inl rfl) ?_
          refine g_callV_V (pc := 87) X Y dX12_readClause_87 miX12_wrong li_X12_222 (t_X12_wrong hR  h) rfl (by decide) rfl ⟨_, rfl⟩ rfl ⟨Nat.le_of_ble_eq_true rfl, Nat.le_of_ble_eq_true rfl⟩ (Nat.le_of_ble_eq_true rfl) (Nat.le_of_ble_eq_true rfl) rfl (by exact Nat.le_of_ble_eq_true rfl) (fun s48 hp => ?_)
          obtain ⟨hR, h⟩ := hp
          exact h hR
      · replace h := h.1 q46
        refine g_aload_0 (pc := 60) X dX12_readClause_60 ?_
        refine g_iconst (pc := 61) X dX12_readClause_61 kiconst_1 ?_
        refine g_aload_0 (pc := 62) X dX12_readClause_62 ?_
        refine g_getI (pc := 63) X dX12_readClause_63 rfl (by decide) fl_X12_206 (Or.inl rfl) ?_
        refine g_callV_V (pc := 66) X Y dX12_readClause_66 miX12_wrong li_X12_222 (t_X12_wrong hR  h) rfl (by decide) rfl ⟨_, rfl⟩ rfl ⟨Nat.le_of_ble_eq_true rfl, Nat.le_of_ble_eq_true rfl⟩ (Nat.le_of_ble_eq_true rfl) (Nat.le_of_ble_eq_true rfl) rfl (by exact Nat.le_of_ble_eq_true rfl) (fun s49 hp => ?_)
        obtain ⟨hR, h⟩ := hp
        refine g_goto (pc := 69) X dX12_readClause_69 (tgt := 90) (by decide) ?_
        exact h hR)
  refine g_lcmp_ne (pc := 9) X dX12_readClause_9 dX12_readClause_10 (tgt := 17) (by decide) (fun q50 => ?_) (fun q50 => ?_)
  · replace h := h.2 q50
    refine g_lload_1 (pc := 17) X dX12_readClause_17 ?_
    refine g_ldc2 (pc := 18) X dX12_readClause_18 ct_X12_303 ?_
    refine g_lcmp_ne (pc := 21) X dX12_readClause_21 dX12_readClause_22 (tgt := 29) (by decide) (fun q51 => ?_) (fun q51 => ?_)
    · replace h := h.2 q51
      refine g_lload_1 (pc := 29) X dX12_readClause_29 ?_
      refine g_ldc2 (pc := 30) X dX12_readClause_30 ct_X12_305 ?_
      refine g_lcmp_ne (pc := 33) X dX12_readClause_33 dX12_readClause_34 (tgt := 41) (by decide) (fun q52 => ?_) (fun q52 => ?_)
      · replace h := h.2 q52
        refine g_lload_1 (pc := 41) X dX12_readClause_41 ?_
        refine g_ldc2 (pc := 42) X dX12_readClause_42 ct_X12_307 ?_
        refine g_lcmp_ne (pc := 45) X dX12_readClause_45 dX12_readClause_46 (tgt := 53) (by decide) (fun q53 => ?_) (fun q53 => ?_)
        · replace h := h.2 q53
          refine g_iconst (pc := 53) X dX12_readClause_53 kiconst_m1 ?_
          exact g_drop (by simp [lsub]) (h)
        · replace h := h.1 q53
          refine g_iconst (pc := 49) X dX12_readClause_49 kiconst_3 ?_
          refine g_goto (pc := 50) X dX12_readClause_50 (tgt := 54) (by decide) ?_
          exact g_drop (by simp [lsub]) (h)
      · replace h := h.1 q52
        refine g_iconst (pc := 37) X dX12_readClause_37 kiconst_2 ?_
        refine g_goto (pc := 38) X dX12_readClause_38 (tgt := 54) (by decide) ?_
        exact g_drop (by simp [lsub]) (h)
    · replace h := h.1 q51
      refine g_iconst (pc := 25) X dX12_readClause_25 kiconst_1 ?_
      refine g_goto (pc := 26) X dX12_readClause_26 (tgt := 54) (by decide) ?_
      exact g_drop (by simp [lsub]) (h)
  · replace h := h.1 q50
    refine g_iconst (pc := 13) X dX12_readClause_13 kiconst_0 ?_
    refine g_goto (pc := 14) X dX12_readClause_14 (tgt := 54) (by decide) ?_
    exact g_drop (by simp [lsub]) (h)
def W_X12_isMore  (Q : Int32 → gSt → Prop) (σ : gSt) : Prop := W_X12_here (fun x1 s2 => (((s2.1 65 10) ≤ (s2.1 65 11) → (Q (nI 0) s2)) ∧ (¬ (s2.1 65 10) ≤ (s2.1 65 11) → (Q (nI 1) s2)))) σ
set_option maxHeartbeats 4000000 in
theorem t_X12_isMore {o : gOm} {l : Launch} {b : Bool}   {σ : gSt} (hR : σ.2.2 = gRf b)  {Q : Int32 → gSt → Prop} (h : W_X12_isMore  Q σ) : Sp o l mX12_isMore 2 0 0 [.ref (ad o 65)] 116 116 σ (pI (fun x s => s.2.2 = gRf b ∧ Q x s)) := by
  unfold W_X12_isMore at h
  refine Sp.of (ls0 := [some (.ref (ad o 65))]) miX12_isMore rfl (Nat.le_of_ble_eq_true rfl) rfl (fun γ hγ hnm X Y => ?_)
  subst hγ
  have X : gX o γ cX12_isMore 1 RX12 := X
  refine g_aload_0 (pc := 0) X dX12_isMore_0 ?_
  refine g_callV_I (pc := 1) X Y dX12_isMore_1 miX12_here li_X12_212 (t_X12_here hR  h) rfl (by decide) rfl ⟨_, rfl⟩ rfl ⟨Nat.le_of_ble_eq_true rfl, Nat.le_of_ble_eq_true rfl⟩ (Nat.le_of_ble_eq_true rfl) (Nat.le_of_ble_eq_true rfl) rfl (by exact Nat.le_of_ble_eq_true rfl) (fun x1 s2 hp => ?_)
  obtain ⟨hR, h⟩ := hp
  refine g_pop (pc := 4) X dX12_isMore_4 rfl ?_
  refine g_aload_0 (pc := 5) X dX12_isMore_5 ?_
  refine g_getI (pc := 6) X dX12_isMore_6 rfl (by decide) fl_X12_206 (Or.inl rfl) ?_
  refine g_aload_0 (pc := 9) X dX12_isMore_9 ?_
  refine g_getI (pc := 10) X dX12_isMore_10 rfl (by decide) fl_X12_209 (Or.inl rfl) ?_
  refine g_icmp_ge (pc := 13) X dX12_isMore_13 (tgt := 20) (by decide) (fun q3 => ?_) (fun q3 => ?_)
  · replace h := h.1 q3
    refine g_iconst (pc := 20) X dX12_isMore_20 kiconst_0 ?_
    exact g_zreturn (pc := 21) X Y dX12_isMore_21 (by first | exact Or.inl rfl | exact Or.inr rfl) (Nat.le_of_ble_eq_true rfl) (Nat.le_of_ble_eq_true rfl) ⟨_, rfl, hR, h⟩
  · replace h := h.2 q3
    refine g_iconst (pc := 16) X dX12_isMore_16 kiconst_1 ?_
    refine g_goto (pc := 17) X dX12_isMore_17 (tgt := 21) (by decide) ?_
    exact g_zreturn (pc := 21) X Y dX12_isMore_21 (by first | exact Or.inl rfl | exact Or.inr rfl) (Nat.le_of_ble_eq_true rfl) (Nat.le_of_ble_eq_true rfl) ⟨_, rfl, hR, h⟩
def L_X12_rules_72 (Q : Int32 → gSt → Prop)  (K : gSt → Prop) : Nat → gSt → Prop
  | 0, _ => False
  | n72 + 1, s15 => W_X12_fine (fun x17 => ((x17 = 0 → (K s15)) ∧ (¬ x17 = 0 → (W_X12_isMore (fun x19 s20 => ((x19 = 0 → (K s20)) ∧ (¬ x19 = 0 → (W_X12_readClause (fun s22 => L_X12_rules_72 Q K n72 s22) s20)))) s15)))) s15
def L_X12_rules_126 (Q : Int32 → gSt → Prop)  (K : gSt → Prop) : Nat → Int32 → gSt → Prop
  | 0, _, _ => False
  | n126 + 1, v29, s30 => (((s30.1 65 16) ≤ v29 → (K s30)) ∧ (¬ (s30.1 65 16) ≤ v29 → (rI s30 80 16 v29 (fun x33 => wI s30 74 16 v29 x33 (fun s34 => rI s34 81 16 v29 (fun x35 => wI s34 75 16 v29 x35 (fun s36 => rI s36 82 16 v29 (fun x37 => wI s36 76 16 v29 x37 (fun s38 => rI s38 83 16 v29 (fun x39 => wI s38 77 16 v29 x39 (fun s40 => L_X12_rules_126 Q K n126 (v29 + nI 1) s40)))))))))))
def L_X12_rules_190 (Q : Int32 → gSt → Prop)  (K : gSt → Prop) : Nat → Int32 → gSt → Prop
  | 0, _, _ => False
  | n190 + 1, v43, s44 => (((s44.1 65 15) ≤ v43 → (K s44)) ∧ (¬ (s44.1 65 15) ≤ v43 → (rI s44 84 400 v43 (fun x47 => wI s44 78 400 v43 x47 (fun s48 => rI s48 85 400 v43 (fun x49 => wI s48 79 400 v43 x49 (fun s50 => L_X12_rules_190 Q K n190 (v43 + nI 1) s50)))))))
def W_X12_rules (p0 : Int32) (Q : Int32 → gSt → Prop) (σ : gSt) : Prop := fI σ 65 0 (nI 0) (fun s1 => ∀ J3 : Int32 → Prop, (∀ x2, (W_X12_may x2 (nI 1) (fun x4 s5 => ((x4 = 0 → (Q (nI 0) s5)) ∧ (¬ x4 = 0 → (fI s5 65 9 (nI 0) (fun s7 => fI s7 65 18 ((-1 : Int32)) (fun s8 => fI s8 65 10 p0 (fun s9 => fI s9 65 11 (nI 0) (fun s10 => fI s10 65 12 ((-1 : Int32)) (fun s11 => fI s11 65 14 (nI 0) (fun s12 => fI s12 65 15 (nI 0) (fun s13 => fI s13 65 17 (nI 0) (fun s14 => ∃ m72, L_X12_rules_72 Q (fun s24 => fI s24 65 18 (s24.1 65 12) (fun s25 => W_X12_fine (fun x26 => ((x26 = 0 → (Q ((s25.1 65 13) - (nI 10)) s25)) ∧ (¬ x26 = 0 → (fI s25 65 16 (s25.1 65 17) (fun s28 => ∃ m126, L_X12_rules_126 Q (fun s42 => ∃ m190, L_X12_rules_190 Q (fun s52 => W_X12_untell (fun s53 => Q (s53.1 65 16) s53) s52) m190 (nI 0) s42) m126 (nI 0) s28))))) s25)) m72 s14)))))))))))) s1) → J3 x2) → ∀ J54 : Prop, ((J3 (nI 0)) → J54) → ((p0 < 0 → J54) ∧ (¬ p0 < 0 → ((((s1.1 65 9) < p0 → J54) ∧ (¬ (s1.1 65 9) < p0 → (J3 (nI 1))))))))
set_option maxHeartbeats 4000000 in
theorem t_X12_rules {o : gOm} {l : Launch} {b : Bool}   {σ : gSt} (hR : σ.2.2 = gRf b) {p0 : Int32} {Q : Int32 → gSt → Prop} (h : W_X12_rules p0 Q σ) : Sp o l mX12_rules 125 0 0 [.ref (ad o 65), .int p0] 116 116 σ (pI (fun x s => s.2.2 = gRf b ∧ Q x s)) := by
  unfold W_X12_rules at h
  refine Sp.of (ls0 := [some (.ref (ad o 65)), some (.int p0), none]) miX12_rules rfl (Nat.le_of_ble_eq_true rfl) rfl (fun γ hγ hnm X Y => ?_)
  subst hγ
  have X : gX o γ cX12_rules 3 RX12 := X
  refine g_aload_0 (pc := 0) X dX12_rules_0 ?_
  refine g_iconst (pc := 1) X dX12_rules_1 kiconst_0 ?_
  refine g_putI_w (pc := 2) X dX12_rules_2 fl_X12_1 rfl (by decide) rfl rfl hR h (fun s1 hR h => ?_)
  refine g_aload_0 (pc := 5) X dX12_rules_5 ?_
  refine g_iload_1 (pc := 6) X dX12_rules_6 ?_
  replace h := h (fun x2 => G o γ 0 0 116 s1 23 [some (.ref (ad o 65)), some (.int p0), none] [.int x2, .ref (ad o 65)]) (by
      intro x2 h
      refine g_iconst (pc := 23) X dX12_rules_23 kiconst_1 ?_
      refine g_callV_I (pc := 24) X Y dX12_rules_24 miX12_may li_X12_173 (t_X12_may hR  h) rfl (by decide) rfl ⟨_, rfl⟩ rfl ⟨Nat.le_of_ble_eq_true rfl, Nat.le_of_ble_eq_true rfl⟩ (Nat.le_of_ble_eq_true rfl) (Nat.le_of_ble_eq_true rfl) rfl (by exact Nat.le_of_ble_eq_true rfl) (fun x4 s5 hp => ?_)
      obtain ⟨hR, h⟩ := hp
      refine g_if_ne (pc := 27) X dX12_rules_27 (tgt := 32) (by decide) (fun q6 => ?_) (fun q6 => ?_)
      · replace h := h.2 q6
        refine g_aload_0 (pc := 32) X dX12_rules_32 ?_
        refine g_iconst (pc := 33) X dX12_rules_33 kiconst_0 ?_
        refine g_putI_w (pc := 34) X dX12_rules_34 fl_X12_197 rfl (by decide) rfl rfl hR h (fun s7 hR h => ?_)
        refine g_aload_0 (pc := 37) X dX12_rules_37 ?_
        refine g_iconst (pc := 38) X dX12_rules_38 kiconst_m1 ?_
        refine g_putI_w (pc := 39) X dX12_rules_39 fl_X12_35 rfl (by decide) rfl rfl hR h (fun s8 hR h => ?_)
        refine g_aload_0 (pc := 42) X dX12_rules_42 ?_
        refine g_iload_1 (pc := 43) X dX12_rules_43 ?_
        refine g_putI_w (pc := 44) X dX12_rules_44 fl_X12_209 rfl (by decide) rfl rfl hR h (fun s9 hR h => ?_)
        refine g_aload_0 (pc := 47) X dX12_rules_47 ?_
        refine g_iconst (pc := 48) X dX12_rules_48 kiconst_0 ?_
        refine g_putI_w (pc := 49) X dX12_rules_49 fl_X12_206 rfl (by decide) rfl rfl hR h (fun s10 hR h => ?_)
        refine g_aload_0 (pc := 52) X dX12_rules_52 ?_
        refine g_iconst (pc := 53) X dX12_rules_53 kiconst_m1 ?_
        refine g_putI_w (pc := 54) X dX12_rules_54 fl_X12_200 rfl (by decide) rfl rfl hR h (fun s11 hR h => ?_)
        refine g_aload_0 (pc := 57) X dX12_rules_57 ?_
        refine g_iconst (pc := 58) X dX12_rules_58 kiconst_0 ?_
        refine g_putI_w (pc := 59) X dX12_rules_59 fl_X12_233 rfl (by decide) rfl rfl hR h (fun s12 hR h => ?_)
        refine g_aload_0 (pc := 62) X dX12_rules_62 ?_
        refine g_iconst (pc := 63) X dX12_rules_63 kiconst_0 ?_
        refine g_putI_w (pc := 64) X dX12_rules_64 fl_X12_230 rfl (by decide) rfl rfl hR h (fun s13 hR h => ?_)
        refine g_aload_0 (pc := 67) X dX12_rules_67 ?_
        refine g_iconst (pc := 68) X dX12_rules_68 kiconst_0 ?_
        refine g_putI_w (pc := 69) X dX12_rules_69 fl_X12_309 rfl (by decide) rfl rfl hR h (fun s14 hR h => ?_)
        obtain ⟨n23, h⟩ := h
        have hL : ∀  (K : gSt → Prop) (_ : ∀  (s16 : gSt), s16.2.2 = gRf b → K s16 → G o γ 0 0 116 s16 93 [some (.ref (ad o 65)), none, none] []) (n : Nat)  (s15 : gSt), s15.2.2 = gRf b → L_X12_rules_72 Q K n s15 → G o γ 0 0 116 s15 72 [some (.ref (ad o 65)), none, none] [] := by
          intro K hK n
          induction n with
          | zero => intro s15 hR h; exact False.elim h
          | succ n ih =>
            intro s15 hR h
            rw [L_X12_rules_72] at h
            refine g_aload_0 (pc := 72) X dX12_rules_72 ?_
            refine g_callV_I (pc := 73) X Y dX12_rules_73 miX12_fine li_X12_226 (t_X12_fine hR  h) rfl (by decide) rfl ⟨_, rfl⟩ rfl ⟨Nat.le_of_ble_eq_true rfl, Nat.le_of_ble_eq_true rfl⟩ (Nat.le_of_ble_eq_true rfl) (Nat.le_of_ble_eq_true rfl) rfl (by exact Nat.le_of_ble_eq_true rfl) (fun x17 σ9 hp => ?_)
            obtain ⟨rfl, h⟩ := hp
            refine g_if_eq (pc := 76) X dX12_rules_76 (tgt := 93) (by decide) (fun q18 => ?_) (fun q18 => ?_)
            · replace h := h.1 q18
              exact hK s15 hR h
            · replace h := h.2 q18
              refine g_aload_0 (pc := 79) X dX12_rules_79 ?_
              refine g_callV_I (pc := 80) X Y dX12_rules_80 miX12_isMore li_X12_314 (t_X12_isMore hR  h) rfl (by decide) rfl ⟨_, rfl⟩ rfl ⟨Nat.le_of_ble_eq_true rfl, Nat.le_of_ble_eq_true rfl⟩ (Nat.le_of_ble_eq_true rfl) (Nat.le_of_ble_eq_true rfl) rfl (by exact Nat.le_of_ble_eq_true rfl) (fun x19 s20 hp => ?_)
              obtain ⟨hR, h⟩ := hp
              refine g_if_eq (pc := 83) X dX12_rules_83 (tgt := 93) (by decide) (fun q21 => ?_) (fun q21 => ?_)
              · replace h := h.1 q21
                exact hK s20 hR h
              · replace h := h.2 q21
                refine g_aload_0 (pc := 86) X dX12_rules_86 ?_
                refine g_callV_V (pc := 87) X Y dX12_rules_87 miX12_readClause li_X12_317 (t_X12_readClause hR  h) rfl (by decide) rfl ⟨_, rfl⟩ rfl ⟨Nat.le_of_ble_eq_true rfl, Nat.le_of_ble_eq_true rfl⟩ (Nat.le_of_ble_eq_true rfl) (Nat.le_of_ble_eq_true rfl) rfl (by exact Nat.le_of_ble_eq_true rfl) (fun s22 hp => ?_)
                obtain ⟨hR, h⟩ := hp
                refine g_goto (pc := 90) X dX12_rules_90 (tgt := 72) (by decide) ?_
                exact ih  s22 hR h
        refine g_drop (by simp [lsub]) (hL  _ (fun s24 hR h => ?_) n23  s14 hR h)
        · refine g_aload_0 (pc := 93) X dX12_rules_93 ?_
          refine g_aload_0 (pc := 94) X dX12_rules_94 ?_
          refine g_getI (pc := 95) X dX12_rules_95 rfl (by decide) fl_X12_200 (Or.inl rfl) ?_
          refine g_putI_w (pc := 98) X dX12_rules_98 fl_X12_35 rfl (by decide) rfl rfl hR h (fun s25 hR h => ?_)
          refine g_aload_0 (pc := 101) X dX12_rules_101 ?_
          refine g_callV_I (pc := 102) X Y dX12_rules_102 miX12_fine li_X12_226 (t_X12_fine hR  h) rfl (by decide) rfl ⟨_, rfl⟩ rfl ⟨Nat.le_of_ble_eq_true rfl, Nat.le_of_ble_eq_true rfl⟩ (Nat.le_of_ble_eq_true rfl) (Nat.le_of_ble_eq_true rfl) rfl (by exact Nat.le_of_ble_eq_true rfl) (fun x26 σ9 hp => ?_)
          obtain ⟨rfl, h⟩ := hp
          refine g_if_ne (pc := 105) X dX12_rules_105 (tgt := 116) (by decide) (fun q27 => ?_) (fun q27 => ?_)
          · replace h := h.2 q27
            refine g_aload_0 (pc := 116) X dX12_rules_116 ?_
            refine g_aload_0 (pc := 117) X dX12_rules_117 ?_
            refine g_getI (pc := 118) X dX12_rules_118 rfl (by decide) fl_X12_309 (Or.inl rfl) ?_
            refine g_putI_w (pc := 121) X dX12_rules_121 fl_X12_320 rfl (by decide) rfl rfl hR h (fun s28 hR h => ?_)
            refine g_iconst (pc := 124) X dX12_rules_124 kiconst_0 ?_
            refine g_istore_2 (pc := 125) X dX12_rules_125 (by decide) rfl ?_
            obtain ⟨n41, h⟩ := h
            have hL : ∀  (K : gSt → Prop) (_ : ∀  (s31 : gSt), s31.2.2 = gRf b → K s31 → G o γ 0 0 116 s31 188 [some (.ref (ad o 65)), none, none] []) (n : Nat) (v29 : Int32) (s30 : gSt), s30.2.2 = gRf b → L_X12_rules_126 Q K n v29 s30 → G o γ 0 0 116 s30 126 [some (.ref (ad o 65)), none, some (.int v29)] [] := by
              intro K hK n
              induction n with
              | zero => intro v29 s30 hR h; exact False.elim h
              | succ n ih =>
                intro v29 s30 hR h
                rw [L_X12_rules_126] at h
                refine g_iload_2 (pc := 126) X dX12_rules_126 ?_
                refine g_aload_0 (pc := 127) X dX12_rules_127 ?_
                refine g_getI (pc := 128) X dX12_rules_128 rfl (by decide) fl_X12_320 (Or.inl rfl) ?_
                refine g_icmp_ge (pc := 131) X dX12_rules_131 (tgt := 188) (by decide) (fun q32 => ?_) (fun q32 => ?_)
                · replace h := h.1 q32
                  exact g_drop (by simp [lsub]) (hK s30 hR h)
                · replace h := h.2 q32
                  refine g_aload_0 (pc := 134) X dX12_rules_134 ?_
                  refine g_getRf (pc := 135) X dX12_rules_135 fl_X12_41 rfl (by decide) rfl hR rfl ?_
                  refine g_iload_2 (pc := 138) X dX12_rules_138 ?_
                  refine g_aload_0 (pc := 139) X dX12_rules_139 ?_
                  refine g_getRf (pc := 140) X dX12_rules_140 fl_X12_59 rfl (by decide) rfl hR rfl ?_
                  refine g_iload_2 (pc := 143) X dX12_rules_143 ?_
                  refine g_iaload_w (pc := 144) X dX12_rules_144 rfl (by decide) h (fun x33 h => ?_)
                  refine g_iastore_w (pc := 145) X dX12_rules_145 rfl (by decide) hR h (fun s34 hR h => ?_)
                  refine g_aload_0 (pc := 146) X dX12_rules_146 ?_
                  refine g_getRf (pc := 147) X dX12_rules_147 fl_X12_44 rfl (by decide) rfl hR rfl ?_
                  refine g_iload_2 (pc := 150) X dX12_rules_150 ?_
                  refine g_aload_0 (pc := 151) X dX12_rules_151 ?_
                  refine g_getRf (pc := 152) X dX12_rules_152 fl_X12_62 rfl (by decide) rfl hR rfl ?_
                  refine g_iload_2 (pc := 155) X dX12_rules_155 ?_
                  refine g_iaload_w (pc := 156) X dX12_rules_156 rfl (by decide) h (fun x35 h => ?_)
                  refine g_iastore_w (pc := 157) X dX12_rules_157 rfl (by decide) hR h (fun s36 hR h => ?_)
                  refine g_aload_0 (pc := 158) X dX12_rules_158 ?_
                  refine g_getRf (pc := 159) X dX12_rules_159 fl_X12_47 rfl (by decide) rfl hR rfl ?_
                  refine g_iload_2 (pc := 162) X dX12_rules_162 ?_
                  refine g_aload_0 (pc := 163) X dX12_rules_163 ?_
                  refine g_getRf (pc := 164) X dX12_rules_164 fl_X12_65 rfl (by decide) rfl hR rfl ?_
                  refine g_iload_2 (pc := 167) X dX12_rules_167 ?_
                  refine g_iaload_w (pc := 168) X dX12_rules_168 rfl (by decide) h (fun x37 h => ?_)
                  refine g_iastore_w (pc := 169) X dX12_rules_169 rfl (by decide) hR h (fun s38 hR h => ?_)
                  refine g_aload_0 (pc := 170) X dX12_rules_170 ?_
                  refine g_getRf (pc := 171) X dX12_rules_171 fl_X12_50 rfl (by decide) rfl hR rfl ?_
                  refine g_iload_2 (pc := 174) X dX12_rules_174 ?_
                  refine g_aload_0 (pc := 175) X dX12_rules_175 ?_
                  refine g_getRf (pc := 176) X dX12_rules_176 fl_X12_68 rfl (by decide) rfl hR rfl ?_
                  refine g_iload_2 (pc := 179) X dX12_rules_179 ?_
                  refine g_iaload_w (pc := 180) X dX12_rules_180 rfl (by decide) h (fun x39 h => ?_)
                  refine g_iastore_w (pc := 181) X dX12_rules_181 rfl (by decide) hR h (fun s40 hR h => ?_)
                  refine g_iinc_2 (pc := 182) X dX12_rules_182 (v := v29 + nI 1) rfl (by decide) rfl ?_
                  refine g_goto (pc := 185) X dX12_rules_185 (tgt := 126) (by decide) ?_
                  exact ih (v29 + nI 1) s40 hR h
            refine hL  _ (fun s42 hR h => ?_) n41 (nI 0) s28 hR h
            · refine g_iconst (pc := 188) X dX12_rules_188 kiconst_0 ?_
              refine g_istore_2 (pc := 189) X dX12_rules_189 (by decide) rfl ?_
              obtain ⟨n51, h⟩ := h
              have hL : ∀  (K : gSt → Prop) (_ : ∀  (s45 : gSt), s45.2.2 = gRf b → K s45 → G o γ 0 0 116 s45 228 [some (.ref (ad o 65)), none, none] []) (n : Nat) (v43 : Int32) (s44 : gSt), s44.2.2 = gRf b → L_X12_rules_190 Q K n v43 s44 → G o γ 0 0 116 s44 190 [some (.ref (ad o 65)), none, some (.int v43)] [] := by
                intro K hK n
                induction n with
                | zero => intro v43 s44 hR h; exact False.elim h
                | succ n ih =>
                  intro v43 s44 hR h
                  rw [L_X12_rules_190] at h
                  refine g_iload_2 (pc := 190) X dX12_rules_190 ?_
                  refine g_aload_0 (pc := 191) X dX12_rules_191 ?_
                  refine g_getI (pc := 192) X dX12_rules_192 rfl (by decide) fl_X12_230 (Or.inl rfl) ?_
                  refine g_icmp_ge (pc := 195) X dX12_rules_195 (tgt := 228) (by decide) (fun q46 => ?_) (fun q46 => ?_)
                  · replace h := h.1 q46
                    exact g_drop (by simp [lsub]) (hK s44 hR h)
                  · replace h := h.2 q46
                    refine g_aload_0 (pc := 198) X dX12_rules_198 ?_
                    refine g_getRf (pc := 199) X dX12_rules_199 fl_X12_53 rfl (by decide) rfl hR rfl ?_
                    refine g_iload_2 (pc := 202) X dX12_rules_202 ?_
                    refine g_aload_0 (pc := 203) X dX12_rules_203 ?_
                    refine g_getRf (pc := 204) X dX12_rules_204 fl_X12_71 rfl (by decide) rfl hR rfl ?_
                    refine g_iload_2 (pc := 207) X dX12_rules_207 ?_
                    refine g_iaload_w (pc := 208) X dX12_rules_208 rfl (by decide) h (fun x47 h => ?_)
                    refine g_iastore_w (pc := 209) X dX12_rules_209 rfl (by decide) hR h (fun s48 hR h => ?_)
                    refine g_aload_0 (pc := 210) X dX12_rules_210 ?_
                    refine g_getRf (pc := 211) X dX12_rules_211 fl_X12_56 rfl (by decide) rfl hR rfl ?_
                    refine g_iload_2 (pc := 214) X dX12_rules_214 ?_
                    refine g_aload_0 (pc := 215) X dX12_rules_215 ?_
                    refine g_getRf (pc := 216) X dX12_rules_216 fl_X12_74 rfl (by decide) rfl hR rfl ?_
                    refine g_iload_2 (pc := 219) X dX12_rules_219 ?_
                    refine g_iaload_w (pc := 220) X dX12_rules_220 rfl (by decide) h (fun x49 h => ?_)
                    refine g_iastore_w (pc := 221) X dX12_rules_221 rfl (by decide) hR h (fun s50 hR h => ?_)
                    refine g_iinc_2 (pc := 222) X dX12_rules_222 (v := v43 + nI 1) rfl (by decide) rfl ?_
                    refine g_goto (pc := 225) X dX12_rules_225 (tgt := 190) (by decide) ?_
                    exact ih (v43 + nI 1) s50 hR h
              refine hL  _ (fun s52 hR h => ?_) n51 (nI 0) s42 hR h
              · refine g_aload_0 (pc := 228) X dX12_rules_228 ?_
                refine g_callV_V (pc := 229) X Y dX12_rules_229 miX12_untell li_X12_180 (t_X12_untell hR  h) rfl (by decide) rfl ⟨_, rfl⟩ rfl ⟨Nat.le_of_ble_eq_true rfl, Nat.le_of_ble_eq_true rfl⟩ (Nat.le_of_ble_eq_true rfl) (Nat.le_of_ble_eq_true rfl) rfl (by exact Nat.le_of_ble_eq_true rfl) (fun s53 hp => ?_)
                obtain ⟨hR, h⟩ := hp
                refine g_aload_0 (pc := 232) X dX12_rules_232 ?_
                refine g_getI (pc := 233) X dX12_rules_233 rfl (by decide) fl_X12_320 (Or.inl rfl) ?_
                exact g_ireturn (pc := 236) X Y dX12_rules_236 (Nat.le_of_ble_eq_true rfl) (Nat.le_of_ble_eq_true rfl) ⟨_, rfl, hR, h⟩
          · replace h := h.1 q27
            refine g_aload_0 (pc := 108) X dX12_rules_108 ?_
            refine g_getI (pc := 109) X dX12_rules_109 rfl (by decide) fl_X12_203 (Or.inl rfl) ?_
            refine g_bipush (pc := 112) X dX12_rules_112 kbipush_10 ?_
            refine g_isub (pc := 114) X dX12_rules_114 ?_
            exact g_ireturn (pc := 115) X Y dX12_rules_115 (Nat.le_of_ble_eq_true rfl) (Nat.le_of_ble_eq_true rfl) ⟨_, rfl, hR, h⟩
      · replace h := h.1 q6
        refine g_iconst (pc := 30) X dX12_rules_30 kiconst_0 ?_
        exact g_ireturn (pc := 31) X Y dX12_rules_31 (Nat.le_of_ble_eq_true rfl) (Nat.le_of_ble_eq_true rfl) ⟨_, rfl, hR, h⟩)
  replace h := h (G o γ 0 0 116 s1 22 [some (.ref (ad o 65)), some (.int p0), none] [.ref (ad o 65)]) (by
      intro  h
      refine g_iconst (pc := 22) X dX12_rules_22 kiconst_0 ?_
      exact h)
  refine g_if_lt (pc := 7) X dX12_rules_7 (tgt := 22) (by decide) (fun q55 => ?_) (fun q55 => ?_)
  · replace h := h.1 q55
    exact h
  · replace h := h.2 q55
    refine g_iload_1 (pc := 10) X dX12_rules_10 ?_
    refine g_aload_0 (pc := 11) X dX12_rules_11 ?_
    refine g_getI (pc := 12) X dX12_rules_12 rfl (by decide) fl_X12_197 (Or.inl rfl) ?_
    refine g_icmp_gt (pc := 15) X dX12_rules_15 (tgt := 22) (by decide) (fun q56 => ?_) (fun q56 => ?_)
    · replace h := h.1 q56
      exact h
    · replace h := h.2 q56
      refine g_iconst (pc := 18) X dX12_rules_18 kiconst_1 ?_
      refine g_goto (pc := 19) X dX12_rules_19 (tgt := 23) (by decide) ?_
      exact h
def W_X12_fault  (Q : Int32 → gSt → Prop) (σ : gSt) : Prop := fI σ 65 0 (nI 0) (fun s1 => Q (s1.1 65 18) s1)
set_option maxHeartbeats 4000000 in
theorem t_X12_fault {o : gOm} {l : Launch} {b : Bool}   {σ : gSt} (hR : σ.2.2 = gRf b)  {Q : Int32 → gSt → Prop} (h : W_X12_fault  Q σ) : Sp o l mX12_fault 1 0 0 [.ref (ad o 65)] 116 116 σ (pI (fun x s => s.2.2 = gRf b ∧ Q x s)) := by
  unfold W_X12_fault at h
  refine Sp.of (ls0 := [some (.ref (ad o 65))]) miX12_fault rfl (Nat.le_of_ble_eq_true rfl) rfl (fun γ hγ hnm X Y => ?_)
  subst hγ
  have X : gX o γ cX12_fault 1 RX12 := X
  refine g_aload_0 (pc := 0) X dX12_fault_0 ?_
  refine g_iconst (pc := 1) X dX12_fault_1 kiconst_0 ?_
  refine g_putI_w (pc := 2) X dX12_fault_2 fl_X12_1 rfl (by decide) rfl rfl hR h (fun s1 hR h => ?_)
  refine g_aload_0 (pc := 5) X dX12_fault_5 ?_
  refine g_getI (pc := 6) X dX12_fault_6 rfl (by decide) fl_X12_35 (Or.inl rfl) ?_
  exact g_ireturn (pc := 9) X Y dX12_fault_9 (Nat.le_of_ble_eq_true rfl) (Nat.le_of_ble_eq_true rfl) ⟨_, rfl, hR, h⟩
def W_X12_weight (p0 : Int32) (p1 : Int32) (Q : Int32 → gSt → Prop) (σ : gSt) : Prop := fI σ 65 0 (nI 0) (fun s1 => W_X12_isPair p0 p1 (fun x2 s3 => ((x2 = 0 → (Q (nI 0) s3)) ∧ (¬ x2 = 0 → (W_X12_weightOf p0 p1 (fun x5 s6 => Q x5 s6) s3)))) s1)
set_option maxHeartbeats 4000000 in
theorem t_X12_weight {o : gOm} {l : Launch} {b : Bool}   {σ : gSt} (hR : σ.2.2 = gRf b) {p0 : Int32} {p1 : Int32} {Q : Int32 → gSt → Prop} (h : W_X12_weight p0 p1 Q σ) : Sp o l mX12_weight 7 0 0 [.ref (ad o 65), .int p0, .int p1] 116 116 σ (pI (fun x s => s.2.2 = gRf b ∧ Q x s)) := by
  unfold W_X12_weight at h
  refine Sp.of (ls0 := [some (.ref (ad o 65)), some (.int p0), some (.int p1)]) miX12_weight rfl (Nat.le_of_ble_eq_true rfl) rfl (fun γ hγ hnm X Y => ?_)
  subst hγ
  have X : gX o γ cX12_weight 3 RX12 := X
  refine g_aload_0 (pc := 0) X dX12_weight_0 ?_
  refine g_iconst (pc := 1) X dX12_weight_1 kiconst_0 ?_
  refine g_putI_w (pc := 2) X dX12_weight_2 fl_X12_1 rfl (by decide) rfl rfl hR h (fun s1 hR h => ?_)
  refine g_aload_0 (pc := 5) X dX12_weight_5 ?_
  refine g_iload_1 (pc := 6) X dX12_weight_6 ?_
  refine g_iload_2 (pc := 7) X dX12_weight_7 ?_
  refine g_callV_I (pc := 8) X Y dX12_weight_8 miX12_isPair li_X12_362 (t_X12_isPair hR  h) rfl (by decide) rfl ⟨_, rfl⟩ rfl ⟨Nat.le_of_ble_eq_true rfl, Nat.le_of_ble_eq_true rfl⟩ (Nat.le_of_ble_eq_true rfl) (Nat.le_of_ble_eq_true rfl) rfl (by exact Nat.le_of_ble_eq_true rfl) (fun x2 s3 hp => ?_)
  obtain ⟨hR, h⟩ := hp
  refine g_if_ne (pc := 11) X dX12_weight_11 (tgt := 16) (by decide) (fun q4 => ?_) (fun q4 => ?_)
  · replace h := h.2 q4
    refine g_aload_0 (pc := 16) X dX12_weight_16 ?_
    refine g_iload_1 (pc := 17) X dX12_weight_17 ?_
    refine g_iload_2 (pc := 18) X dX12_weight_18 ?_
    refine g_callV_I (pc := 19) X Y dX12_weight_19 miX12_weightOf li_X12_353 (t_X12_weightOf hR  h) rfl (by decide) rfl ⟨_, rfl⟩ rfl ⟨Nat.le_of_ble_eq_true rfl, Nat.le_of_ble_eq_true rfl⟩ (Nat.le_of_ble_eq_true rfl) (Nat.le_of_ble_eq_true rfl) rfl (by exact Nat.le_of_ble_eq_true rfl) (fun x5 s6 hp => ?_)
    obtain ⟨hR, h⟩ := hp
    exact g_ireturn (pc := 22) X Y dX12_weight_22 (Nat.le_of_ble_eq_true rfl) (Nat.le_of_ble_eq_true rfl) ⟨_, rfl, hR, h⟩
  · replace h := h.1 q4
    refine g_iconst (pc := 14) X dX12_weight_14 kiconst_0 ?_
    exact g_ireturn (pc := 15) X Y dX12_weight_15 (Nat.le_of_ble_eq_true rfl) (Nat.le_of_ble_eq_true rfl) ⟨_, rfl, hR, h⟩
def L_X12_why_41 (Q : Int32 → gSt → Prop) (c9 : Int32) (c10 : Int32) (c11 : Int32) (K : Int32 → gSt → Prop) : Nat → Int32 → Int32 → gSt → Prop
  | 0, _, _, _ => False
  | n41 + 1, v12, v13, s14 => (((s14.1 65 16) ≤ v13 → (K v12 s14)) ∧ (¬ (s14.1 65 16) ≤ v13 → (((c11 = 0 → (W_X12_applies v13 c9 c10 (fun x19 s20 => ∀ J22 : Int32 → Prop, (∀ x21, (L_X12_why_41 Q c9 c10 c11 K n41 (v12 ||| x21) (v13 + nI 1) s20) → J22 x21) → ((x19 = 0 → (J22 (nI 0))) ∧ (¬ x19 = 0 → (J22 ((nI 1) <<< (v13 &&& 31)))))) s14)) ∧ (¬ c11 = 0 → (K v12 s14))))))
def W_X12_why (p0 : Int32) (p1 : Int32) (Q : Int32 → gSt → Prop) (σ : gSt) : Prop := fI σ 65 0 (nI 0) (fun s1 => W_X12_isPair p0 p1 (fun x2 s3 => ((x2 = 0 → (Q (nI 0) s3)) ∧ (¬ x2 = 0 → (W_X12_toldAt p0 p1 (fun x5 => ((x5 = ((-1 : Int32)) → (W_X12_isPassed p0 p1 (fun x7 s8 => ∃ m41, L_X12_why_41 Q p0 p1 x7 (fun y25 s26 => Q y25 s26) m41 (nI 0) (nI 0) s8) s3)) ∧ (¬ x5 = ((-1 : Int32)) → (Q ((-1 : Int32)) s3)))) s3)))) s1)
set_option maxHeartbeats 4000000 in
theorem t_X12_why {o : gOm} {l : Launch} {b : Bool}   {σ : gSt} (hR : σ.2.2 = gRf b) {p0 : Int32} {p1 : Int32} {Q : Int32 → gSt → Prop} (h : W_X12_why p0 p1 Q σ) : Sp o l mX12_why 6 0 0 [.ref (ad o 65), .int p0, .int p1] 116 116 σ (pI (fun x s => s.2.2 = gRf b ∧ Q x s)) := by
  unfold W_X12_why at h
  refine Sp.of (ls0 := [some (.ref (ad o 65)), some (.int p0), some (.int p1), none, none, none]) miX12_why rfl (Nat.le_of_ble_eq_true rfl) rfl (fun γ hγ hnm X Y => ?_)
  subst hγ
  have X : gX o γ cX12_why 6 RX12 := X
  refine g_aload_0 (pc := 0) X dX12_why_0 ?_
  refine g_iconst (pc := 1) X dX12_why_1 kiconst_0 ?_
  refine g_putI_w (pc := 2) X dX12_why_2 fl_X12_1 rfl (by decide) rfl rfl hR h (fun s1 hR h => ?_)
  refine g_aload_0 (pc := 5) X dX12_why_5 ?_
  refine g_iload_1 (pc := 6) X dX12_why_6 ?_
  refine g_iload_2 (pc := 7) X dX12_why_7 ?_
  refine g_callV_I (pc := 8) X Y dX12_why_8 miX12_isPair li_X12_362 (t_X12_isPair hR  h) rfl (by decide) rfl ⟨_, rfl⟩ rfl ⟨Nat.le_of_ble_eq_true rfl, Nat.le_of_ble_eq_true rfl⟩ (Nat.le_of_ble_eq_true rfl) (Nat.le_of_ble_eq_true rfl) rfl (by exact Nat.le_of_ble_eq_true rfl) (fun x2 s3 hp => ?_)
  obtain ⟨hR, h⟩ := hp
  refine g_if_ne (pc := 11) X dX12_why_11 (tgt := 16) (by decide) (fun q4 => ?_) (fun q4 => ?_)
  · replace h := h.2 q4
    refine g_aload_0 (pc := 16) X dX12_why_16 ?_
    refine g_iload_1 (pc := 17) X dX12_why_17 ?_
    refine g_iload_2 (pc := 18) X dX12_why_18 ?_
    refine g_callV_I (pc := 19) X Y dX12_why_19 miX12_toldAt li_X12_344 (t_X12_toldAt hR  h) rfl (by decide) rfl ⟨_, rfl⟩ rfl ⟨Nat.le_of_ble_eq_true rfl, Nat.le_of_ble_eq_true rfl⟩ (Nat.le_of_ble_eq_true rfl) (Nat.le_of_ble_eq_true rfl) rfl (by exact Nat.le_of_ble_eq_true rfl) (fun x5 σ9 hp => ?_)
    obtain ⟨rfl, h⟩ := hp
    refine g_iconst (pc := 22) X dX12_why_22 kiconst_m1 ?_
    refine g_icmp_eq (pc := 23) X dX12_why_23 (tgt := 28) (by decide) (fun q6 => ?_) (fun q6 => ?_)
    · replace h := h.1 q6
      refine g_aload_0 (pc := 28) X dX12_why_28 ?_
      refine g_iload_1 (pc := 29) X dX12_why_29 ?_
      refine g_iload_2 (pc := 30) X dX12_why_30 ?_
      refine g_callV_I (pc := 31) X Y dX12_why_31 miX12_isPassed li_X12_348 (t_X12_isPassed hR  h) rfl (by decide) rfl ⟨_, rfl⟩ rfl ⟨Nat.le_of_ble_eq_true rfl, Nat.le_of_ble_eq_true rfl⟩ (Nat.le_of_ble_eq_true rfl) (Nat.le_of_ble_eq_true rfl) rfl (by exact Nat.le_of_ble_eq_true rfl) (fun x7 s8 hp => ?_)
      obtain ⟨hR, h⟩ := hp
      refine g_istore_3 (pc := 34) X dX12_why_34 (by decide) rfl ?_
      refine g_iconst (pc := 35) X dX12_why_35 kiconst_0 ?_
      refine g_istore_4 (pc := 36) X dX12_why_36 (by decide) rfl ?_
      refine g_iconst (pc := 38) X dX12_why_38 kiconst_0 ?_
      refine g_istore_5 (pc := 39) X dX12_why_39 (by decide) rfl ?_
      obtain ⟨n24, h⟩ := h
      have hL : ∀ (c9 : Int32) (c10 : Int32) (c11 : Int32) (K : Int32 → gSt → Prop) (_ : ∀ (y15 : Int32) (s16 : gSt), s16.2.2 = gRf b → K y15 s16 → G o γ 0 0 116 s16 84 [some (.ref (ad o 65)), some (.int c9), some (.int c10), some (.int c11), some (.int y15), none] []) (n : Nat) (v12 : Int32) (v13 : Int32) (s14 : gSt), s14.2.2 = gRf b → L_X12_why_41 Q c9 c10 c11 K n v12 v13 s14 → G o γ 0 0 116 s14 41 [some (.ref (ad o 65)), some (.int c9), some (.int c10), some (.int c11), some (.int v12), some (.int v13)] [] := by
        intro c9 c10 c11 K hK n
        induction n with
        | zero => intro v12 v13 s14 hR h; exact False.elim h
        | succ n ih =>
          intro v12 v13 s14 hR h
          rw [L_X12_why_41] at h
          refine g_iload_5 (pc := 41) X dX12_why_41 ?_
          refine g_aload_0 (pc := 43) X dX12_why_43 ?_
          refine g_getI (pc := 44) X dX12_why_44 rfl (by decide) fl_X12_320 (Or.inl rfl) ?_
          refine g_icmp_ge (pc := 47) X dX12_why_47 (tgt := 84) (by decide) (fun q17 => ?_) (fun q17 => ?_)
          · replace h := h.1 q17
            exact g_drop (by simp [lsub]) (hK v12 s14 hR h)
          · replace h := h.2 q17
            refine g_iload_3 (pc := 50) X dX12_why_50 ?_
            refine g_if_ne (pc := 51) X dX12_why_51 (tgt := 84) (by decide) (fun q18 => ?_) (fun q18 => ?_)
            · replace h := h.2 q18
              exact g_drop (by simp [lsub]) (hK v12 s14 hR h)
            · replace h := h.1 q18
              refine g_iload_4 (pc := 54) X dX12_why_54 ?_
              refine g_aload_0 (pc := 56) X dX12_why_56 ?_
              refine g_iload_5 (pc := 57) X dX12_why_57 ?_
              refine g_iload_1 (pc := 59) X dX12_why_59 ?_
              refine g_iload_2 (pc := 60) X dX12_why_60 ?_
              refine g_callV_I (pc := 61) X Y dX12_why_61 miX12_applies li_X12_341 (t_X12_applies hR  h) rfl (by decide) rfl ⟨_, rfl⟩ rfl ⟨Nat.le_of_ble_eq_true rfl, Nat.le_of_ble_eq_true rfl⟩ (Nat.le_of_ble_eq_true rfl) (Nat.le_of_ble_eq_true rfl) rfl (by exact Nat.le_of_ble_eq_true rfl) (fun x19 s20 hp => ?_)
              obtain ⟨hR, h⟩ := hp
              replace h := h (fun x21 => G o γ 0 0 116 s20 75 [some (.ref (ad o 65)), some (.int c9), some (.int c10), some (.int c11), none, some (.int v13)] [.int x21, .int v12]) (by
                  intro x21 h
                  refine g_ior (pc := 75) X dX12_why_75 ?_
                  refine g_istore_4 (pc := 76) X dX12_why_76 (by decide) rfl ?_
                  refine g_iinc_5 (pc := 78) X dX12_why_78 (v := v13 + nI 1) rfl (by decide) rfl ?_
                  refine g_goto (pc := 81) X dX12_why_81 (tgt := 41) (by decide) ?_
                  exact ih (v12 ||| x21) (v13 + nI 1) s20 hR h)
              refine g_if_eq (pc := 64) X dX12_why_64 (tgt := 74) (by decide) (fun q23 => ?_) (fun q23 => ?_)
              · replace h := h.1 q23
                refine g_iconst (pc := 74) X dX12_why_74 kiconst_0 ?_
                exact g_drop (by simp [lsub]) (h)
              · replace h := h.2 q23
                refine g_iconst (pc := 67) X dX12_why_67 kiconst_1 ?_
                refine g_iload_5 (pc := 68) X dX12_why_68 ?_
                refine g_ishl (pc := 70) X dX12_why_70 ?_
                refine g_goto (pc := 71) X dX12_why_71 (tgt := 75) (by decide) ?_
                exact g_drop (by simp [lsub]) (h)
      refine hL p0 p1 x7 _ (fun y25 s26 hR h => ?_) n24 (nI 0) (nI 0) s8 hR h
      · refine g_iload_4 (pc := 84) X dX12_why_84 ?_
        exact g_ireturn (pc := 86) X Y dX12_why_86 (Nat.le_of_ble_eq_true rfl) (Nat.le_of_ble_eq_true rfl) ⟨_, rfl, hR, h⟩
    · replace h := h.2 q6
      refine g_iconst (pc := 26) X dX12_why_26 kiconst_m1 ?_
      exact g_ireturn (pc := 27) X Y dX12_why_27 (Nat.le_of_ble_eq_true rfl) (Nat.le_of_ble_eq_true rfl) ⟨_, rfl, hR, h⟩
  · replace h := h.1 q4
    refine g_iconst (pc := 14) X dX12_why_14 kiconst_0 ?_
    exact g_ireturn (pc := 15) X Y dX12_why_15 (Nat.le_of_ble_eq_true rfl) (Nat.le_of_ble_eq_true rfl) ⟨_, rfl, hR, h⟩
def W_X12_weigh (p0 : Int32) (p1 : Int32) (p2 : Int32) (Q : Int32 → gSt → Prop) (σ : gSt) : Prop := fI σ 65 0 (nI 0) (fun s1 => W_X12_isPair p0 p1 (fun x2 s3 => ((x2 = 0 → (Q (nI 0) s3)) ∧ (¬ x2 = 0 → (∀ J6 : Int32 → Prop, (∀ x5, (W_X12_may x5 (nI 2) (fun x7 s8 => ((x7 = 0 → (Q (nI 0) s8)) ∧ (¬ x7 = 0 → (W_X12_toldAt p0 p1 (fun x10 => ∀ J11 : Prop, ((∀ J13 : Int32 → Prop, (∀ x12, (∀ J16 : Int32 → gSt → Prop, (∀ x14 s15, (wI s15 87 60 x14 p0 (fun s17 => wI s17 88 60 x14 p1 (fun s18 => wI s18 89 60 x14 p2 (fun s19 => W_X12_untell (fun s20 => Q x12 s20) s19)))) → J16 x14 s15) → ((x10 = ((-1 : Int32)) → (fI s8 65 33 ((s8.1 65 33) + (nI 1)) (fun s22 => J16 (s8.1 65 33) s22))) ∧ (¬ x10 = ((-1 : Int32)) → (J16 x10 s8)))) → J13 x12) → ((x10 = ((-1 : Int32)) → (J13 (nI 1))) ∧ (¬ x10 = ((-1 : Int32)) → (J13 (nI 0))))) → J11) → ((x10 = ((-1 : Int32)) → ((((s8.1 65 33) = (nI 60) → (Q ((-1 : Int32)) s8)) ∧ (¬ (s8.1 65 33) = (nI 60) → J11)))) ∧ (¬ x10 = ((-1 : Int32)) → J11))) s8)))) s3) → J6 x5) → ∀ J26 : Prop, ((J6 (nI 1)) → J26) → ((p2 = ((-2147483648 : Int32)) → J26) ∧ (¬ p2 = ((-2147483648 : Int32)) → (W_X12_within p2 ((-10000 : Int32)) (nI 10000) (fun x28 => ((x28 = 0 → (J6 (nI 0))) ∧ (¬ x28 = 0 → J26))) s3))))))) s1)
set_option maxHeartbeats 4000000 in
theorem t_X12_weigh {o : gOm} {l : Launch} {b : Bool}   {σ : gSt} (hR : σ.2.2 = gRf b) {p0 : Int32} {p1 : Int32} {p2 : Int32} {Q : Int32 → gSt → Prop} (h : W_X12_weigh p0 p1 p2 Q σ) : Sp o l mX12_weigh 4 0 0 [.ref (ad o 65), .int p0, .int p1, .int p2] 116 116 σ (pI (fun x s => s.2.2 = gRf b ∧ Q x s)) := by
  unfold W_X12_weigh at h
  refine Sp.of (ls0 := [some (.ref (ad o 65)), some (.int p0), some (.int p1), some (.int p2), none, none]) miX12_weigh rfl (Nat.le_of_ble_eq_true rfl) rfl (fun γ hγ hnm X Y => ?_)
  subst hγ
  have X : gX o γ cX12_weigh 6 RX12 := X
  refine g_aload_0 (pc := 0) X dX12_weigh_0 ?_
  refine g_iconst (pc := 1) X dX12_weigh_1 kiconst_0 ?_
  refine g_putI_w (pc := 2) X dX12_weigh_2 fl_X12_1 rfl (by decide) rfl rfl hR h (fun s1 hR h => ?_)
  refine g_aload_0 (pc := 5) X dX12_weigh_5 ?_
  refine g_iload_1 (pc := 6) X dX12_weigh_6 ?_
  refine g_iload_2 (pc := 7) X dX12_weigh_7 ?_
  refine g_callV_I (pc := 8) X Y dX12_weigh_8 miX12_isPair li_X12_362 (t_X12_isPair hR  h) rfl (by decide) rfl ⟨_, rfl⟩ rfl ⟨Nat.le_of_ble_eq_true rfl, Nat.le_of_ble_eq_true rfl⟩ (Nat.le_of_ble_eq_true rfl) (Nat.le_of_ble_eq_true rfl) rfl (by exact Nat.le_of_ble_eq_true rfl) (fun x2 s3 hp => ?_)
  obtain ⟨hR, h⟩ := hp
  refine g_if_eq (pc := 11) X dX12_weigh_11 (tgt := 47) (by decide) (fun q4 => ?_) (fun q4 => ?_)
  · replace h := h.1 q4
    refine g_iconst (pc := 47) X dX12_weigh_47 kiconst_0 ?_
    exact g_ireturn (pc := 48) X Y dX12_weigh_48 (Nat.le_of_ble_eq_true rfl) (Nat.le_of_ble_eq_true rfl) ⟨_, rfl, hR, h⟩
  · replace h := h.2 q4
    refine g_aload_0 (pc := 14) X dX12_weigh_14 ?_
    refine g_iload_3 (pc := 15) X dX12_weigh_15 ?_
    refine g_ldcw (pc := 16) X dX12_weigh_16 ct_X12_352 ?_
    replace h := h (fun x5 => G o γ 0 0 116 s3 40 [some (.ref (ad o 65)), some (.int p0), some (.int p1), some (.int p2), none, none] [.int x5, .ref (ad o 65)]) (by
        intro x5 h
        refine g_iconst (pc := 40) X dX12_weigh_40 kiconst_2 ?_
        refine g_callV_I (pc := 41) X Y dX12_weigh_41 miX12_may li_X12_173 (t_X12_may hR  h) rfl (by decide) rfl ⟨_, rfl⟩ rfl ⟨Nat.le_of_ble_eq_true rfl, Nat.le_of_ble_eq_true rfl⟩ (Nat.le_of_ble_eq_true rfl) (Nat.le_of_ble_eq_true rfl) rfl (by exact Nat.le_of_ble_eq_true rfl) (fun x7 s8 hp => ?_)
        obtain ⟨hR, h⟩ := hp
        refine g_if_ne (pc := 44) X dX12_weigh_44 (tgt := 49) (by decide) (fun q9 => ?_) (fun q9 => ?_)
        · replace h := h.2 q9
          refine g_aload_0 (pc := 49) X dX12_weigh_49 ?_
          refine g_iload_1 (pc := 50) X dX12_weigh_50 ?_
          refine g_iload_2 (pc := 51) X dX12_weigh_51 ?_
          refine g_callV_I (pc := 52) X Y dX12_weigh_52 miX12_toldAt li_X12_344 (t_X12_toldAt hR  h) rfl (by decide) rfl ⟨_, rfl⟩ rfl ⟨Nat.le_of_ble_eq_true rfl, Nat.le_of_ble_eq_true rfl⟩ (Nat.le_of_ble_eq_true rfl) (Nat.le_of_ble_eq_true rfl) rfl (by exact Nat.le_of_ble_eq_true rfl) (fun x10 σ9 hp => ?_)
          obtain ⟨rfl, h⟩ := hp
          refine g_istore_4 (pc := 55) X dX12_weigh_55 (by decide) rfl ?_
          refine g_iload_4 (pc := 57) X dX12_weigh_57 ?_
          refine g_iconst (pc := 59) X dX12_weigh_59 kiconst_m1 ?_
          replace h := h (G o γ 0 0 116 s8 74 [some (.ref (ad o 65)), some (.int p0), some (.int p1), some (.int p2), some (.int x10), none] []) (by
              intro  h
              refine g_iload_4 (pc := 74) X dX12_weigh_74 ?_
              refine g_iconst (pc := 76) X dX12_weigh_76 kiconst_m1 ?_
              replace h := h (fun x12 => G o γ 0 0 116 s8 85 [some (.ref (ad o 65)), some (.int p0), some (.int p1), some (.int p2), some (.int x10), none] [.int x12]) (by
                  intro x12 h
                  refine g_istore_5 (pc := 85) X dX12_weigh_85 (by decide) rfl ?_
                  refine g_iload_4 (pc := 87) X dX12_weigh_87 ?_
                  refine g_iconst (pc := 89) X dX12_weigh_89 kiconst_m1 ?_
                  replace h := h (fun x14 s15 => s15.2.2 = gRf b → G o γ 0 0 116 s15 109 [some (.ref (ad o 65)), some (.int p0), some (.int p1), some (.int p2), some (.int x14), some (.int x12)] []) (by
                      intro x14 s15 h hR
                      refine g_aload_0 (pc := 109) X dX12_weigh_109 ?_
                      refine g_getRf (pc := 110) X dX12_weigh_110 fl_X12_80 rfl (by decide) rfl hR rfl ?_
                      refine g_iload_4 (pc := 113) X dX12_weigh_113 ?_
                      refine g_iload_1 (pc := 115) X dX12_weigh_115 ?_
                      refine g_iastore_w (pc := 116) X dX12_weigh_116 rfl (by decide) hR h (fun s17 hR h => ?_)
                      refine g_aload_0 (pc := 117) X dX12_weigh_117 ?_
                      refine g_getRf (pc := 118) X dX12_weigh_118 fl_X12_83 rfl (by decide) rfl hR rfl ?_
                      refine g_iload_4 (pc := 121) X dX12_weigh_121 ?_
                      refine g_iload_2 (pc := 123) X dX12_weigh_123 ?_
                      refine g_iastore_w (pc := 124) X dX12_weigh_124 rfl (by decide) hR h (fun s18 hR h => ?_)
                      refine g_aload_0 (pc := 125) X dX12_weigh_125 ?_
                      refine g_getRf (pc := 126) X dX12_weigh_126 fl_X12_86 rfl (by decide) rfl hR rfl ?_
                      refine g_iload_4 (pc := 129) X dX12_weigh_129 ?_
                      refine g_iload_3 (pc := 131) X dX12_weigh_131 ?_
                      refine g_iastore_w (pc := 132) X dX12_weigh_132 rfl (by decide) hR h (fun s19 hR h => ?_)
                      refine g_aload_0 (pc := 133) X dX12_weigh_133 ?_
                      refine g_callV_V (pc := 134) X Y dX12_weigh_134 miX12_untell li_X12_180 (t_X12_untell hR  h) rfl (by decide) rfl ⟨_, rfl⟩ rfl ⟨Nat.le_of_ble_eq_true rfl, Nat.le_of_ble_eq_true rfl⟩ (Nat.le_of_ble_eq_true rfl) (Nat.le_of_ble_eq_true rfl) rfl (by exact Nat.le_of_ble_eq_true rfl) (fun s20 hp => ?_)
                      obtain ⟨hR, h⟩ := hp
                      refine g_iload_5 (pc := 137) X dX12_weigh_137 ?_
                      exact g_ireturn (pc := 139) X Y dX12_weigh_139 (Nat.le_of_ble_eq_true rfl) (Nat.le_of_ble_eq_true rfl) ⟨_, rfl, hR, h⟩)
                  refine g_icmp_ne (pc := 90) X dX12_weigh_90 (tgt := 109) (by decide) (fun q21 => ?_) (fun q21 => ?_)
                  · replace h := h.2 q21
                    exact h hR
                  · replace h := h.1 q21
                    refine g_aload_0 (pc := 93) X dX12_weigh_93 ?_
                    refine g_getI (pc := 94) X dX12_weigh_94 rfl (by decide) fl_X12_338 (Or.inl rfl) ?_
                    refine g_istore_4 (pc := 97) X dX12_weigh_97 (by decide) rfl ?_
                    refine g_aload_0 (pc := 99) X dX12_weigh_99 ?_
                    refine g_dup (pc := 100) X dX12_weigh_100 rfl ?_
                    refine g_getI (pc := 101) X dX12_weigh_101 rfl (by decide) fl_X12_338 (Or.inl rfl) ?_
                    refine g_iconst (pc := 104) X dX12_weigh_104 kiconst_1 ?_
                    refine g_iadd (pc := 105) X dX12_weigh_105 ?_
                    refine g_putI_w (pc := 106) X dX12_weigh_106 fl_X12_338 rfl (by decide) rfl rfl hR h (fun s22 hR h => ?_)
                    exact h hR)
              refine g_icmp_ne (pc := 77) X dX12_weigh_77 (tgt := 84) (by decide) (fun q23 => ?_) (fun q23 => ?_)
              · replace h := h.2 q23
                refine g_iconst (pc := 84) X dX12_weigh_84 kiconst_0 ?_
                exact h
              · replace h := h.1 q23
                refine g_iconst (pc := 80) X dX12_weigh_80 kiconst_1 ?_
                refine g_goto (pc := 81) X dX12_weigh_81 (tgt := 85) (by decide) ?_
                exact h)
          refine g_icmp_ne (pc := 60) X dX12_weigh_60 (tgt := 74) (by decide) (fun q24 => ?_) (fun q24 => ?_)
          · replace h := h.2 q24
            exact h
          · replace h := h.1 q24
            refine g_aload_0 (pc := 63) X dX12_weigh_63 ?_
            refine g_getI (pc := 64) X dX12_weigh_64 rfl (by decide) fl_X12_338 (Or.inl rfl) ?_
            refine g_bipush (pc := 67) X dX12_weigh_67 kbipush_60 ?_
            refine g_icmp_ne (pc := 69) X dX12_weigh_69 (tgt := 74) (by decide) (fun q25 => ?_) (fun q25 => ?_)
            · replace h := h.2 q25
              exact h
            · replace h := h.1 q25
              refine g_iconst (pc := 72) X dX12_weigh_72 kiconst_m1 ?_
              exact g_ireturn (pc := 73) X Y dX12_weigh_73 (Nat.le_of_ble_eq_true rfl) (Nat.le_of_ble_eq_true rfl) ⟨_, rfl, hR, h⟩
        · replace h := h.1 q9
          refine g_iconst (pc := 47) X dX12_weigh_47 kiconst_0 ?_
          exact g_ireturn (pc := 48) X Y dX12_weigh_48 (Nat.le_of_ble_eq_true rfl) (Nat.le_of_ble_eq_true rfl) ⟨_, rfl, hR, h⟩)
    replace h := h (G o γ 0 0 116 s3 35 [some (.ref (ad o 65)), some (.int p0), some (.int p1), some (.int p2), none, none] [.ref (ad o 65)]) (by
        intro  h
        refine g_iconst (pc := 35) X dX12_weigh_35 kiconst_1 ?_
        refine g_goto (pc := 36) X dX12_weigh_36 (tgt := 40) (by decide) ?_
        exact h)
    refine g_icmp_eq (pc := 19) X dX12_weigh_19 (tgt := 35) (by decide) (fun q27 => ?_) (fun q27 => ?_)
    · replace h := h.1 q27
      exact h
    · replace h := h.2 q27
      refine g_iload_3 (pc := 22) X dX12_weigh_22 ?_
      refine g_sipush (pc := 23) X dX12_weigh_23 ksipush_m10000 ?_
      refine g_sipush (pc := 26) X dX12_weigh_26 ksipush_10000 ?_
      refine g_callS_I (pc := 29) X Y dX12_weigh_29 miX12_within li_X12_169 (t_X12_within hR  h) rfl ⟨Nat.le_of_ble_eq_true rfl, Nat.le_of_ble_eq_true rfl⟩ (Nat.le_of_ble_eq_true rfl) (Nat.le_of_ble_eq_true rfl) rfl (by exact Nat.le_of_ble_eq_true rfl) (fun x28 σ9 hp => ?_)
      obtain ⟨rfl, h⟩ := hp
      refine g_if_eq (pc := 32) X dX12_weigh_32 (tgt := 39) (by decide) (fun q29 => ?_) (fun q29 => ?_)
      · replace h := h.1 q29
        refine g_iconst (pc := 39) X dX12_weigh_39 kiconst_0 ?_
        exact h
      · replace h := h.2 q29
        exact h
def W_X12_forget (p0 : Int32) (p1 : Int32) (Q : Int32 → gSt → Prop) (σ : gSt) : Prop := fI σ 65 0 (nI 0) (fun s1 => W_X12_isPair p0 p1 (fun x2 s3 => ((x2 = 0 → (Q (nI 0) s3)) ∧ (¬ x2 = 0 → (W_X12_toldAt p0 p1 (fun x5 => ((x5 = ((-1 : Int32)) → (Q (nI 0) s3)) ∧ (¬ x5 = ((-1 : Int32)) → (fI s3 65 33 ((s3.1 65 33) - (nI 1)) (fun s7 => rI s7 87 60 (s7.1 65 33) (fun x8 => wI s7 87 60 x5 x8 (fun s9 => rI s9 88 60 (s9.1 65 33) (fun x10 => wI s9 88 60 x5 x10 (fun s11 => rI s11 89 60 (s11.1 65 33) (fun x12 => wI s11 89 60 x5 x12 (fun s13 => W_X12_untell (fun s14 => Q (nI 1) s14) s13))))))))))) s3)))) s1)
set_option maxHeartbeats 4000000 in
theorem t_X12_forget {o : gOm} {l : Launch} {b : Bool}   {σ : gSt} (hR : σ.2.2 = gRf b) {p0 : Int32} {p1 : Int32} {Q : Int32 → gSt → Prop} (h : W_X12_forget p0 p1 Q σ) : Sp o l mX12_forget 4 0 0 [.ref (ad o 65), .int p0, .int p1] 116 116 σ (pI (fun x s => s.2.2 = gRf b ∧ Q x s)) := by
  unfold W_X12_forget at h
  refine Sp.of (ls0 := [some (.ref (ad o 65)), some (.int p0), some (.int p1), none]) miX12_forget rfl (Nat.le_of_ble_eq_true rfl) rfl (fun γ hγ hnm X Y => ?_)
  subst hγ
  have X : gX o γ cX12_forget 4 RX12 := X
  refine g_aload_0 (pc := 0) X dX12_forget_0 ?_
  refine g_iconst (pc := 1) X dX12_forget_1 kiconst_0 ?_
  refine g_putI_w (pc := 2) X dX12_forget_2 fl_X12_1 rfl (by decide) rfl rfl hR h (fun s1 hR h => ?_)
  refine g_aload_0 (pc := 5) X dX12_forget_5 ?_
  refine g_iload_1 (pc := 6) X dX12_forget_6 ?_
  refine g_iload_2 (pc := 7) X dX12_forget_7 ?_
  refine g_callV_I (pc := 8) X Y dX12_forget_8 miX12_isPair li_X12_362 (t_X12_isPair hR  h) rfl (by decide) rfl ⟨_, rfl⟩ rfl ⟨Nat.le_of_ble_eq_true rfl, Nat.le_of_ble_eq_true rfl⟩ (Nat.le_of_ble_eq_true rfl) (Nat.le_of_ble_eq_true rfl) rfl (by exact Nat.le_of_ble_eq_true rfl) (fun x2 s3 hp => ?_)
  obtain ⟨hR, h⟩ := hp
  refine g_if_ne (pc := 11) X dX12_forget_11 (tgt := 16) (by decide) (fun q4 => ?_) (fun q4 => ?_)
  · replace h := h.2 q4
    refine g_aload_0 (pc := 16) X dX12_forget_16 ?_
    refine g_iload_1 (pc := 17) X dX12_forget_17 ?_
    refine g_iload_2 (pc := 18) X dX12_forget_18 ?_
    refine g_callV_I (pc := 19) X Y dX12_forget_19 miX12_toldAt li_X12_344 (t_X12_toldAt hR  h) rfl (by decide) rfl ⟨_, rfl⟩ rfl ⟨Nat.le_of_ble_eq_true rfl, Nat.le_of_ble_eq_true rfl⟩ (Nat.le_of_ble_eq_true rfl) (Nat.le_of_ble_eq_true rfl) rfl (by exact Nat.le_of_ble_eq_true rfl) (fun x5 σ9 hp => ?_)
    obtain ⟨rfl, h⟩ := hp
    refine g_istore_3 (pc := 22) X dX12_forget_22 (by decide) rfl ?_
    refine g_iload_3 (pc := 23) X dX12_forget_23 ?_
    refine g_iconst (pc := 24) X dX12_forget_24 kiconst_m1 ?_
    refine g_icmp_ne (pc := 25) X dX12_forget_25 (tgt := 30) (by decide) (fun q6 => ?_) (fun q6 => ?_)
    · replace h := h.2 q6
      refine g_aload_0 (pc := 30) X dX12_forget_30 ?_
      refine g_dup (pc := 31) X dX12_forget_31 rfl ?_
      refine g_getI (pc := 32) X dX12_forget_32 rfl (by decide) fl_X12_338 (Or.inl rfl) ?_
      refine g_iconst (pc := 35) X dX12_forget_35 kiconst_1 ?_
      refine g_isub (pc := 36) X dX12_forget_36 ?_
      refine g_putI_w (pc := 37) X dX12_forget_37 fl_X12_338 rfl (by decide) rfl rfl hR h (fun s7 hR h => ?_)
      refine g_aload_0 (pc := 40) X dX12_forget_40 ?_
      refine g_getRf (pc := 41) X dX12_forget_41 fl_X12_80 rfl (by decide) rfl hR rfl ?_
      refine g_iload_3 (pc := 44) X dX12_forget_44 ?_
      refine g_aload_0 (pc := 45) X dX12_forget_45 ?_
      refine g_getRf (pc := 46) X dX12_forget_46 fl_X12_80 rfl (by decide) rfl hR rfl ?_
      refine g_aload_0 (pc := 49) X dX12_forget_49 ?_
      refine g_getI (pc := 50) X dX12_forget_50 rfl (by decide) fl_X12_338 (Or.inl rfl) ?_
      refine g_iaload_w (pc := 53) X dX12_forget_53 rfl (by decide) h (fun x8 h => ?_)
      refine g_iastore_w (pc := 54) X dX12_forget_54 rfl (by decide) hR h (fun s9 hR h => ?_)
      refine g_aload_0 (pc := 55) X dX12_forget_55 ?_
      refine g_getRf (pc := 56) X dX12_forget_56 fl_X12_83 rfl (by decide) rfl hR rfl ?_
      refine g_iload_3 (pc := 59) X dX12_forget_59 ?_
      refine g_aload_0 (pc := 60) X dX12_forget_60 ?_
      refine g_getRf (pc := 61) X dX12_forget_61 fl_X12_83 rfl (by decide) rfl hR rfl ?_
      refine g_aload_0 (pc := 64) X dX12_forget_64 ?_
      refine g_getI (pc := 65) X dX12_forget_65 rfl (by decide) fl_X12_338 (Or.inl rfl) ?_
      refine g_iaload_w (pc := 68) X dX12_forget_68 rfl (by decide) h (fun x10 h => ?_)
      refine g_iastore_w (pc := 69) X dX12_forget_69 rfl (by decide) hR h (fun s11 hR h => ?_)
      refine g_aload_0 (pc := 70) X dX12_forget_70 ?_
      refine g_getRf (pc := 71) X dX12_forget_71 fl_X12_86 rfl (by decide) rfl hR rfl ?_
      refine g_iload_3 (pc := 74) X dX12_forget_74 ?_
      refine g_aload_0 (pc := 75) X dX12_forget_75 ?_
      refine g_getRf (pc := 76) X dX12_forget_76 fl_X12_86 rfl (by decide) rfl hR rfl ?_
      refine g_aload_0 (pc := 79) X dX12_forget_79 ?_
      refine g_getI (pc := 80) X dX12_forget_80 rfl (by decide) fl_X12_338 (Or.inl rfl) ?_
      refine g_iaload_w (pc := 83) X dX12_forget_83 rfl (by decide) h (fun x12 h => ?_)
      refine g_iastore_w (pc := 84) X dX12_forget_84 rfl (by decide) hR h (fun s13 hR h => ?_)
      refine g_aload_0 (pc := 85) X dX12_forget_85 ?_
      refine g_callV_V (pc := 86) X Y dX12_forget_86 miX12_untell li_X12_180 (t_X12_untell hR  h) rfl (by decide) rfl ⟨_, rfl⟩ rfl ⟨Nat.le_of_ble_eq_true rfl, Nat.le_of_ble_eq_true rfl⟩ (Nat.le_of_ble_eq_true rfl) (Nat.le_of_ble_eq_true rfl) rfl (by exact Nat.le_of_ble_eq_true rfl) (fun s14 hp => ?_)
      obtain ⟨hR, h⟩ := hp
      refine g_iconst (pc := 89) X dX12_forget_89 kiconst_1 ?_
      exact g_ireturn (pc := 90) X Y dX12_forget_90 (Nat.le_of_ble_eq_true rfl) (Nat.le_of_ble_eq_true rfl) ⟨_, rfl, hR, h⟩
    · replace h := h.1 q6
      refine g_iconst (pc := 28) X dX12_forget_28 kiconst_0 ?_
      exact g_ireturn (pc := 29) X Y dX12_forget_29 (Nat.le_of_ble_eq_true rfl) (Nat.le_of_ble_eq_true rfl) ⟨_, rfl, hR, h⟩
  · replace h := h.1 q4
    refine g_iconst (pc := 14) X dX12_forget_14 kiconst_0 ?_
    exact g_ireturn (pc := 15) X Y dX12_forget_15 (Nat.le_of_ble_eq_true rfl) (Nat.le_of_ble_eq_true rfl) ⟨_, rfl, hR, h⟩
def W_X12_law (p0 : Int32) (p1 : Int32) (Q : Int32 → gSt → Prop) (σ : gSt) : Prop := fI σ 65 0 (nI 0) (fun s1 => W_X12_within p0 (nI 0) (nI 2) (fun x2 => ∀ J4 : Int32 → Prop, (∀ x3, (W_X12_may x3 (nI 1) (fun x5 s6 => ((x5 = 0 → (Q (nI 0) s6)) ∧ (¬ x5 = 0 → (∀ J9 : Int32 → Prop, (∀ x8, (((p0 = 0 → (fI s6 65 41 p1 (fun s14 => Q x8 s14))) ∧ (¬ p0 = 0 → (((p0 = (nI 1) → (fI s6 65 42 p1 (fun s13 => Q x8 s13))) ∧ (¬ p0 = (nI 1) → (fI s6 65 43 p1 (fun s12 => Q x8 s12)))))))) → J9 x8) → ((p0 = 0 → (J9 (s6.1 65 41))) ∧ (¬ p0 = 0 → (((p0 = (nI 1) → (J9 (s6.1 65 42))) ∧ (¬ p0 = (nI 1) → (J9 (s6.1 65 43))))))))))) s1) → J4 x3) → ∀ J17 : Prop, ((J4 (nI 0)) → J17) → ((x2 = 0 → J17) ∧ (¬ x2 = 0 → (∀ J20 : Int32 → Prop, (∀ x19, (∀ J22 : Int32 → Prop, (∀ x21, (W_X12_within p1 x19 x21 (fun x23 => ((x23 = 0 → J17) ∧ (¬ x23 = 0 → (J4 (nI 1))))) s1) → J22 x21) → ((p0 = 0 → (J22 (nI 30))) ∧ (¬ p0 = 0 → (((p0 = (nI 1) → (J22 (nI 1))) ∧ (¬ p0 = (nI 1) → (J22 (nI 199)))))))) → J20 x19) → ((p0 = (nI 2) → (J20 ((-1 : Int32)))) ∧ (¬ p0 = (nI 2) → (J20 (nI 0)))))))) s1)
set_option maxHeartbeats 4000000 in
theorem t_X12_law {o : gOm} {l : Launch} {b : Bool}   {σ : gSt} (hR : σ.2.2 = gRf b) {p0 : Int32} {p1 : Int32} {Q : Int32 → gSt → Prop} (h : W_X12_law p0 p1 Q σ) : Sp o l mX12_law 2 0 0 [.ref (ad o 65), .int p0, .int p1] 116 116 σ (pI (fun x s => s.2.2 = gRf b ∧ Q x s)) := by
  unfold W_X12_law at h
  refine Sp.of (ls0 := [some (.ref (ad o 65)), some (.int p0), some (.int p1), none]) miX12_law rfl (Nat.le_of_ble_eq_true rfl) rfl (fun γ hγ hnm X Y => ?_)
  subst hγ
  have X : gX o γ cX12_law 4 RX12 := X
  refine g_aload_0 (pc := 0) X dX12_law_0 ?_
  refine g_iconst (pc := 1) X dX12_law_1 kiconst_0 ?_
  refine g_putI_w (pc := 2) X dX12_law_2 fl_X12_1 rfl (by decide) rfl rfl hR h (fun s1 hR h => ?_)
  refine g_aload_0 (pc := 5) X dX12_law_5 ?_
  refine g_iload_1 (pc := 6) X dX12_law_6 ?_
  refine g_iconst (pc := 7) X dX12_law_7 kiconst_0 ?_
  refine g_iconst (pc := 8) X dX12_law_8 kiconst_2 ?_
  refine g_callS_I (pc := 9) X Y dX12_law_9 miX12_within li_X12_169 (t_X12_within hR  h) rfl ⟨Nat.le_of_ble_eq_true rfl, Nat.le_of_ble_eq_true rfl⟩ (Nat.le_of_ble_eq_true rfl) (Nat.le_of_ble_eq_true rfl) rfl (by exact Nat.le_of_ble_eq_true rfl) (fun x2 σ9 hp => ?_)
  obtain ⟨rfl, h⟩ := hp
  replace h := h (fun x3 => G o γ 0 0 116 s1 58 [some (.ref (ad o 65)), some (.int p0), some (.int p1), none] [.int x3, .ref (ad o 65)]) (by
      intro x3 h
      refine g_iconst (pc := 58) X dX12_law_58 kiconst_1 ?_
      refine g_callV_I (pc := 59) X Y dX12_law_59 miX12_may li_X12_173 (t_X12_may hR  h) rfl (by decide) rfl ⟨_, rfl⟩ rfl ⟨Nat.le_of_ble_eq_true rfl, Nat.le_of_ble_eq_true rfl⟩ (Nat.le_of_ble_eq_true rfl) (Nat.le_of_ble_eq_true rfl) rfl (by exact Nat.le_of_ble_eq_true rfl) (fun x5 s6 hp => ?_)
      obtain ⟨hR, h⟩ := hp
      refine g_if_ne (pc := 62) X dX12_law_62 (tgt := 67) (by decide) (fun q7 => ?_) (fun q7 => ?_)
      · replace h := h.2 q7
        refine g_iload_1 (pc := 67) X dX12_law_67 ?_
        replace h := h (fun x8 => G o γ 0 0 116 s6 94 [some (.ref (ad o 65)), some (.int p0), some (.int p1), none] [.int x8]) (by
            intro x8 h
            refine g_istore_3 (pc := 94) X dX12_law_94 (by decide) rfl ?_
            refine g_iload_1 (pc := 95) X dX12_law_95 ?_
            refine g_if_ne (pc := 96) X dX12_law_96 (tgt := 107) (by decide) (fun q10 => ?_) (fun q10 => ?_)
            · replace h := h.2 q10
              refine g_iload_1 (pc := 107) X dX12_law_107 ?_
              refine g_iconst (pc := 108) X dX12_law_108 kiconst_1 ?_
              refine g_icmp_ne (pc := 109) X dX12_law_109 (tgt := 120) (by decide) (fun q11 => ?_) (fun q11 => ?_)
              · replace h := h.2 q11
                refine g_aload_0 (pc := 120) X dX12_law_120 ?_
                refine g_iload_2 (pc := 121) X dX12_law_121 ?_
                refine g_putI_w (pc := 122) X dX12_law_122 fl_X12_102 rfl (by decide) rfl rfl hR h (fun s12 hR h => ?_)
                refine g_iload_3 (pc := 125) X dX12_law_125 ?_
                exact g_ireturn (pc := 126) X Y dX12_law_126 (Nat.le_of_ble_eq_true rfl) (Nat.le_of_ble_eq_true rfl) ⟨_, rfl, hR, h⟩
              · replace h := h.1 q11
                refine g_aload_0 (pc := 112) X dX12_law_112 ?_
                refine g_iload_2 (pc := 113) X dX12_law_113 ?_
                refine g_putI_w (pc := 114) X dX12_law_114 fl_X12_359 rfl (by decide) rfl rfl hR h (fun s13 hR h => ?_)
                refine g_goto (pc := 117) X dX12_law_117 (tgt := 125) (by decide) ?_
                refine g_iload_3 (pc := 125) X dX12_law_125 ?_
                exact g_ireturn (pc := 126) X Y dX12_law_126 (Nat.le_of_ble_eq_true rfl) (Nat.le_of_ble_eq_true rfl) ⟨_, rfl, hR, h⟩
            · replace h := h.1 q10
              refine g_aload_0 (pc := 99) X dX12_law_99 ?_
              refine g_iload_2 (pc := 100) X dX12_law_100 ?_
              refine g_putI_w (pc := 101) X dX12_law_101 fl_X12_365 rfl (by decide) rfl rfl hR h (fun s14 hR h => ?_)
              refine g_goto (pc := 104) X dX12_law_104 (tgt := 125) (by decide) ?_
              refine g_iload_3 (pc := 125) X dX12_law_125 ?_
              exact g_ireturn (pc := 126) X Y dX12_law_126 (Nat.le_of_ble_eq_true rfl) (Nat.le_of_ble_eq_true rfl) ⟨_, rfl, hR, h⟩)
        refine g_if_ne (pc := 68) X dX12_law_68 (tgt := 78) (by decide) (fun q15 => ?_) (fun q15 => ?_)
        · replace h := h.2 q15
          refine g_iload_1 (pc := 78) X dX12_law_78 ?_
          refine g_iconst (pc := 79) X dX12_law_79 kiconst_1 ?_
          refine g_icmp_ne (pc := 80) X dX12_law_80 (tgt := 90) (by decide) (fun q16 => ?_) (fun q16 => ?_)
          · replace h := h.2 q16
            refine g_aload_0 (pc := 90) X dX12_law_90 ?_
            refine g_getI (pc := 91) X dX12_law_91 rfl (by decide) fl_X12_102 (Or.inl rfl) ?_
            exact h
          · replace h := h.1 q16
            refine g_aload_0 (pc := 83) X dX12_law_83 ?_
            refine g_getI (pc := 84) X dX12_law_84 rfl (by decide) fl_X12_359 (Or.inl rfl) ?_
            refine g_goto (pc := 87) X dX12_law_87 (tgt := 94) (by decide) ?_
            exact h
        · replace h := h.1 q15
          refine g_aload_0 (pc := 71) X dX12_law_71 ?_
          refine g_getI (pc := 72) X dX12_law_72 rfl (by decide) fl_X12_365 (Or.inl rfl) ?_
          refine g_goto (pc := 75) X dX12_law_75 (tgt := 94) (by decide) ?_
          exact h
      · replace h := h.1 q7
        refine g_iconst (pc := 65) X dX12_law_65 kiconst_0 ?_
        exact g_ireturn (pc := 66) X Y dX12_law_66 (Nat.le_of_ble_eq_true rfl) (Nat.le_of_ble_eq_true rfl) ⟨_, rfl, hR, h⟩)
  replace h := h (G o γ 0 0 116 s1 57 [some (.ref (ad o 65)), some (.int p0), some (.int p1), none] [.ref (ad o 65)]) (by
      intro  h
      refine g_iconst (pc := 57) X dX12_law_57 kiconst_0 ?_
      exact h)
  refine g_if_eq (pc := 12) X dX12_law_12 (tgt := 57) (by decide) (fun q18 => ?_) (fun q18 => ?_)
  · replace h := h.1 q18
    exact h
  · replace h := h.2 q18
    refine g_iload_2 (pc := 15) X dX12_law_15 ?_
    refine g_iload_1 (pc := 16) X dX12_law_16 ?_
    refine g_iconst (pc := 17) X dX12_law_17 kiconst_2 ?_
    replace h := h (fun x19 => G o γ 0 0 116 s1 26 [some (.ref (ad o 65)), some (.int p0), some (.int p1), none] [.int x19, .int p1, .ref (ad o 65)]) (by
        intro x19 h
        refine g_iload_1 (pc := 26) X dX12_law_26 ?_
        replace h := h (fun x21 => G o γ 0 0 116 s1 47 [some (.ref (ad o 65)), some (.int p0), some (.int p1), none] [.int x21, .int x19, .int p1, .ref (ad o 65)]) (by
            intro x21 h
            refine g_callS_I (pc := 47) X Y dX12_law_47 miX12_within li_X12_169 (t_X12_within hR  h) rfl ⟨Nat.le_of_ble_eq_true rfl, Nat.le_of_ble_eq_true rfl⟩ (Nat.le_of_ble_eq_true rfl) (Nat.le_of_ble_eq_true rfl) rfl (by exact Nat.le_of_ble_eq_true rfl) (fun x23 σ9 hp => ?_)
            obtain ⟨rfl, h⟩ := hp
            refine g_if_eq (pc := 50) X dX12_law_50 (tgt := 57) (by decide) (fun q24 => ?_) (fun q24 => ?_)
            · replace h := h.1 q24
              exact h
            · replace h := h.2 q24
              refine g_iconst (pc := 53) X dX12_law_53 kiconst_1 ?_
              refine g_goto (pc := 54) X dX12_law_54 (tgt := 58) (by decide) ?_
              exact h)
        refine g_if_ne (pc := 27) X dX12_law_27 (tgt := 35) (by decide) (fun q25 => ?_) (fun q25 => ?_)
        · replace h := h.2 q25
          refine g_iload_1 (pc := 35) X dX12_law_35 ?_
          refine g_iconst (pc := 36) X dX12_law_36 kiconst_1 ?_
          refine g_icmp_ne (pc := 37) X dX12_law_37 (tgt := 44) (by decide) (fun q26 => ?_) (fun q26 => ?_)
          · replace h := h.2 q26
            refine g_sipush (pc := 44) X dX12_law_44 ksipush_199 ?_
            exact h
          · replace h := h.1 q26
            refine g_iconst (pc := 40) X dX12_law_40 kiconst_1 ?_
            refine g_goto (pc := 41) X dX12_law_41 (tgt := 47) (by decide) ?_
            exact h
        · replace h := h.1 q25
          refine g_bipush (pc := 30) X dX12_law_30 kbipush_30 ?_
          refine g_goto (pc := 32) X dX12_law_32 (tgt := 47) (by decide) ?_
          exact h)
    refine g_icmp_ne (pc := 18) X dX12_law_18 (tgt := 25) (by decide) (fun q27 => ?_) (fun q27 => ?_)
    · replace h := h.2 q27
      refine g_iconst (pc := 25) X dX12_law_25 kiconst_0 ?_
      exact h
    · replace h := h.1 q27
      refine g_iconst (pc := 21) X dX12_law_21 kiconst_m1 ?_
      refine g_goto (pc := 22) X dX12_law_22 (tgt := 26) (by decide) ?_
      exact h
def W_X12_fix (p0 : Int32) (p1 : Int32) (p2 : Int32) (Q : Int32 → gSt → Prop) (σ : gSt) : Prop := fI σ 65 0 (nI 0) (fun s1 => W_X12_isPair p0 p1 (fun x2 s3 => ((x2 = 0 → (Q (nI 0) s3)) ∧ (¬ x2 = 0 → (W_X12_fixAt p0 p1 (fun x5 => ((x5 = ((-1 : Int32)) → ((((s3.1 65 44) = (nI 20) → (Q ((-1 : Int32)) s3)) ∧ (¬ (s3.1 65 44) = (nI 20) → (wI s3 94 20 (s3.1 65 44) p0 (fun s8 => wI s8 95 20 (s8.1 65 44) p1 (fun s9 => wZ s9 96 20 (s9.1 65 44) p2 (fun s10 => fI s10 65 44 ((s10.1 65 44) + (nI 1)) (fun s11 => Q (s11.1 65 44) s11))))))))) ∧ (¬ x5 = ((-1 : Int32)) → (Q (nI 0) s3)))) s3)))) s1)
set_option maxHeartbeats 4000000 in
theorem t_X12_fix {o : gOm} {l : Launch} {b : Bool}   {σ : gSt} (hR : σ.2.2 = gRf b) {p0 : Int32} {p1 : Int32} {p2 : Int32} {Q : Int32 → gSt → Prop} (h : W_X12_fix p0 p1 p2 Q σ) : Sp o l mX12_fix 4 0 0 [.ref (ad o 65), .int p0, .int p1, .int p2] 116 116 σ (pI (fun x s => s.2.2 = gRf b ∧ Q x s)) := by
  unfold W_X12_fix at h
  refine Sp.of (ls0 := [some (.ref (ad o 65)), some (.int p0), some (.int p1), some (.int p2)]) miX12_fix rfl (Nat.le_of_ble_eq_true rfl) rfl (fun γ hγ hnm X Y => ?_)
  subst hγ
  have X : gX o γ cX12_fix 4 RX12 := X
  refine g_aload_0 (pc := 0) X dX12_fix_0 ?_
  refine g_iconst (pc := 1) X dX12_fix_1 kiconst_0 ?_
  refine g_putI_w (pc := 2) X dX12_fix_2 fl_X12_1 rfl (by decide) rfl rfl hR h (fun s1 hR h => ?_)
  refine g_aload_0 (pc := 5) X dX12_fix_5 ?_
  refine g_iload_1 (pc := 6) X dX12_fix_6 ?_
  refine g_iload_2 (pc := 7) X dX12_fix_7 ?_
  refine g_callV_I (pc := 8) X Y dX12_fix_8 miX12_isPair li_X12_362 (t_X12_isPair hR  h) rfl (by decide) rfl ⟨_, rfl⟩ rfl ⟨Nat.le_of_ble_eq_true rfl, Nat.le_of_ble_eq_true rfl⟩ (Nat.le_of_ble_eq_true rfl) (Nat.le_of_ble_eq_true rfl) rfl (by exact Nat.le_of_ble_eq_true rfl) (fun x2 s3 hp => ?_)
  obtain ⟨hR, h⟩ := hp
  refine g_if_ne (pc := 11) X dX12_fix_11 (tgt := 16) (by decide) (fun q4 => ?_) (fun q4 => ?_)
  · replace h := h.2 q4
    refine g_aload_0 (pc := 16) X dX12_fix_16 ?_
    refine g_iload_1 (pc := 17) X dX12_fix_17 ?_
    refine g_iload_2 (pc := 18) X dX12_fix_18 ?_
    refine g_callV_I (pc := 19) X Y dX12_fix_19 miX12_fixAt li_X12_356 (t_X12_fixAt hR  h) rfl (by decide) rfl ⟨_, rfl⟩ rfl ⟨Nat.le_of_ble_eq_true rfl, Nat.le_of_ble_eq_true rfl⟩ (Nat.le_of_ble_eq_true rfl) (Nat.le_of_ble_eq_true rfl) rfl (by exact Nat.le_of_ble_eq_true rfl) (fun x5 σ9 hp => ?_)
    obtain ⟨rfl, h⟩ := hp
    refine g_iconst (pc := 22) X dX12_fix_22 kiconst_m1 ?_
    refine g_icmp_eq (pc := 23) X dX12_fix_23 (tgt := 28) (by decide) (fun q6 => ?_) (fun q6 => ?_)
    · replace h := h.1 q6
      refine g_aload_0 (pc := 28) X dX12_fix_28 ?_
      refine g_getI (pc := 29) X dX12_fix_29 rfl (by decide) fl_X12_368 (Or.inl rfl) ?_
      refine g_bipush (pc := 32) X dX12_fix_32 kbipush_20 ?_
      refine g_icmp_ne (pc := 34) X dX12_fix_34 (tgt := 39) (by decide) (fun q7 => ?_) (fun q7 => ?_)
      · replace h := h.2 q7
        refine g_aload_0 (pc := 39) X dX12_fix_39 ?_
        refine g_getRf (pc := 40) X dX12_fix_40 fl_X12_105 rfl (by decide) rfl hR rfl ?_
        refine g_aload_0 (pc := 43) X dX12_fix_43 ?_
        refine g_getI (pc := 44) X dX12_fix_44 rfl (by decide) fl_X12_368 (Or.inl rfl) ?_
        refine g_iload_1 (pc := 47) X dX12_fix_47 ?_
        refine g_iastore_w (pc := 48) X dX12_fix_48 rfl (by decide) hR h (fun s8 hR h => ?_)
        refine g_aload_0 (pc := 49) X dX12_fix_49 ?_
        refine g_getRf (pc := 50) X dX12_fix_50 fl_X12_108 rfl (by decide) rfl hR rfl ?_
        refine g_aload_0 (pc := 53) X dX12_fix_53 ?_
        refine g_getI (pc := 54) X dX12_fix_54 rfl (by decide) fl_X12_368 (Or.inl rfl) ?_
        refine g_iload_2 (pc := 57) X dX12_fix_57 ?_
        refine g_iastore_w (pc := 58) X dX12_fix_58 rfl (by decide) hR h (fun s9 hR h => ?_)
        refine g_aload_0 (pc := 59) X dX12_fix_59 ?_
        refine g_getRf (pc := 60) X dX12_fix_60 fl_X12_111 rfl (by decide) rfl hR rfl ?_
        refine g_aload_0 (pc := 63) X dX12_fix_63 ?_
        refine g_getI (pc := 64) X dX12_fix_64 rfl (by decide) fl_X12_368 (Or.inl rfl) ?_
        refine g_iload_3 (pc := 67) X dX12_fix_67 ?_
        refine g_bastore_w (pc := 68) X dX12_fix_68 rfl (by decide) hR h (fun s10 hR h => ?_)
        refine g_aload_0 (pc := 69) X dX12_fix_69 ?_
        refine g_dup (pc := 70) X dX12_fix_70 rfl ?_
        refine g_getI (pc := 71) X dX12_fix_71 rfl (by decide) fl_X12_368 (Or.inl rfl) ?_
        refine g_iconst (pc := 74) X dX12_fix_74 kiconst_1 ?_
        refine g_iadd (pc := 75) X dX12_fix_75 ?_
        refine g_putI_w (pc := 76) X dX12_fix_76 fl_X12_368 rfl (by decide) rfl rfl hR h (fun s11 hR h => ?_)
        refine g_aload_0 (pc := 79) X dX12_fix_79 ?_
        refine g_getI (pc := 80) X dX12_fix_80 rfl (by decide) fl_X12_368 (Or.inl rfl) ?_
        exact g_ireturn (pc := 83) X Y dX12_fix_83 (Nat.le_of_ble_eq_true rfl) (Nat.le_of_ble_eq_true rfl) ⟨_, rfl, hR, h⟩
      · replace h := h.1 q7
        refine g_iconst (pc := 37) X dX12_fix_37 kiconst_m1 ?_
        exact g_ireturn (pc := 38) X Y dX12_fix_38 (Nat.le_of_ble_eq_true rfl) (Nat.le_of_ble_eq_true rfl) ⟨_, rfl, hR, h⟩
    · replace h := h.2 q6
      refine g_iconst (pc := 26) X dX12_fix_26 kiconst_0 ?_
      exact g_ireturn (pc := 27) X Y dX12_fix_27 (Nat.le_of_ble_eq_true rfl) (Nat.le_of_ble_eq_true rfl) ⟨_, rfl, hR, h⟩
  · replace h := h.1 q4
    refine g_iconst (pc := 14) X dX12_fix_14 kiconst_0 ?_
    exact g_ireturn (pc := 15) X Y dX12_fix_15 (Nat.le_of_ble_eq_true rfl) (Nat.le_of_ble_eq_true rfl) ⟨_, rfl, hR, h⟩
def W_X12_loose (p0 : Int32) (p1 : Int32) (Q : Int32 → gSt → Prop) (σ : gSt) : Prop := fI σ 65 0 (nI 0) (fun s1 => W_X12_isPair p0 p1 (fun x2 s3 => ((x2 = 0 → (Q (nI 0) s3)) ∧ (¬ x2 = 0 → (W_X12_fixAt p0 p1 (fun x5 => ((x5 = ((-1 : Int32)) → (Q (nI 0) s3)) ∧ (¬ x5 = ((-1 : Int32)) → (fI s3 65 44 ((s3.1 65 44) - (nI 1)) (fun s7 => rI s7 94 20 (s7.1 65 44) (fun x8 => wI s7 94 20 x5 x8 (fun s9 => rI s9 95 20 (s9.1 65 44) (fun x10 => wI s9 95 20 x5 x10 (fun s11 => rI s11 96 20 (s11.1 65 44) (fun x12 => wZ s11 96 20 x5 x12 (fun s13 => Q (nI 1) s13))))))))))) s3)))) s1)
set_option maxHeartbeats 4000000 in
theorem t_X12_loose {o : gOm} {l : Launch} {b : Bool}   {σ : gSt} (hR : σ.2.2 = gRf b) {p0 : Int32} {p1 : Int32} {Q : Int32 → gSt → Prop} (h : W_X12_loose p0 p1 Q σ) : Sp o l mX12_loose 4 0 0 [.ref (ad o 65), .int p0, .int p1] 116 116 σ (pI (fun x s => s.2.2 = gRf b ∧ Q x s)) := by
  unfold W_X12_loose at h
  refine Sp.of (ls0 := [some (.ref (ad o 65)), some (.int p0), some (.int p1), none]) miX12_loose rfl (Nat.le_of_ble_eq_true rfl) rfl (fun γ hγ hnm X Y => ?_)
  subst hγ
  have X : gX o γ cX12_loose 4 RX12 := X
  refine g_aload_0 (pc := 0) X dX12_loose_0 ?_
  refine g_iconst (pc := 1) X dX12_loose_1 kiconst_0 ?_
  refine g_putI_w (pc := 2) X dX12_loose_2 fl_X12_1 rfl (by decide) rfl rfl hR h (fun s1 hR h => ?_)
  refine g_aload_0 (pc := 5) X dX12_loose_5 ?_
  refine g_iload_1 (pc := 6) X dX12_loose_6 ?_
  refine g_iload_2 (pc := 7) X dX12_loose_7 ?_
  refine g_callV_I (pc := 8) X Y dX12_loose_8 miX12_isPair li_X12_362 (t_X12_isPair hR  h) rfl (by decide) rfl ⟨_, rfl⟩ rfl ⟨Nat.le_of_ble_eq_true rfl, Nat.le_of_ble_eq_true rfl⟩ (Nat.le_of_ble_eq_true rfl) (Nat.le_of_ble_eq_true rfl) rfl (by exact Nat.le_of_ble_eq_true rfl) (fun x2 s3 hp => ?_)
  obtain ⟨hR, h⟩ := hp
  refine g_if_ne (pc := 11) X dX12_loose_11 (tgt := 16) (by decide) (fun q4 => ?_) (fun q4 => ?_)
  · replace h := h.2 q4
    refine g_aload_0 (pc := 16) X dX12_loose_16 ?_
    refine g_iload_1 (pc := 17) X dX12_loose_17 ?_
    refine g_iload_2 (pc := 18) X dX12_loose_18 ?_
    refine g_callV_I (pc := 19) X Y dX12_loose_19 miX12_fixAt li_X12_356 (t_X12_fixAt hR  h) rfl (by decide) rfl ⟨_, rfl⟩ rfl ⟨Nat.le_of_ble_eq_true rfl, Nat.le_of_ble_eq_true rfl⟩ (Nat.le_of_ble_eq_true rfl) (Nat.le_of_ble_eq_true rfl) rfl (by exact Nat.le_of_ble_eq_true rfl) (fun x5 σ9 hp => ?_)
    obtain ⟨rfl, h⟩ := hp
    refine g_istore_3 (pc := 22) X dX12_loose_22 (by decide) rfl ?_
    refine g_iload_3 (pc := 23) X dX12_loose_23 ?_
    refine g_iconst (pc := 24) X dX12_loose_24 kiconst_m1 ?_
    refine g_icmp_ne (pc := 25) X dX12_loose_25 (tgt := 30) (by decide) (fun q6 => ?_) (fun q6 => ?_)
    · replace h := h.2 q6
      refine g_aload_0 (pc := 30) X dX12_loose_30 ?_
      refine g_dup (pc := 31) X dX12_loose_31 rfl ?_
      refine g_getI (pc := 32) X dX12_loose_32 rfl (by decide) fl_X12_368 (Or.inl rfl) ?_
      refine g_iconst (pc := 35) X dX12_loose_35 kiconst_1 ?_
      refine g_isub (pc := 36) X dX12_loose_36 ?_
      refine g_putI_w (pc := 37) X dX12_loose_37 fl_X12_368 rfl (by decide) rfl rfl hR h (fun s7 hR h => ?_)
      refine g_aload_0 (pc := 40) X dX12_loose_40 ?_
      refine g_getRf (pc := 41) X dX12_loose_41 fl_X12_105 rfl (by decide) rfl hR rfl ?_
      refine g_iload_3 (pc := 44) X dX12_loose_44 ?_
      refine g_aload_0 (pc := 45) X dX12_loose_45 ?_
      refine g_getRf (pc := 46) X dX12_loose_46 fl_X12_105 rfl (by decide) rfl hR rfl ?_
      refine g_aload_0 (pc := 49) X dX12_loose_49 ?_
      refine g_getI (pc := 50) X dX12_loose_50 rfl (by decide) fl_X12_368 (Or.inl rfl) ?_
      refine g_iaload_w (pc := 53) X dX12_loose_53 rfl (by decide) h (fun x8 h => ?_)
      refine g_iastore_w (pc := 54) X dX12_loose_54 rfl (by decide) hR h (fun s9 hR h => ?_)
      refine g_aload_0 (pc := 55) X dX12_loose_55 ?_
      refine g_getRf (pc := 56) X dX12_loose_56 fl_X12_108 rfl (by decide) rfl hR rfl ?_
      refine g_iload_3 (pc := 59) X dX12_loose_59 ?_
      refine g_aload_0 (pc := 60) X dX12_loose_60 ?_
      refine g_getRf (pc := 61) X dX12_loose_61 fl_X12_108 rfl (by decide) rfl hR rfl ?_
      refine g_aload_0 (pc := 64) X dX12_loose_64 ?_
      refine g_getI (pc := 65) X dX12_loose_65 rfl (by decide) fl_X12_368 (Or.inl rfl) ?_
      refine g_iaload_w (pc := 68) X dX12_loose_68 rfl (by decide) h (fun x10 h => ?_)
      refine g_iastore_w (pc := 69) X dX12_loose_69 rfl (by decide) hR h (fun s11 hR h => ?_)
      refine g_aload_0 (pc := 70) X dX12_loose_70 ?_
      refine g_getRf (pc := 71) X dX12_loose_71 fl_X12_111 rfl (by decide) rfl hR rfl ?_
      refine g_iload_3 (pc := 74) X dX12_loose_74 ?_
      refine g_aload_0 (pc := 75) X dX12_loose_75 ?_
      refine g_getRf (pc := 76) X dX12_loose_76 fl_X12_111 rfl (by decide) rfl hR rfl ?_
      refine g_aload_0 (pc := 79) X dX12_loose_79 ?_
      refine g_getI (pc := 80) X dX12_loose_80 rfl (by decide) fl_X12_368 (Or.inl rfl) ?_
      refine g_baload_w (pc := 83) X dX12_loose_83 rfl (by decide) h (fun x12 h => ?_)
      refine g_bastore_w (pc := 84) X dX12_loose_84 rfl (by decide) hR h (fun s13 hR h => ?_)
      refine g_iconst (pc := 85) X dX12_loose_85 kiconst_1 ?_
      exact g_ireturn (pc := 86) X Y dX12_loose_86 (Nat.le_of_ble_eq_true rfl) (Nat.le_of_ble_eq_true rfl) ⟨_, rfl, hR, h⟩
    · replace h := h.1 q6
      refine g_iconst (pc := 28) X dX12_loose_28 kiconst_0 ?_
      exact g_ireturn (pc := 29) X Y dX12_loose_29 (Nat.le_of_ble_eq_true rfl) (Nat.le_of_ble_eq_true rfl) ⟨_, rfl, hR, h⟩
  · replace h := h.1 q4
    refine g_iconst (pc := 14) X dX12_loose_14 kiconst_0 ?_
    exact g_ireturn (pc := 15) X Y dX12_loose_15 (Nat.le_of_ble_eq_true rfl) (Nat.le_of_ble_eq_true rfl) ⟨_, rfl, hR, h⟩
def L_X12_number_20 (k0 : Nat) (Q : gSt → Prop) (c5 : Int32) (s2 : gSt) (K : Int32 → Prop) : Nat → Int32 → Int32 → Prop
  | 0, _, _ => False
  | n20 + 1, v6, v7 => ((v7 < 0 → (K v6)) ∧ (¬ v7 < 0 → (rI s2 k0 ((lay k0).2) v7 (fun x10 => rI s2 k0 ((lay k0).2) c5 (fun x11 => ((x10 = x11 → (L_X12_number_20 k0 Q c5 s2 K n20 v7 (v7 + (-1 : Int32)))) ∧ (¬ x10 = x11 → (L_X12_number_20 k0 Q c5 s2 K n20 v6 (v7 + (-1 : Int32))))))))))
def L_X12_number_2 (k0 : Nat) (Q : gSt → Prop)  (K : gSt → Prop) : Nat → Int32 → gSt → Prop
  | 0, _, _ => False
  | n2 + 1, v1, s2 => (((s2.1 65 1) ≤ v1 → (K s2)) ∧ (¬ (s2.1 65 1) ≤ v1 → (∃ m20, L_X12_number_20 k0 Q v1 s2 (fun y14 => wI s2 98 30 v1 y14 (fun s15 => L_X12_number_2 k0 Q K n2 (v1 + nI 1) s15)) m20 v1 ((s2.1 65 1) - (nI 1)))))
def L_X12_number_59 (k0 : Nat) (Q : gSt → Prop)  (K : gSt → Prop) : Nat → Int32 → gSt → Prop
  | 0, _, _ => False
  | n59 + 1, v18, s19 => (((s19.1 65 1) ≤ v18 → (K s19)) ∧ (¬ (s19.1 65 1) ≤ v18 → (rI s19 98 30 v18 (fun x22 => wI s19 k0 ((lay k0).2) v18 x22 (fun s23 => L_X12_number_59 k0 Q K n59 (v18 + nI 1) s23)))))
def W_X12_number (k0 : Nat) (Q : gSt → Prop) (σ : gSt) : Prop := ∃ m2, L_X12_number_2 k0 Q (fun s17 => ∃ m59, L_X12_number_59 k0 Q (fun s25 => Q s25) m59 (nI 0) s17) m2 (nI 0) σ
set_option maxHeartbeats 4000000 in
theorem t_X12_number {o : gOm} {l : Launch} {b : Bool}   {σ : gSt} (hR : σ.2.2 = gRf b) {k0 : Nat} {Q : gSt → Prop} (hk0 : k0 < 116) (hk00 : (lay k0).1 = 0) (h : W_X12_number k0 Q σ) : Sp o l mX12_number 1 0 0 [.ref (ad o 65), .ref (ad o k0)] 116 116 σ (pV (fun s => s.2.2 = gRf b ∧ Q s)) := by
  have hk0y : lay k0 = (0, (lay k0).2) := Prod.ext hk00 rfl
  unfold W_X12_number at h
  refine Sp.of (ls0 := [some (.ref (ad o 65)), some (.ref (ad o k0)), none, none, none]) miX12_number rfl (Nat.le_of_ble_eq_true rfl) rfl (fun γ hγ hnm X Y => ?_)
  subst hγ
  have X : gX o γ cX12_number 5 RX12 := X
  refine g_iconst (pc := 0) X dX12_number_0 kiconst_0 ?_
  refine g_istore_2 (pc := 1) X dX12_number_1 (by decide) rfl ?_
  obtain ⟨n16, h⟩ := h
  have hL : ∀  (K : gSt → Prop) (_ : ∀  (s3 : gSt), s3.2.2 = gRf b → K s3 → G o γ 0 0 116 s3 57 [some (.ref (ad o 65)), some (.ref (ad o k0)), none, none, none] []) (n : Nat) (v1 : Int32) (s2 : gSt), s2.2.2 = gRf b → L_X12_number_2 k0 Q K n v1 s2 → G o γ 0 0 116 s2 2 [some (.ref (ad o 65)), some (.ref (ad o k0)), some (.int v1), none, none] [] := by
    intro K hK n
    induction n with
    | zero => intro v1 s2 hR h; exact False.elim h
    | succ n ih =>
      intro v1 s2 hR h
      rw [L_X12_number_2] at h
      refine g_iload_2 (pc := 2) X dX12_number_2 ?_
      refine g_aload_0 (pc := 3) X dX12_number_3 ?_
      refine g_getI (pc := 4) X dX12_number_4 rfl (by decide) fl_X12_177 (Or.inl rfl) ?_
      refine g_icmp_ge (pc := 7) X dX12_number_7 (tgt := 57) (by decide) (fun q4 => ?_) (fun q4 => ?_)
      · replace h := h.1 q4
        exact g_drop (by simp [lsub]) (hK s2 hR h)
      · replace h := h.2 q4
        refine g_iload_2 (pc := 10) X dX12_number_10 ?_
        refine g_istore_3 (pc := 11) X dX12_number_11 (by decide) rfl ?_
        refine g_aload_0 (pc := 12) X dX12_number_12 ?_
        refine g_getI (pc := 13) X dX12_number_13 rfl (by decide) fl_X12_177 (Or.inl rfl) ?_
        refine g_iconst (pc := 16) X dX12_number_16 kiconst_1 ?_
        refine g_isub (pc := 17) X dX12_number_17 ?_
        refine g_istore_4 (pc := 18) X dX12_number_18 (by decide) rfl ?_
        obtain ⟨n13, h⟩ := h
        have hL : ∀ (c5 : Int32) (K : Int32 → Prop) (_ : ∀ (y8 : Int32), K y8 → G o γ 0 0 116 s2 44 [some (.ref (ad o 65)), some (.ref (ad o k0)), some (.int c5), some (.int y8), none] []) (n : Nat) (v6 : Int32) (v7 : Int32), L_X12_number_20 k0 Q c5 s2 K n v6 v7 → G o γ 0 0 116 s2 20 [some (.ref (ad o 65)), some (.ref (ad o k0)), some (.int c5), some (.int v6), some (.int v7)] [] := by
          intro c5 K hK n
          induction n with
          | zero => intro v6 v7 h; exact False.elim h
          | succ n ih =>
            intro v6 v7 h
            rw [L_X12_number_20] at h
            refine g_iload_4 (pc := 20) X dX12_number_20 ?_
            refine g_if_lt (pc := 22) X dX12_number_22 (tgt := 44) (by decide) (fun q9 => ?_) (fun q9 => ?_)
            · replace h := h.1 q9
              exact g_drop (by simp [lsub]) (hK v6 h)
            · replace h := h.2 q9
              refine g_aload_1 (pc := 25) X dX12_number_25 ?_
              refine g_iload_4 (pc := 26) X dX12_number_26 ?_
              refine g_iaload_w (pc := 28) X dX12_number_28 hk0y hk0 h (fun x10 h => ?_)
              refine g_aload_1 (pc := 29) X dX12_number_29 ?_
              refine g_iload_2 (pc := 30) X dX12_number_30 ?_
              refine g_iaload_w (pc := 31) X dX12_number_31 hk0y hk0 h (fun x11 h => ?_)
              refine g_icmp_ne (pc := 32) X dX12_number_32 (tgt := 38) (by decide) (fun q12 => ?_) (fun q12 => ?_)
              · replace h := h.2 q12
                refine g_iinc_4 (pc := 38) X dX12_number_38 (v := v7 + (-1 : Int32)) rfl (by decide) rfl ?_
                refine g_goto (pc := 41) X dX12_number_41 (tgt := 20) (by decide) ?_
                exact ih v6 (v7 + (-1 : Int32)) h
              · replace h := h.1 q12
                refine g_iload_4 (pc := 35) X dX12_number_35 ?_
                refine g_istore_3 (pc := 37) X dX12_number_37 (by decide) rfl ?_
                refine g_iinc_4 (pc := 38) X dX12_number_38 (v := v7 + (-1 : Int32)) rfl (by decide) rfl ?_
                refine g_goto (pc := 41) X dX12_number_41 (tgt := 20) (by decide) ?_
                exact ih v7 (v7 + (-1 : Int32)) h
        refine hL v1 _ (fun y14 h => ?_) n13 v1 ((s2.1 65 1) - (nI 1)) h
        · refine g_aload_0 (pc := 44) X dX12_number_44 ?_
          refine g_getRf (pc := 45) X dX12_number_45 fl_X12_117 rfl (by decide) rfl hR rfl ?_
          refine g_iload_2 (pc := 48) X dX12_number_48 ?_
          refine g_iload_3 (pc := 49) X dX12_number_49 ?_
          refine g_iastore_w (pc := 50) X dX12_number_50 rfl (by decide) hR h (fun s15 hR h => ?_)
          refine g_iinc_2 (pc := 51) X dX12_number_51 (v := v1 + nI 1) rfl (by decide) rfl ?_
          refine g_goto (pc := 54) X dX12_number_54 (tgt := 2) (by decide) ?_
          exact g_drop (by simp [lsub]) (ih (v1 + nI 1) s15 hR h)
  refine hL  _ (fun s17 hR h => ?_) n16 (nI 0) σ hR h
  · refine g_iconst (pc := 57) X dX12_number_57 kiconst_0 ?_
    refine g_istore_2 (pc := 58) X dX12_number_58 (by decide) rfl ?_
    obtain ⟨n24, h⟩ := h
    have hL : ∀  (K : gSt → Prop) (_ : ∀  (s20 : gSt), s20.2.2 = gRf b → K s20 → G o γ 0 0 116 s20 82 [some (.ref (ad o 65)), some (.ref (ad o k0)), none, none, none] []) (n : Nat) (v18 : Int32) (s19 : gSt), s19.2.2 = gRf b → L_X12_number_59 k0 Q K n v18 s19 → G o γ 0 0 116 s19 59 [some (.ref (ad o 65)), some (.ref (ad o k0)), some (.int v18), none, none] [] := by
      intro K hK n
      induction n with
      | zero => intro v18 s19 hR h; exact False.elim h
      | succ n ih =>
        intro v18 s19 hR h
        rw [L_X12_number_59] at h
        refine g_iload_2 (pc := 59) X dX12_number_59 ?_
        refine g_aload_0 (pc := 60) X dX12_number_60 ?_
        refine g_getI (pc := 61) X dX12_number_61 rfl (by decide) fl_X12_177 (Or.inl rfl) ?_
        refine g_icmp_ge (pc := 64) X dX12_number_64 (tgt := 82) (by decide) (fun q21 => ?_) (fun q21 => ?_)
        · replace h := h.1 q21
          exact g_drop (by simp [lsub]) (hK s19 hR h)
        · replace h := h.2 q21
          refine g_aload_1 (pc := 67) X dX12_number_67 ?_
          refine g_iload_2 (pc := 68) X dX12_number_68 ?_
          refine g_aload_0 (pc := 69) X dX12_number_69 ?_
          refine g_getRf (pc := 70) X dX12_number_70 fl_X12_117 rfl (by decide) rfl hR rfl ?_
          refine g_iload_2 (pc := 73) X dX12_number_73 ?_
          refine g_iaload_w (pc := 74) X dX12_number_74 rfl (by decide) h (fun x22 h => ?_)
          refine g_iastore_w (pc := 75) X dX12_number_75 hk0y hk0 hR h (fun s23 hR h => ?_)
          refine g_iinc_2 (pc := 76) X dX12_number_76 (v := v18 + nI 1) rfl (by decide) rfl ?_
          refine g_goto (pc := 79) X dX12_number_79 (tgt := 59) (by decide) ?_
          exact ih (v18 + nI 1) s23 hR h
    refine hL  _ (fun s25 hR h => ?_) n24 (nI 0) s17 hR h
    · exact g_return (pc := 82) X Y dX12_number_82 (Nat.le_of_ble_eq_true rfl) (Nat.le_of_ble_eq_true rfl) ⟨rfl, hR, h⟩
def L_X12_costOf_20 (k0 : Nat) (Q : Int64 → Prop) (c5 : Int32) (σ : gSt) (K : Int64 → Prop) : Nat → Int64 → Int32 → Prop
  | 0, _, _ => False
  | n20 + 1, v6, v7 => (((σ.1 65 1) ≤ v7 → (K v6)) ∧ (¬ (σ.1 65 1) ≤ v7 → (rI σ 90 900 (((nI 30) * c5) + v7) (fun x10 => rI σ k0 ((lay k0).2) c5 (fun x11 => rI σ k0 ((lay k0).2) v7 (fun x12 => ∀ J14 : Int64 → Prop, (∀ x13, (L_X12_costOf_20 k0 Q c5 σ K n20 (v6 + x13) (v7 + nI 1)) → J14 x13) → ((x11 = x12 → (((0 ≤ x10 → (J14 (lN 0))) ∧ (¬ 0 ≤ x10 → (J14 (i2l (-x10))))))) ∧ (¬ x11 = x12 → (((x10 ≤ 0 → (J14 (lN 0))) ∧ (¬ x10 ≤ 0 → (J14 (i2l x10)))))))))))))
def L_X12_costOf_5 (k0 : Nat) (Q : Int64 → Prop)  (σ : gSt) (K : Int64 → Prop) : Nat → Int64 → Int32 → Prop
  | 0, _, _ => False
  | n5 + 1, v1, v2 => (((σ.1 65 1) ≤ v2 → (K v1)) ∧ (¬ (σ.1 65 1) ≤ v2 → (∃ m20, L_X12_costOf_20 k0 Q v2 σ (fun y19 => L_X12_costOf_5 k0 Q σ K n5 y19 (v2 + nI 1)) m20 v1 (v2 + (nI 1)))))
def W_X12_costOf (k0 : Nat) (Q : Int64 → Prop) (σ : gSt) : Prop := ∃ m5, L_X12_costOf_5 k0 Q σ (fun y21 => Q y21) m5 (lN 0) (nI 0)
set_option maxHeartbeats 4000000 in
theorem t_X12_costOf {o : gOm} {l : Launch} {b : Bool}   {σ : gSt} (hR : σ.2.2 = gRf b) {k0 : Nat} {Q : Int64 → Prop} (hk0 : k0 < 116) (hk00 : (lay k0).1 = 0) (h : W_X12_costOf k0 Q σ) : Sp o l mX12_costOf 1 0 0 [.ref (ad o 65), .ref (ad o k0)] 116 116 σ (pL (fun x s => σ = s ∧ Q x)) := by
  have hk0y : lay k0 = (0, (lay k0).2) := Prod.ext hk00 rfl
  unfold W_X12_costOf at h
  refine Sp.of (ls0 := [some (.ref (ad o 65)), some (.ref (ad o k0)), none, none, none, none, none]) miX12_costOf rfl (Nat.le_of_ble_eq_true rfl) rfl (fun γ hγ hnm X Y => ?_)
  subst hγ
  have X : gX o γ cX12_costOf 7 RX12 := X
  refine g_lconst (pc := 0) X dX12_costOf_0 (v := lN 0) rfl ?_
  refine g_lstore_2 (pc := 1) X dX12_costOf_1 (by decide) rfl ?_
  refine g_iconst (pc := 2) X dX12_costOf_2 kiconst_0 ?_
  refine g_istore_4 (pc := 3) X dX12_costOf_3 (by decide) rfl ?_
  obtain ⟨n20, h⟩ := h
  have hL : ∀  (K : Int64 → Prop) (_ : ∀ (y3 : Int64), K y3 → G o γ 0 0 116 σ 98 [some (.ref (ad o 65)), some (.ref (ad o k0)), some (.long y3), none, none, none, none] []) (n : Nat) (v1 : Int64) (v2 : Int32), L_X12_costOf_5 k0 Q σ K n v1 v2 → G o γ 0 0 116 σ 5 [some (.ref (ad o 65)), some (.ref (ad o k0)), some (.long v1), none, some (.int v2), none, none] [] := by
    intro K hK n
    induction n with
    | zero => intro v1 v2 h; exact False.elim h
    | succ n ih =>
      intro v1 v2 h
      rw [L_X12_costOf_5] at h
      refine g_iload_4 (pc := 5) X dX12_costOf_5 ?_
      refine g_aload_0 (pc := 7) X dX12_costOf_7 ?_
      refine g_getI (pc := 8) X dX12_costOf_8 rfl (by decide) fl_X12_177 (Or.inl rfl) ?_
      refine g_icmp_ge (pc := 11) X dX12_costOf_11 (tgt := 98) (by decide) (fun q4 => ?_) (fun q4 => ?_)
      · replace h := h.1 q4
        exact g_drop (by simp [lsub]) (hK v1 h)
      · replace h := h.2 q4
        refine g_iload_4 (pc := 14) X dX12_costOf_14 ?_
        refine g_iconst (pc := 16) X dX12_costOf_16 kiconst_1 ?_
        refine g_iadd (pc := 17) X dX12_costOf_17 ?_
        refine g_istore_5 (pc := 18) X dX12_costOf_18 (by decide) rfl ?_
        obtain ⟨n18, h⟩ := h
        have hL : ∀ (c5 : Int32) (K : Int64 → Prop) (_ : ∀ (y8 : Int64), K y8 → G o γ 0 0 116 σ 92 [some (.ref (ad o 65)), some (.ref (ad o k0)), some (.long y8), none, some (.int c5), none, none] []) (n : Nat) (v6 : Int64) (v7 : Int32), L_X12_costOf_20 k0 Q c5 σ K n v6 v7 → G o γ 0 0 116 σ 20 [some (.ref (ad o 65)), some (.ref (ad o k0)), some (.long v6), none, some (.int c5), some (.int v7), none] [] := by
          intro c5 K hK n
          induction n with
          | zero => intro v6 v7 h; exact False.elim h
          | succ n ih =>
            intro v6 v7 h
            rw [L_X12_costOf_20] at h
            refine g_iload_5 (pc := 20) X dX12_costOf_20 ?_
            refine g_aload_0 (pc := 22) X dX12_costOf_22 ?_
            refine g_getI (pc := 23) X dX12_costOf_23 rfl (by decide) fl_X12_177 (Or.inl rfl) ?_
            refine g_icmp_ge (pc := 26) X dX12_costOf_26 (tgt := 92) (by decide) (fun q9 => ?_) (fun q9 => ?_)
            · replace h := h.1 q9
              exact g_drop (by simp [lsub]) (hK v6 h)
            · replace h := h.2 q9
              refine g_aload_0 (pc := 29) X dX12_costOf_29 ?_
              refine g_getRf (pc := 30) X dX12_costOf_30 fl_X12_89 rfl (by decide) rfl hR rfl ?_
              refine g_bipush (pc := 33) X dX12_costOf_33 kbipush_30 ?_
              refine g_iload_4 (pc := 35) X dX12_costOf_35 ?_
              refine g_imul (pc := 37) X dX12_costOf_37 ?_
              refine g_iload_5 (pc := 38) X dX12_costOf_38 ?_
              refine g_iadd (pc := 40) X dX12_costOf_40 ?_
              refine g_iaload_w (pc := 41) X dX12_costOf_41 rfl (by decide) h (fun x10 h => ?_)
              refine g_istore_6 (pc := 42) X dX12_costOf_42 (by decide) rfl ?_
              refine g_lload_2 (pc := 44) X dX12_costOf_44 ?_
              refine g_aload_1 (pc := 45) X dX12_costOf_45 ?_
              refine g_iload_4 (pc := 46) X dX12_costOf_46 ?_
              refine g_iaload_w (pc := 48) X dX12_costOf_48 hk0y hk0 h (fun x11 h => ?_)
              refine g_aload_1 (pc := 49) X dX12_costOf_49 ?_
              refine g_iload_5 (pc := 50) X dX12_costOf_50 ?_
              refine g_iaload_w (pc := 52) X dX12_costOf_52 hk0y hk0 h (fun x12 h => ?_)
              replace h := h (fun x13 => G o γ 0 0 116 σ 84 [some (.ref (ad o 65)), some (.ref (ad o k0)), none, none, some (.int c5), some (.int v7), none] [.long x13, .long v6]) (by
                  intro x13 h
                  refine g_ladd (pc := 84) X dX12_costOf_84 ?_
                  refine g_lstore_2 (pc := 85) X dX12_costOf_85 (by decide) rfl ?_
                  refine g_iinc_5 (pc := 86) X dX12_costOf_86 (v := v7 + nI 1) rfl (by decide) rfl ?_
                  refine g_goto (pc := 89) X dX12_costOf_89 (tgt := 20) (by decide) ?_
                  exact ih (v6 + x13) (v7 + nI 1) h)
              refine g_icmp_ne (pc := 53) X dX12_costOf_53 (tgt := 72) (by decide) (fun q15 => ?_) (fun q15 => ?_)
              · replace h := h.2 q15
                refine g_iload_6 (pc := 72) X dX12_costOf_72 ?_
                refine g_if_le (pc := 74) X dX12_costOf_74 (tgt := 83) (by decide) (fun q16 => ?_) (fun q16 => ?_)
                · replace h := h.1 q16
                  refine g_lconst (pc := 83) X dX12_costOf_83 (v := lN 0) rfl ?_
                  exact g_drop (by simp [lsub]) (h)
                · replace h := h.2 q16
                  refine g_iload_6 (pc := 77) X dX12_costOf_77 ?_
                  refine g_i2l (pc := 79) X dX12_costOf_79 ?_
                  refine g_goto (pc := 80) X dX12_costOf_80 (tgt := 84) (by decide) ?_
                  exact g_drop (by simp [lsub]) (h)
              · replace h := h.1 q15
                refine g_iload_6 (pc := 56) X dX12_costOf_56 ?_
                refine g_if_ge (pc := 58) X dX12_costOf_58 (tgt := 68) (by decide) (fun q17 => ?_) (fun q17 => ?_)
                · replace h := h.1 q17
                  refine g_lconst (pc := 68) X dX12_costOf_68 (v := lN 0) rfl ?_
                  refine g_goto (pc := 69) X dX12_costOf_69 (tgt := 84) (by decide) ?_
                  exact g_drop (by simp [lsub]) (h)
                · replace h := h.2 q17
                  refine g_iload_6 (pc := 61) X dX12_costOf_61 ?_
                  refine g_ineg (pc := 63) X dX12_costOf_63 ?_
                  refine g_i2l (pc := 64) X dX12_costOf_64 ?_
                  refine g_goto (pc := 65) X dX12_costOf_65 (tgt := 84) (by decide) ?_
                  exact g_drop (by simp [lsub]) (h)
        refine hL v2 _ (fun y19 h => ?_) n18 v1 (v2 + (nI 1)) h
        · refine g_iinc_4 (pc := 92) X dX12_costOf_92 (v := v2 + nI 1) rfl (by decide) rfl ?_
          refine g_goto (pc := 95) X dX12_costOf_95 (tgt := 5) (by decide) ?_
          exact ih y19 (v2 + nI 1) h
  refine hL  _ (fun y21 h => ?_) n20 (lN 0) (nI 0) h
  · refine g_lload_2 (pc := 98) X dX12_costOf_98 ?_
    exact g_lreturn (pc := 99) X Y dX12_costOf_99 (Nat.le_of_ble_eq_true rfl) (Nat.le_of_ble_eq_true rfl) ⟨_, rfl, rfl, h⟩
def L_X12_barredIn_18 (k0 : Nat) (Q : Int32 → Prop) (c3 : Int32) (σ : gSt) (K : Int32 → Int32 → Prop) : Nat → Int32 → Int32 → Int32 → Prop
  | 0, _, _, _ => False
  | n18 + 1, v4, v5, v6 => ((c3 ≤ v6 → (K v4 v5)) ∧ (¬ c3 ≤ v6 → (∀ J11 : Int32 → Prop, (∀ x10, (rI σ k0 ((lay k0).2) v6 (fun x12 => rI σ k0 ((lay k0).2) c3 (fun x13 => ∀ J15 : Int32 → Prop, (∀ x14, (L_X12_barredIn_18 k0 Q c3 σ K n18 (v4 + x14) x10 (v6 + nI 1)) → J15 x14) → ((x12 = x13 → (J15 (nI 1))) ∧ (¬ x12 = x13 → (J15 (nI 0))))))) → J11 x10) → ∀ J17 : Prop, ((J11 (nI 1)) → J17) → ((v5 = 0 → (rI σ k0 ((lay k0).2) v6 (fun x19 => rI σ k0 ((lay k0).2) c3 (fun x20 => ((x19 = x20 → (rI σ 92 900 (((nI 30) * v6) + c3) (fun x24 => ((x24 = 0 → (J11 (nI 0))) ∧ (¬ x24 = 0 → J17))))) ∧ (¬ x19 = x20 → (rI σ 93 900 (((nI 30) * v6) + c3) (fun x22 => ((x22 = 0 → (J11 (nI 0))) ∧ (¬ x22 = 0 → J17)))))))))) ∧ (¬ v5 = 0 → J17)))))
def L_X12_barredIn_2 (k0 : Nat) (Q : Int32 → Prop)  (σ : gSt) (K : Prop) : Nat → Int32 → Prop
  | 0, _ => False
  | n2 + 1, v1 => (((σ.1 65 1) ≤ v1 → K) ∧ (¬ (σ.1 65 1) ≤ v1 → (∃ m18, L_X12_barredIn_18 k0 Q v1 σ (fun y27 y28 => ((y28 = 0 → ((((σ.1 65 41) ≤ 0 → (L_X12_barredIn_2 k0 Q σ K n2 (v1 + nI 1))) ∧ (¬ (σ.1 65 41) ≤ 0 → (((y27 ≤ (σ.1 65 41) → (L_X12_barredIn_2 k0 Q σ K n2 (v1 + nI 1))) ∧ (¬ y27 ≤ (σ.1 65 41) → (Q v1)))))))) ∧ (¬ y28 = 0 → (Q v1)))) m18 (nI 1) (nI 0) (nI 0))))
def W_X12_barredIn (k0 : Nat) (Q : Int32 → Prop) (σ : gSt) : Prop := ∃ m2, L_X12_barredIn_2 k0 Q σ (Q ((-1 : Int32))) m2 (nI 0)
set_option maxHeartbeats 4000000 in
theorem t_X12_barredIn {o : gOm} {l : Launch} {b : Bool}   {σ : gSt} (hR : σ.2.2 = gRf b) {k0 : Nat} {Q : Int32 → Prop} (hk0 : k0 < 116) (hk00 : (lay k0).1 = 0) (h : W_X12_barredIn k0 Q σ) : Sp o l mX12_barredIn 1 0 0 [.ref (ad o 65), .ref (ad o k0)] 116 116 σ (pI (fun x s => σ = s ∧ Q x)) := by
  have hk0y : lay k0 = (0, (lay k0).2) := Prod.ext hk00 rfl
  unfold W_X12_barredIn at h
  refine Sp.of (ls0 := [some (.ref (ad o 65)), some (.ref (ad o k0)), none, none, none, none]) miX12_barredIn rfl (Nat.le_of_ble_eq_true rfl) rfl (fun γ hγ hnm X Y => ?_)
  subst hγ
  have X : gX o γ cX12_barredIn 6 RX12 := X
  refine g_iconst (pc := 0) X dX12_barredIn_0 kiconst_0 ?_
  refine g_istore_2 (pc := 1) X dX12_barredIn_1 (by decide) rfl ?_
  obtain ⟨n32, h⟩ := h
  have hL : ∀  (K : Prop) (_ : K → G o γ 0 0 116 σ 131 [some (.ref (ad o 65)), some (.ref (ad o k0)), none, none, none, none] []) (n : Nat) (v1 : Int32), L_X12_barredIn_2 k0 Q σ K n v1 → G o γ 0 0 116 σ 2 [some (.ref (ad o 65)), some (.ref (ad o k0)), some (.int v1), none, none, none] [] := by
    intro K hK n
    induction n with
    | zero => intro v1 h; exact False.elim h
    | succ n ih =>
      intro v1 h
      rw [L_X12_barredIn_2] at h
      refine g_iload_2 (pc := 2) X dX12_barredIn_2 ?_
      refine g_aload_0 (pc := 3) X dX12_barredIn_3 ?_
      refine g_getI (pc := 4) X dX12_barredIn_4 rfl (by decide) fl_X12_177 (Or.inl rfl) ?_
      refine g_icmp_ge (pc := 7) X dX12_barredIn_7 (tgt := 131) (by decide) (fun q2 => ?_) (fun q2 => ?_)
      · replace h := h.1 q2
        exact g_drop (by simp [lsub]) (hK  h)
      · replace h := h.2 q2
        refine g_iconst (pc := 10) X dX12_barredIn_10 kiconst_1 ?_
        refine g_istore_3 (pc := 11) X dX12_barredIn_11 (by decide) rfl ?_
        refine g_iconst (pc := 12) X dX12_barredIn_12 kiconst_0 ?_
        refine g_istore_4 (pc := 13) X dX12_barredIn_13 (by decide) rfl ?_
        refine g_iconst (pc := 15) X dX12_barredIn_15 kiconst_0 ?_
        refine g_istore_5 (pc := 16) X dX12_barredIn_16 (by decide) rfl ?_
        obtain ⟨n26, h⟩ := h
        have hL : ∀ (c3 : Int32) (K : Int32 → Int32 → Prop) (_ : ∀ (y7 : Int32) (y8 : Int32), K y7 y8 → G o γ 0 0 116 σ 103 [some (.ref (ad o 65)), some (.ref (ad o k0)), some (.int c3), some (.int y7), some (.int y8), none] []) (n : Nat) (v4 : Int32) (v5 : Int32) (v6 : Int32), L_X12_barredIn_18 k0 Q c3 σ K n v4 v5 v6 → G o γ 0 0 116 σ 18 [some (.ref (ad o 65)), some (.ref (ad o k0)), some (.int c3), some (.int v4), some (.int v5), some (.int v6)] [] := by
          intro c3 K hK n
          induction n with
          | zero => intro v4 v5 v6 h; exact False.elim h
          | succ n ih =>
            intro v4 v5 v6 h
            rw [L_X12_barredIn_18] at h
            refine g_iload_5 (pc := 18) X dX12_barredIn_18 ?_
            refine g_iload_2 (pc := 20) X dX12_barredIn_20 ?_
            refine g_icmp_ge (pc := 21) X dX12_barredIn_21 (tgt := 103) (by decide) (fun q9 => ?_) (fun q9 => ?_)
            · replace h := h.1 q9
              exact g_drop (by simp [lsub]) (hK v4 v5 h)
            · replace h := h.2 q9
              refine g_iload_4 (pc := 24) X dX12_barredIn_24 ?_
              replace h := h (fun x10 => G o γ 0 0 116 σ 77 [some (.ref (ad o 65)), some (.ref (ad o k0)), some (.int c3), some (.int v4), none, some (.int v6)] [.int x10]) (by
                  intro x10 h
                  refine g_istore_4 (pc := 77) X dX12_barredIn_77 (by decide) rfl ?_
                  refine g_iload_3 (pc := 79) X dX12_barredIn_79 ?_
                  refine g_aload_1 (pc := 80) X dX12_barredIn_80 ?_
                  refine g_iload_5 (pc := 81) X dX12_barredIn_81 ?_
                  refine g_iaload_w (pc := 83) X dX12_barredIn_83 hk0y hk0 h (fun x12 h => ?_)
                  refine g_aload_1 (pc := 84) X dX12_barredIn_84 ?_
                  refine g_iload_2 (pc := 85) X dX12_barredIn_85 ?_
                  refine g_iaload_w (pc := 86) X dX12_barredIn_86 hk0y hk0 h (fun x13 h => ?_)
                  replace h := h (fun x14 => G o γ 0 0 116 σ 95 [some (.ref (ad o 65)), some (.ref (ad o k0)), some (.int c3), none, some (.int x10), some (.int v6)] [.int x14, .int v4]) (by
                      intro x14 h
                      refine g_iadd (pc := 95) X dX12_barredIn_95 ?_
                      refine g_istore_3 (pc := 96) X dX12_barredIn_96 (by decide) rfl ?_
                      refine g_iinc_5 (pc := 97) X dX12_barredIn_97 (v := v6 + nI 1) rfl (by decide) rfl ?_
                      refine g_goto (pc := 100) X dX12_barredIn_100 (tgt := 18) (by decide) ?_
                      exact ih (v4 + x14) x10 (v6 + nI 1) h)
                  refine g_icmp_ne (pc := 87) X dX12_barredIn_87 (tgt := 94) (by decide) (fun q16 => ?_) (fun q16 => ?_)
                  · replace h := h.2 q16
                    refine g_iconst (pc := 94) X dX12_barredIn_94 kiconst_0 ?_
                    exact g_drop (by simp [lsub]) (h)
                  · replace h := h.1 q16
                    refine g_iconst (pc := 90) X dX12_barredIn_90 kiconst_1 ?_
                    refine g_goto (pc := 91) X dX12_barredIn_91 (tgt := 95) (by decide) ?_
                    exact g_drop (by simp [lsub]) (h))
              replace h := h (G o γ 0 0 116 σ 72 [some (.ref (ad o 65)), some (.ref (ad o k0)), some (.int c3), some (.int v4), none, some (.int v6)] []) (by
                  intro  h
                  refine g_iconst (pc := 72) X dX12_barredIn_72 kiconst_1 ?_
                  refine g_goto (pc := 73) X dX12_barredIn_73 (tgt := 77) (by decide) ?_
                  exact h)
              refine g_if_ne (pc := 26) X dX12_barredIn_26 (tgt := 72) (by decide) (fun q18 => ?_) (fun q18 => ?_)
              · replace h := h.2 q18
                exact g_drop (by simp [lsub]) (h)
              · replace h := h.1 q18
                refine g_aload_1 (pc := 29) X dX12_barredIn_29 ?_
                refine g_iload_5 (pc := 30) X dX12_barredIn_30 ?_
                refine g_iaload_w (pc := 32) X dX12_barredIn_32 hk0y hk0 h (fun x19 h => ?_)
                refine g_aload_1 (pc := 33) X dX12_barredIn_33 ?_
                refine g_iload_2 (pc := 34) X dX12_barredIn_34 ?_
                refine g_iaload_w (pc := 35) X dX12_barredIn_35 hk0y hk0 h (fun x20 h => ?_)
                refine g_icmp_ne (pc := 36) X dX12_barredIn_36 (tgt := 57) (by decide) (fun q21 => ?_) (fun q21 => ?_)
                · replace h := h.2 q21
                  refine g_aload_0 (pc := 57) X dX12_barredIn_57 ?_
                  refine g_getRf (pc := 58) X dX12_barredIn_58 fl_X12_99 rfl (by decide) rfl hR rfl ?_
                  refine g_bipush (pc := 61) X dX12_barredIn_61 kbipush_30 ?_
                  refine g_iload_5 (pc := 63) X dX12_barredIn_63 ?_
                  refine g_imul (pc := 65) X dX12_barredIn_65 ?_
                  refine g_iload_2 (pc := 66) X dX12_barredIn_66 ?_
                  refine g_iadd (pc := 67) X dX12_barredIn_67 ?_
                  refine g_baload_w (pc := 68) X dX12_barredIn_68 rfl (by decide) h (fun x22 h => ?_)
                  refine g_if_eq (pc := 69) X dX12_barredIn_69 (tgt := 76) (by decide) (fun q23 => ?_) (fun q23 => ?_)
                  · replace h := h.1 q23
                    refine g_iconst (pc := 76) X dX12_barredIn_76 kiconst_0 ?_
                    exact g_drop (by simp [lsub]) (h)
                  · replace h := h.2 q23
                    exact g_drop (by simp [lsub]) (h)
                · replace h := h.1 q21
                  refine g_aload_0 (pc := 39) X dX12_barredIn_39 ?_
                  refine g_getRf (pc := 40) X dX12_barredIn_40 fl_X12_96 rfl (by decide) rfl hR rfl ?_
                  refine g_bipush (pc := 43) X dX12_barredIn_43 kbipush_30 ?_
                  refine g_iload_5 (pc := 45) X dX12_barredIn_45 ?_
                  refine g_imul (pc := 47) X dX12_barredIn_47 ?_
                  refine g_iload_2 (pc := 48) X dX12_barredIn_48 ?_
                  refine g_iadd (pc := 49) X dX12_barredIn_49 ?_
                  refine g_baload_w (pc := 50) X dX12_barredIn_50 rfl (by decide) h (fun x24 h => ?_)
                  refine g_if_eq (pc := 51) X dX12_barredIn_51 (tgt := 76) (by decide) (fun q25 => ?_) (fun q25 => ?_)
                  · replace h := h.1 q25
                    refine g_iconst (pc := 76) X dX12_barredIn_76 kiconst_0 ?_
                    exact g_drop (by simp [lsub]) (h)
                  · replace h := h.2 q25
                    refine g_goto (pc := 54) X dX12_barredIn_54 (tgt := 72) (by decide) ?_
                    exact g_drop (by simp [lsub]) (h)
        refine hL v1 _ (fun y27 y28 h => ?_) n26 (nI 1) (nI 0) (nI 0) h
        · refine g_iload_4 (pc := 103) X dX12_barredIn_103 ?_
          refine g_if_ne (pc := 105) X dX12_barredIn_105 (tgt := 123) (by decide) (fun q29 => ?_) (fun q29 => ?_)
          · replace h := h.2 q29
            refine g_iload_2 (pc := 123) X dX12_barredIn_123 ?_
            exact g_ireturn (pc := 124) X Y dX12_barredIn_124 (Nat.le_of_ble_eq_true rfl) (Nat.le_of_ble_eq_true rfl) ⟨_, rfl, rfl, h⟩
          · replace h := h.1 q29
            refine g_aload_0 (pc := 108) X dX12_barredIn_108 ?_
            refine g_getI (pc := 109) X dX12_barredIn_109 rfl (by decide) fl_X12_365 (Or.inl rfl) ?_
            refine g_if_le (pc := 112) X dX12_barredIn_112 (tgt := 125) (by decide) (fun q30 => ?_) (fun q30 => ?_)
            · replace h := h.1 q30
              refine g_iinc_2 (pc := 125) X dX12_barredIn_125 (v := v1 + nI 1) rfl (by decide) rfl ?_
              refine g_goto (pc := 128) X dX12_barredIn_128 (tgt := 2) (by decide) ?_
              exact g_drop (by simp [lsub]) (ih (v1 + nI 1) h)
            · replace h := h.2 q30
              refine g_iload_3 (pc := 115) X dX12_barredIn_115 ?_
              refine g_aload_0 (pc := 116) X dX12_barredIn_116 ?_
              refine g_getI (pc := 117) X dX12_barredIn_117 rfl (by decide) fl_X12_365 (Or.inl rfl) ?_
              refine g_icmp_le (pc := 120) X dX12_barredIn_120 (tgt := 125) (by decide) (fun q31 => ?_) (fun q31 => ?_)
              · replace h := h.1 q31
                refine g_iinc_2 (pc := 125) X dX12_barredIn_125 (v := v1 + nI 1) rfl (by decide) rfl ?_
                refine g_goto (pc := 128) X dX12_barredIn_128 (tgt := 2) (by decide) ?_
                exact g_drop (by simp [lsub]) (ih (v1 + nI 1) h)
              · replace h := h.2 q31
                refine g_iload_2 (pc := 123) X dX12_barredIn_123 ?_
                exact g_ireturn (pc := 124) X Y dX12_barredIn_124 (Nat.le_of_ble_eq_true rfl) (Nat.le_of_ble_eq_true rfl) ⟨_, rfl, rfl, h⟩
  refine hL  _ (fun h => ?_) n32 (nI 0) h
  · refine g_iconst (pc := 131) X dX12_barredIn_131 kiconst_m1 ?_
    exact g_ireturn (pc := 132) X Y dX12_barredIn_132 (Nat.le_of_ble_eq_true rfl) (Nat.le_of_ble_eq_true rfl) ⟨_, rfl, rfl, h⟩
def W_X12_fresh (p0 : Int32) (Q : Int32 → Prop) (σ : gSt) : Prop := Q ((nI 100) + p0)
set_option maxHeartbeats 4000000 in
theorem t_X12_fresh {o : gOm} {l : Launch} {b : Bool}   {σ : gSt} (hR : σ.2.2 = gRf b) {p0 : Int32} {Q : Int32 → Prop} (h : W_X12_fresh p0 Q σ) : Sp o l mX12_fresh 1 0 0 [.int p0] 116 116 σ (pI (fun x s => σ = s ∧ Q x)) := by
  unfold W_X12_fresh at h
  refine Sp.of (ls0 := [some (.int p0)]) miX12_fresh rfl (Nat.le_of_ble_eq_true rfl) rfl (fun γ hγ hnm X Y => ?_)
  subst hγ
  have X : gX o γ cX12_fresh 1 RX12 := X
  refine g_bipush (pc := 0) X dX12_fresh_0 kbipush_100 ?_
  refine g_iload_0 (pc := 2) X dX12_fresh_2 ?_
  refine g_iadd (pc := 3) X dX12_fresh_3 ?_
  exact g_ireturn (pc := 4) X Y dX12_fresh_4 (Nat.le_of_ble_eq_true rfl) (Nat.le_of_ble_eq_true rfl) ⟨_, rfl, rfl, h⟩
def L_X12_copyHand_2 (k0 : Nat) (Q : gSt → Prop)  (K : gSt → Prop) : Nat → Int32 → gSt → Prop
  | 0, _, _ => False
  | n2 + 1, v1, s2 => (((s2.1 65 1) ≤ v1 → (K s2)) ∧ (¬ (s2.1 65 1) ≤ v1 → (rI s2 71 30 v1 (fun x5 => wI s2 k0 ((lay k0).2) v1 x5 (fun s6 => L_X12_copyHand_2 k0 Q K n2 (v1 + nI 1) s6)))))
def W_X12_copyHand (k0 : Nat) (Q : gSt → Prop) (σ : gSt) : Prop := ∃ m2, L_X12_copyHand_2 k0 Q (fun s8 => Q s8) m2 (nI 0) σ
set_option maxHeartbeats 4000000 in
theorem t_X12_copyHand {o : gOm} {l : Launch} {b : Bool}   {σ : gSt} (hR : σ.2.2 = gRf b) {k0 : Nat} {Q : gSt → Prop} (hk0 : k0 < 116) (hk00 : (lay k0).1 = 0) (h : W_X12_copyHand k0 Q σ) : Sp o l mX12_copyHand 1 0 0 [.ref (ad o 65), .ref (ad o k0)] 116 116 σ (pV (fun s => s.2.2 = gRf b ∧ Q s)) := by
  have hk0y : lay k0 = (0, (lay k0).2) := Prod.ext hk00 rfl
  unfold W_X12_copyHand at h
  refine Sp.of (ls0 := [some (.ref (ad o 65)), some (.ref (ad o k0)), none]) miX12_copyHand rfl (Nat.le_of_ble_eq_true rfl) rfl (fun γ hγ hnm X Y => ?_)
  subst hγ
  have X : gX o γ cX12_copyHand 3 RX12 := X
  refine g_iconst (pc := 0) X dX12_copyHand_0 kiconst_0 ?_
  refine g_istore_2 (pc := 1) X dX12_copyHand_1 (by decide) rfl ?_
  obtain ⟨n7, h⟩ := h
  have hL : ∀  (K : gSt → Prop) (_ : ∀  (s3 : gSt), s3.2.2 = gRf b → K s3 → G o γ 0 0 116 s3 25 [some (.ref (ad o 65)), some (.ref (ad o k0)), none] []) (n : Nat) (v1 : Int32) (s2 : gSt), s2.2.2 = gRf b → L_X12_copyHand_2 k0 Q K n v1 s2 → G o γ 0 0 116 s2 2 [some (.ref (ad o 65)), some (.ref (ad o k0)), some (.int v1)] [] := by
    intro K hK n
    induction n with
    | zero => intro v1 s2 hR h; exact False.elim h
    | succ n ih =>
      intro v1 s2 hR h
      rw [L_X12_copyHand_2] at h
      refine g_iload_2 (pc := 2) X dX12_copyHand_2 ?_
      refine g_aload_0 (pc := 3) X dX12_copyHand_3 ?_
      refine g_getI (pc := 4) X dX12_copyHand_4 rfl (by decide) fl_X12_177 (Or.inl rfl) ?_
      refine g_icmp_ge (pc := 7) X dX12_copyHand_7 (tgt := 25) (by decide) (fun q4 => ?_) (fun q4 => ?_)
      · replace h := h.1 q4
        exact g_drop (by simp [lsub]) (hK s2 hR h)
      · replace h := h.2 q4
        refine g_aload_1 (pc := 10) X dX12_copyHand_10 ?_
        refine g_iload_2 (pc := 11) X dX12_copyHand_11 ?_
        refine g_aload_0 (pc := 12) X dX12_copyHand_12 ?_
        refine g_getRf (pc := 13) X dX12_copyHand_13 fl_X12_29 rfl (by decide) rfl hR rfl ?_
        refine g_iload_2 (pc := 16) X dX12_copyHand_16 ?_
        refine g_iaload_w (pc := 17) X dX12_copyHand_17 rfl (by decide) h (fun x5 h => ?_)
        refine g_iastore_w (pc := 18) X dX12_copyHand_18 hk0y hk0 hR h (fun s6 hR h => ?_)
        refine g_iinc_2 (pc := 19) X dX12_copyHand_19 (v := v1 + nI 1) rfl (by decide) rfl ?_
        refine g_goto (pc := 22) X dX12_copyHand_22 (tgt := 2) (by decide) ?_
        exact ih (v1 + nI 1) s6 hR h
  refine hL  _ (fun s8 hR h => ?_) n7 (nI 0) σ hR h
  · exact g_return (pc := 25) X Y dX12_copyHand_25 (Nat.le_of_ble_eq_true rfl) (Nat.le_of_ble_eq_true rfl) ⟨rfl, hR, h⟩
def L_X12_takes_2 (k0 : Nat) (Q : gSt → Prop)  (K : gSt → Prop) : Nat → Int32 → gSt → Prop
  | 0, _, _ => False
  | n2 + 1, v1, s2 => (((s2.1 65 1) ≤ v1 → (K s2)) ∧ (¬ (s2.1 65 1) ≤ v1 → (rI s2 k0 ((lay k0).2) v1 (fun x5 => wI s2 71 30 v1 x5 (fun s6 => L_X12_takes_2 k0 Q K n2 (v1 + nI 1) s6)))))
def W_X12_takes (k0 : Nat) (Q : gSt → Prop) (σ : gSt) : Prop := ∃ m2, L_X12_takes_2 k0 Q (fun s8 => W_X12_number 71 (fun s9 => Q s9) s8) m2 (nI 0) σ
set_option maxHeartbeats 4000000 in
theorem t_X12_takes {o : gOm} {l : Launch} {b : Bool}   {σ : gSt} (hR : σ.2.2 = gRf b) {k0 : Nat} {Q : gSt → Prop} (hk0 : k0 < 116) (hk00 : (lay k0).1 = 0) (h : W_X12_takes k0 Q σ) : Sp o l mX12_takes 2 0 0 [.ref (ad o 65), .ref (ad o k0)] 116 116 σ (pV (fun s => s.2.2 = gRf b ∧ Q s)) := by
  have hk0y : lay k0 = (0, (lay k0).2) := Prod.ext hk00 rfl
  unfold W_X12_takes at h
  refine Sp.of (ls0 := [some (.ref (ad o 65)), some (.ref (ad o k0)), none]) miX12_takes rfl (Nat.le_of_ble_eq_true rfl) rfl (fun γ hγ hnm X Y => ?_)
  subst hγ
  have X : gX o γ cX12_takes 3 RX12 := X
  refine g_iconst (pc := 0) X dX12_takes_0 kiconst_0 ?_
  refine g_istore_2 (pc := 1) X dX12_takes_1 (by decide) rfl ?_
  obtain ⟨n7, h⟩ := h
  have hL : ∀  (K : gSt → Prop) (_ : ∀  (s3 : gSt), s3.2.2 = gRf b → K s3 → G o γ 0 0 116 s3 25 [some (.ref (ad o 65)), some (.ref (ad o k0)), none] []) (n : Nat) (v1 : Int32) (s2 : gSt), s2.2.2 = gRf b → L_X12_takes_2 k0 Q K n v1 s2 → G o γ 0 0 116 s2 2 [some (.ref (ad o 65)), some (.ref (ad o k0)), some (.int v1)] [] := by
    intro K hK n
    induction n with
    | zero => intro v1 s2 hR h; exact False.elim h
    | succ n ih =>
      intro v1 s2 hR h
      rw [L_X12_takes_2] at h
      refine g_iload_2 (pc := 2) X dX12_takes_2 ?_
      refine g_aload_0 (pc := 3) X dX12_takes_3 ?_
      refine g_getI (pc := 4) X dX12_takes_4 rfl (by decide) fl_X12_177 (Or.inl rfl) ?_
      refine g_icmp_ge (pc := 7) X dX12_takes_7 (tgt := 25) (by decide) (fun q4 => ?_) (fun q4 => ?_)
      · replace h := h.1 q4
        exact g_drop (by simp [lsub]) (hK s2 hR h)
      · replace h := h.2 q4
        refine g_aload_0 (pc := 10) X dX12_takes_10 ?_
        refine g_getRf (pc := 11) X dX12_takes_11 fl_X12_29 rfl (by decide) rfl hR rfl ?_
        refine g_iload_2 (pc := 14) X dX12_takes_14 ?_
        refine g_aload_1 (pc := 15) X dX12_takes_15 ?_
        refine g_iload_2 (pc := 16) X dX12_takes_16 ?_
        refine g_iaload_w (pc := 17) X dX12_takes_17 hk0y hk0 h (fun x5 h => ?_)
        refine g_iastore_w (pc := 18) X dX12_takes_18 rfl (by decide) hR h (fun s6 hR h => ?_)
        refine g_iinc_2 (pc := 19) X dX12_takes_19 (v := v1 + nI 1) rfl (by decide) rfl ?_
        refine g_goto (pc := 22) X dX12_takes_22 (tgt := 2) (by decide) ?_
        exact ih (v1 + nI 1) s6 hR h
  refine hL  _ (fun s8 hR h => ?_) n7 (nI 0) σ hR h
  · refine g_aload_0 (pc := 25) X dX12_takes_25 ?_
    refine g_aload_0 (pc := 26) X dX12_takes_26 ?_
    refine g_getRf (pc := 27) X dX12_takes_27 fl_X12_29 rfl (by decide) rfl hR rfl ?_
    refine g_callV_V (pc := 30) X Y dX12_takes_30 miX12_number li_X12_371 (t_X12_number hR (by decide) (by decide) h) rfl (by decide) rfl ⟨_, rfl⟩ rfl ⟨Nat.le_of_ble_eq_true rfl, Nat.le_of_ble_eq_true rfl⟩ (Nat.le_of_ble_eq_true rfl) (Nat.le_of_ble_eq_true rfl) rfl (by exact Nat.le_of_ble_eq_true rfl) (fun s9 hp => ?_)
    obtain ⟨hR, h⟩ := hp
    exact g_return (pc := 33) X Y dX12_takes_33 (Nat.le_of_ble_eq_true rfl) (Nat.le_of_ble_eq_true rfl) ⟨rfl, hR, h⟩
def W_X12_put (p0 : Int32) (p1 : Int32) (Q : Int32 → gSt → Prop) (σ : gSt) : Prop := fI σ 65 0 (nI 0) (fun s1 => W_X12_isPair p0 p1 (fun x2 s3 => ((x2 = 0 → (Q (nI 0) s3)) ∧ (¬ x2 = 0 → (rI s3 71 30 p1 (fun x5 => wI s3 71 30 p0 x5 (fun s6 => W_X12_number 71 (fun s7 => rI s7 71 30 p0 (fun x8 => Q x8 s7)) s6)))))) s1)
set_option maxHeartbeats 4000000 in
theorem t_X12_put {o : gOm} {l : Launch} {b : Bool}   {σ : gSt} (hR : σ.2.2 = gRf b) {p0 : Int32} {p1 : Int32} {Q : Int32 → gSt → Prop} (h : W_X12_put p0 p1 Q σ) : Sp o l mX12_put 4 0 0 [.ref (ad o 65), .int p0, .int p1] 116 116 σ (pI (fun x s => s.2.2 = gRf b ∧ Q x s)) := by
  unfold W_X12_put at h
  refine Sp.of (ls0 := [some (.ref (ad o 65)), some (.int p0), some (.int p1)]) miX12_put rfl (Nat.le_of_ble_eq_true rfl) rfl (fun γ hγ hnm X Y => ?_)
  subst hγ
  have X : gX o γ cX12_put 3 RX12 := X
  refine g_aload_0 (pc := 0) X dX12_put_0 ?_
  refine g_iconst (pc := 1) X dX12_put_1 kiconst_0 ?_
  refine g_putI_w (pc := 2) X dX12_put_2 fl_X12_1 rfl (by decide) rfl rfl hR h (fun s1 hR h => ?_)
  refine g_aload_0 (pc := 5) X dX12_put_5 ?_
  refine g_iload_1 (pc := 6) X dX12_put_6 ?_
  refine g_iload_2 (pc := 7) X dX12_put_7 ?_
  refine g_callV_I (pc := 8) X Y dX12_put_8 miX12_isPair li_X12_362 (t_X12_isPair hR  h) rfl (by decide) rfl ⟨_, rfl⟩ rfl ⟨Nat.le_of_ble_eq_true rfl, Nat.le_of_ble_eq_true rfl⟩ (Nat.le_of_ble_eq_true rfl) (Nat.le_of_ble_eq_true rfl) rfl (by exact Nat.le_of_ble_eq_true rfl) (fun x2 s3 hp => ?_)
  obtain ⟨hR, h⟩ := hp
  refine g_if_ne (pc := 11) X dX12_put_11 (tgt := 16) (by decide) (fun q4 => ?_) (fun q4 => ?_)
  · replace h := h.2 q4
    refine g_aload_0 (pc := 16) X dX12_put_16 ?_
    refine g_getRf (pc := 17) X dX12_put_17 fl_X12_29 rfl (by decide) rfl hR rfl ?_
    refine g_iload_1 (pc := 20) X dX12_put_20 ?_
    refine g_aload_0 (pc := 21) X dX12_put_21 ?_
    refine g_getRf (pc := 22) X dX12_put_22 fl_X12_29 rfl (by decide) rfl hR rfl ?_
    refine g_iload_2 (pc := 25) X dX12_put_25 ?_
    refine g_iaload_w (pc := 26) X dX12_put_26 rfl (by decide) h (fun x5 h => ?_)
    refine g_iastore_w (pc := 27) X dX12_put_27 rfl (by decide) hR h (fun s6 hR h => ?_)
    refine g_aload_0 (pc := 28) X dX12_put_28 ?_
    refine g_aload_0 (pc := 29) X dX12_put_29 ?_
    refine g_getRf (pc := 30) X dX12_put_30 fl_X12_29 rfl (by decide) rfl hR rfl ?_
    refine g_callV_V (pc := 33) X Y dX12_put_33 miX12_number li_X12_371 (t_X12_number hR (by decide) (by decide) h) rfl (by decide) rfl ⟨_, rfl⟩ rfl ⟨Nat.le_of_ble_eq_true rfl, Nat.le_of_ble_eq_true rfl⟩ (Nat.le_of_ble_eq_true rfl) (Nat.le_of_ble_eq_true rfl) rfl (by exact Nat.le_of_ble_eq_true rfl) (fun s7 hp => ?_)
    obtain ⟨hR, h⟩ := hp
    refine g_aload_0 (pc := 36) X dX12_put_36 ?_
    refine g_getRf (pc := 37) X dX12_put_37 fl_X12_29 rfl (by decide) rfl hR rfl ?_
    refine g_iload_1 (pc := 40) X dX12_put_40 ?_
    refine g_iaload_w (pc := 41) X dX12_put_41 rfl (by decide) h (fun x8 h => ?_)
    exact g_ireturn (pc := 42) X Y dX12_put_42 (Nat.le_of_ble_eq_true rfl) (Nat.le_of_ble_eq_true rfl) ⟨_, rfl, hR, h⟩
  · replace h := h.1 q4
    refine g_iconst (pc := 14) X dX12_put_14 kiconst_0 ?_
    exact g_ireturn (pc := 15) X Y dX12_put_15 (Nat.le_of_ble_eq_true rfl) (Nat.le_of_ble_eq_true rfl) ⟨_, rfl, hR, h⟩
def L_X12_sizeOf_4 (Q : Int32 → Prop) (c1 : Int32) (σ : gSt) (K : Int32 → Prop) : Nat → Int32 → Int32 → Prop
  | 0, _, _ => False
  | n4 + 1, v2, v3 => (((σ.1 65 1) ≤ v3 → (K v2)) ∧ (¬ (σ.1 65 1) ≤ v3 → (rI σ 71 30 v3 (fun x6 => ∀ J8 : Int32 → Prop, (∀ x7, (L_X12_sizeOf_4 Q c1 σ K n4 (v2 + x7) (v3 + nI 1)) → J8 x7) → ((x6 = c1 → (J8 (nI 1))) ∧ (¬ x6 = c1 → (J8 (nI 0))))))))
def W_X12_sizeOf (p0 : Int32) (Q : Int32 → Prop) (σ : gSt) : Prop := ∃ m4, L_X12_sizeOf_4 Q p0 σ (fun y11 => Q y11) m4 (nI 0) (nI 0)
set_option maxHeartbeats 4000000 in
theorem t_X12_sizeOf {o : gOm} {l : Launch} {b : Bool}   {σ : gSt} (hR : σ.2.2 = gRf b) {p0 : Int32} {Q : Int32 → Prop} (h : W_X12_sizeOf p0 Q σ) : Sp o l mX12_sizeOf 1 0 0 [.ref (ad o 65), .int p0] 116 116 σ (pI (fun x s => σ = s ∧ Q x)) := by
  unfold W_X12_sizeOf at h
  refine Sp.of (ls0 := [some (.ref (ad o 65)), some (.int p0), none, none]) miX12_sizeOf rfl (Nat.le_of_ble_eq_true rfl) rfl (fun γ hγ hnm X Y => ?_)
  subst hγ
  have X : gX o γ cX12_sizeOf 4 RX12 := X
  refine g_iconst (pc := 0) X dX12_sizeOf_0 kiconst_0 ?_
  refine g_istore_2 (pc := 1) X dX12_sizeOf_1 (by decide) rfl ?_
  refine g_iconst (pc := 2) X dX12_sizeOf_2 kiconst_0 ?_
  refine g_istore_3 (pc := 3) X dX12_sizeOf_3 (by decide) rfl ?_
  obtain ⟨n10, h⟩ := h
  have hL : ∀ (c1 : Int32) (K : Int32 → Prop) (_ : ∀ (y4 : Int32), K y4 → G o γ 0 0 116 σ 36 [some (.ref (ad o 65)), some (.int c1), some (.int y4), none] []) (n : Nat) (v2 : Int32) (v3 : Int32), L_X12_sizeOf_4 Q c1 σ K n v2 v3 → G o γ 0 0 116 σ 4 [some (.ref (ad o 65)), some (.int c1), some (.int v2), some (.int v3)] [] := by
    intro c1 K hK n
    induction n with
    | zero => intro v2 v3 h; exact False.elim h
    | succ n ih =>
      intro v2 v3 h
      rw [L_X12_sizeOf_4] at h
      refine g_iload_3 (pc := 4) X dX12_sizeOf_4 ?_
      refine g_aload_0 (pc := 5) X dX12_sizeOf_5 ?_
      refine g_getI (pc := 6) X dX12_sizeOf_6 rfl (by decide) fl_X12_177 (Or.inl rfl) ?_
      refine g_icmp_ge (pc := 9) X dX12_sizeOf_9 (tgt := 36) (by decide) (fun q5 => ?_) (fun q5 => ?_)
      · replace h := h.1 q5
        exact g_drop (by simp [lsub]) (hK v2 h)
      · replace h := h.2 q5
        refine g_iload_2 (pc := 12) X dX12_sizeOf_12 ?_
        refine g_aload_0 (pc := 13) X dX12_sizeOf_13 ?_
        refine g_getRf (pc := 14) X dX12_sizeOf_14 fl_X12_29 rfl (by decide) rfl hR rfl ?_
        refine g_iload_3 (pc := 17) X dX12_sizeOf_17 ?_
        refine g_iaload_w (pc := 18) X dX12_sizeOf_18 rfl (by decide) h (fun x6 h => ?_)
        refine g_iload_1 (pc := 19) X dX12_sizeOf_19 ?_
        replace h := h (fun x7 => G o γ 0 0 116 σ 28 [some (.ref (ad o 65)), some (.int c1), none, some (.int v3)] [.int x7, .int v2]) (by
            intro x7 h
            refine g_iadd (pc := 28) X dX12_sizeOf_28 ?_
            refine g_istore_2 (pc := 29) X dX12_sizeOf_29 (by decide) rfl ?_
            refine g_iinc_3 (pc := 30) X dX12_sizeOf_30 (v := v3 + nI 1) rfl (by decide) rfl ?_
            refine g_goto (pc := 33) X dX12_sizeOf_33 (tgt := 4) (by decide) ?_
            exact ih (v2 + x7) (v3 + nI 1) h)
        refine g_icmp_ne (pc := 20) X dX12_sizeOf_20 (tgt := 27) (by decide) (fun q9 => ?_) (fun q9 => ?_)
        · replace h := h.2 q9
          refine g_iconst (pc := 27) X dX12_sizeOf_27 kiconst_0 ?_
          exact g_drop (by simp [lsub]) (h)
        · replace h := h.1 q9
          refine g_iconst (pc := 23) X dX12_sizeOf_23 kiconst_1 ?_
          refine g_goto (pc := 24) X dX12_sizeOf_24 (tgt := 28) (by decide) ?_
          exact g_drop (by simp [lsub]) (h)
  refine hL p0 _ (fun y11 h => ?_) n10 (nI 0) (nI 0) h
  · refine g_iload_2 (pc := 36) X dX12_sizeOf_36 ?_
    exact g_ireturn (pc := 37) X Y dX12_sizeOf_37 (Nat.le_of_ble_eq_true rfl) (Nat.le_of_ble_eq_true rfl) ⟨_, rfl, rfl, h⟩
def W_X12_alone (p0 : Int32) (Q : Int32 → gSt → Prop) (σ : gSt) : Prop := fI σ 65 0 (nI 0) (fun s1 => W_X12_isEntry p0 (fun x2 s3 => ((x2 = 0 → (Q (nI 0) s3)) ∧ (¬ x2 = 0 → (rI s3 71 30 p0 (fun x5 => W_X12_sizeOf x5 (fun x6 => ∀ J8 : Int32 → Prop, (∀ x7, (W_X12_fresh p0 (fun x9 => wI s3 71 30 p0 x9 (fun s10 => W_X12_number 71 (fun s11 => ((x7 = 0 ∨ x7 = 1) ∧ Q x7 s11)) s10)) s3) → J8 x7) → ((x6 ≤ (nI 1) → (J8 (nI 0))) ∧ (¬ x6 ≤ (nI 1) → (J8 (nI 1))))) s3))))) s1)
set_option maxHeartbeats 4000000 in
theorem t_X12_alone {o : gOm} {l : Launch} {b : Bool}   {σ : gSt} (hR : σ.2.2 = gRf b) {p0 : Int32} {Q : Int32 → gSt → Prop} (h : W_X12_alone p0 Q σ) : Sp o l mX12_alone 3 0 0 [.ref (ad o 65), .int p0] 116 116 σ (pI (fun x s => s.2.2 = gRf b ∧ Q x s)) := by
  unfold W_X12_alone at h
  refine Sp.of (ls0 := [some (.ref (ad o 65)), some (.int p0), none]) miX12_alone rfl (Nat.le_of_ble_eq_true rfl) rfl (fun γ hγ hnm X Y => ?_)
  subst hγ
  have X : gX o γ cX12_alone 3 RX12 := X
  refine g_aload_0 (pc := 0) X dX12_alone_0 ?_
  refine g_iconst (pc := 1) X dX12_alone_1 kiconst_0 ?_
  refine g_putI_w (pc := 2) X dX12_alone_2 fl_X12_1 rfl (by decide) rfl rfl hR h (fun s1 hR h => ?_)
  refine g_aload_0 (pc := 5) X dX12_alone_5 ?_
  refine g_iload_1 (pc := 6) X dX12_alone_6 ?_
  refine g_callV_I (pc := 7) X Y dX12_alone_7 miX12_isEntry li_X12_183 (t_X12_isEntry hR  h) rfl (by decide) rfl ⟨_, rfl⟩ rfl ⟨Nat.le_of_ble_eq_true rfl, Nat.le_of_ble_eq_true rfl⟩ (Nat.le_of_ble_eq_true rfl) (Nat.le_of_ble_eq_true rfl) rfl (by exact Nat.le_of_ble_eq_true rfl) (fun x2 s3 hp => ?_)
  obtain ⟨hR, h⟩ := hp
  refine g_if_ne (pc := 10) X dX12_alone_10 (tgt := 15) (by decide) (fun q4 => ?_) (fun q4 => ?_)
  · replace h := h.2 q4
    refine g_aload_0 (pc := 15) X dX12_alone_15 ?_
    refine g_aload_0 (pc := 16) X dX12_alone_16 ?_
    refine g_getRf (pc := 17) X dX12_alone_17 fl_X12_29 rfl (by decide) rfl hR rfl ?_
    refine g_iload_1 (pc := 20) X dX12_alone_20 ?_
    refine g_iaload_w (pc := 21) X dX12_alone_21 rfl (by decide) h (fun x5 h => ?_)
    refine g_callV_I (pc := 22) X Y dX12_alone_22 miX12_sizeOf li_X12_375 (t_X12_sizeOf hR  h) rfl (by decide) rfl ⟨_, rfl⟩ rfl ⟨Nat.le_of_ble_eq_true rfl, Nat.le_of_ble_eq_true rfl⟩ (Nat.le_of_ble_eq_true rfl) (Nat.le_of_ble_eq_true rfl) rfl (by exact Nat.le_of_ble_eq_true rfl) (fun x6 σ9 hp => ?_)
    obtain ⟨rfl, h⟩ := hp
    refine g_iconst (pc := 25) X dX12_alone_25 kiconst_1 ?_
    replace h := h (fun x7 => G o γ 0 0 116 s3 34 [some (.ref (ad o 65)), some (.int p0), none] [.int x7]) (by
        intro x7 h
        refine g_istore_2 (pc := 34) X dX12_alone_34 (by decide) rfl ?_
        refine g_aload_0 (pc := 35) X dX12_alone_35 ?_
        refine g_getRf (pc := 36) X dX12_alone_36 fl_X12_29 rfl (by decide) rfl hR rfl ?_
        refine g_iload_1 (pc := 39) X dX12_alone_39 ?_
        refine g_iload_1 (pc := 40) X dX12_alone_40 ?_
        refine g_callS_I (pc := 41) X Y dX12_alone_41 miX12_fresh li_X12_378 (t_X12_fresh hR  h) rfl ⟨Nat.le_of_ble_eq_true rfl, Nat.le_of_ble_eq_true rfl⟩ (Nat.le_of_ble_eq_true rfl) (Nat.le_of_ble_eq_true rfl) rfl (by exact Nat.le_of_ble_eq_true rfl) (fun x9 σ9 hp => ?_)
        obtain ⟨rfl, h⟩ := hp
        refine g_iastore_w (pc := 44) X dX12_alone_44 rfl (by decide) hR h (fun s10 hR h => ?_)
        refine g_aload_0 (pc := 45) X dX12_alone_45 ?_
        refine g_aload_0 (pc := 46) X dX12_alone_46 ?_
        refine g_getRf (pc := 47) X dX12_alone_47 fl_X12_29 rfl (by decide) rfl hR rfl ?_
        refine g_callV_V (pc := 50) X Y dX12_alone_50 miX12_number li_X12_371 (t_X12_number hR (by decide) (by decide) h) rfl (by decide) rfl ⟨_, rfl⟩ rfl ⟨Nat.le_of_ble_eq_true rfl, Nat.le_of_ble_eq_true rfl⟩ (Nat.le_of_ble_eq_true rfl) (Nat.le_of_ble_eq_true rfl) rfl (by exact Nat.le_of_ble_eq_true rfl) (fun s11 hp => ?_)
        obtain ⟨hR, h⟩ := hp
        refine g_iload_2 (pc := 53) X dX12_alone_53 ?_
        exact g_zreturn (pc := 54) X Y dX12_alone_54 h.1 (Nat.le_of_ble_eq_true rfl) (Nat.le_of_ble_eq_true rfl) ⟨_, rfl, hR, h.2⟩)
    refine g_icmp_le (pc := 26) X dX12_alone_26 (tgt := 33) (by decide) (fun q12 => ?_) (fun q12 => ?_)
    · replace h := h.1 q12
      refine g_iconst (pc := 33) X dX12_alone_33 kiconst_0 ?_
      exact h
    · replace h := h.2 q12
      refine g_iconst (pc := 29) X dX12_alone_29 kiconst_1 ?_
      refine g_goto (pc := 30) X dX12_alone_30 (tgt := 34) (by decide) ?_
      exact h
  · replace h := h.1 q4
    refine g_iconst (pc := 13) X dX12_alone_13 kiconst_0 ?_
    exact g_zreturn (pc := 14) X Y dX12_alone_14 (by first | exact Or.inl rfl | exact Or.inr rfl) (Nat.le_of_ble_eq_true rfl) (Nat.le_of_ble_eq_true rfl) ⟨_, rfl, hR, h⟩
def L_X12_joins_3 (k0 : Nat) (Q : gSt → Prop) (c1 : Int32) (c2 : Int32) (K : gSt → Prop) : Nat → Int32 → gSt → Prop
  | 0, _, _ => False
  | n3 + 1, v3, s4 => (((s4.1 65 1) ≤ v3 → (K s4)) ∧ (¬ (s4.1 65 1) ≤ v3 → (rI s4 k0 ((lay k0).2) v3 (fun x7 => ((x7 = c2 → (wI s4 k0 ((lay k0).2) v3 c1 (fun s9 => L_X12_joins_3 k0 Q c1 c2 K n3 (v3 + nI 1) s9))) ∧ (¬ x7 = c2 → (L_X12_joins_3 k0 Q c1 c2 K n3 (v3 + nI 1) s4)))))))
def W_X12_joins (k0 : Nat) (p1 : Int32) (p2 : Int32) (Q : gSt → Prop) (σ : gSt) : Prop := ∃ m3, L_X12_joins_3 k0 Q p1 p2 (fun s11 => Q s11) m3 (nI 0) σ
set_option maxHeartbeats 4000000 in
theorem t_X12_joins {o : gOm} {l : Launch} {b : Bool}   {σ : gSt} (hR : σ.2.2 = gRf b) {k0 : Nat} {p1 : Int32} {p2 : Int32} {Q : gSt → Prop} (hk0 : k0 < 116) (hk00 : (lay k0).1 = 0) (h : W_X12_joins k0 p1 p2 Q σ) : Sp o l mX12_joins 1 0 0 [.ref (ad o 65), .ref (ad o k0), .int p1, .int p2] 116 116 σ (pV (fun s => s.2.2 = gRf b ∧ Q s)) := by
  have hk0y : lay k0 = (0, (lay k0).2) := Prod.ext hk00 rfl
  unfold W_X12_joins at h
  refine Sp.of (ls0 := [some (.ref (ad o 65)), some (.ref (ad o k0)), some (.int p1), some (.int p2), none]) miX12_joins rfl (Nat.le_of_ble_eq_true rfl) rfl (fun γ hγ hnm X Y => ?_)
  subst hγ
  have X : gX o γ cX12_joins 5 RX12 := X
  refine g_iconst (pc := 0) X dX12_joins_0 kiconst_0 ?_
  refine g_istore_4 (pc := 1) X dX12_joins_1 (by decide) rfl ?_
  obtain ⟨n10, h⟩ := h
  have hL : ∀ (c1 : Int32) (c2 : Int32) (K : gSt → Prop) (_ : ∀  (s5 : gSt), s5.2.2 = gRf b → K s5 → G o γ 0 0 116 s5 31 [some (.ref (ad o 65)), some (.ref (ad o k0)), some (.int c1), some (.int c2), none] []) (n : Nat) (v3 : Int32) (s4 : gSt), s4.2.2 = gRf b → L_X12_joins_3 k0 Q c1 c2 K n v3 s4 → G o γ 0 0 116 s4 3 [some (.ref (ad o 65)), some (.ref (ad o k0)), some (.int c1), some (.int c2), some (.int v3)] [] := by
    intro c1 c2 K hK n
    induction n with
    | zero => intro v3 s4 hR h; exact False.elim h
    | succ n ih =>
      intro v3 s4 hR h
      rw [L_X12_joins_3] at h
      refine g_iload_4 (pc := 3) X dX12_joins_3 ?_
      refine g_aload_0 (pc := 5) X dX12_joins_5 ?_
      refine g_getI (pc := 6) X dX12_joins_6 rfl (by decide) fl_X12_177 (Or.inl rfl) ?_
      refine g_icmp_ge (pc := 9) X dX12_joins_9 (tgt := 31) (by decide) (fun q6 => ?_) (fun q6 => ?_)
      · replace h := h.1 q6
        exact g_drop (by simp [lsub]) (hK s4 hR h)
      · replace h := h.2 q6
        refine g_aload_1 (pc := 12) X dX12_joins_12 ?_
        refine g_iload_4 (pc := 13) X dX12_joins_13 ?_
        refine g_iaload_w (pc := 15) X dX12_joins_15 hk0y hk0 h (fun x7 h => ?_)
        refine g_iload_3 (pc := 16) X dX12_joins_16 ?_
        refine g_icmp_ne (pc := 17) X dX12_joins_17 (tgt := 25) (by decide) (fun q8 => ?_) (fun q8 => ?_)
        · replace h := h.2 q8
          refine g_iinc_4 (pc := 25) X dX12_joins_25 (v := v3 + nI 1) rfl (by decide) rfl ?_
          refine g_goto (pc := 28) X dX12_joins_28 (tgt := 3) (by decide) ?_
          exact ih (v3 + nI 1) s4 hR h
        · replace h := h.1 q8
          refine g_aload_1 (pc := 20) X dX12_joins_20 ?_
          refine g_iload_4 (pc := 21) X dX12_joins_21 ?_
          refine g_iload_2 (pc := 23) X dX12_joins_23 ?_
          refine g_iastore_w (pc := 24) X dX12_joins_24 hk0y hk0 hR h (fun s9 hR h => ?_)
          refine g_iinc_4 (pc := 25) X dX12_joins_25 (v := v3 + nI 1) rfl (by decide) rfl ?_
          refine g_goto (pc := 28) X dX12_joins_28 (tgt := 3) (by decide) ?_
          exact ih (v3 + nI 1) s9 hR h
  refine hL p1 p2 _ (fun s11 hR h => ?_) n10 (nI 0) σ hR h
  · exact g_return (pc := 31) X Y dX12_joins_31 (Nat.le_of_ble_eq_true rfl) (Nat.le_of_ble_eq_true rfl) ⟨rfl, hR, h⟩
def W_X12_join (p0 : Int32) (p1 : Int32) (Q : Int32 → gSt → Prop) (σ : gSt) : Prop := fI σ 65 0 (nI 0) (fun s1 => W_X12_isEntry p0 (fun x2 s3 => ((x2 = 0 → (Q (nI 0) s3)) ∧ (¬ x2 = 0 → (W_X12_isEntry p1 (fun x5 s6 => ((x5 = 0 → (Q (nI 0) s6)) ∧ (¬ x5 = 0 → (rI s6 71 30 p0 (fun x8 => rI s6 71 30 p1 (fun x9 => ((x8 = x9 → (Q ((-1 : Int32)) s6)) ∧ (¬ x8 = x9 → (rI s6 71 30 p0 (fun x11 => rI s6 71 30 p1 (fun x12 => W_X12_joins 71 x11 x12 (fun s13 => W_X12_number 71 (fun s14 => rI s14 71 30 p0 (fun x15 => Q x15 s14)) s13) s6))))))))))) s3)))) s1)
set_option maxHeartbeats 4000000 in
theorem t_X12_join {o : gOm} {l : Launch} {b : Bool}   {σ : gSt} (hR : σ.2.2 = gRf b) {p0 : Int32} {p1 : Int32} {Q : Int32 → gSt → Prop} (h : W_X12_join p0 p1 Q σ) : Sp o l mX12_join 3 0 0 [.ref (ad o 65), .int p0, .int p1] 116 116 σ (pI (fun x s => s.2.2 = gRf b ∧ Q x s)) := by
  unfold W_X12_join at h
  refine Sp.of (ls0 := [some (.ref (ad o 65)), some (.int p0), some (.int p1)]) miX12_join rfl (Nat.le_of_ble_eq_true rfl) rfl (fun γ hγ hnm X Y => ?_)
  subst hγ
  have X : gX o γ cX12_join 3 RX12 := X
  refine g_aload_0 (pc := 0) X dX12_join_0 ?_
  refine g_iconst (pc := 1) X dX12_join_1 kiconst_0 ?_
  refine g_putI_w (pc := 2) X dX12_join_2 fl_X12_1 rfl (by decide) rfl rfl hR h (fun s1 hR h => ?_)
  refine g_aload_0 (pc := 5) X dX12_join_5 ?_
  refine g_iload_1 (pc := 6) X dX12_join_6 ?_
  refine g_callV_I (pc := 7) X Y dX12_join_7 miX12_isEntry li_X12_183 (t_X12_isEntry hR  h) rfl (by decide) rfl ⟨_, rfl⟩ rfl ⟨Nat.le_of_ble_eq_true rfl, Nat.le_of_ble_eq_true rfl⟩ (Nat.le_of_ble_eq_true rfl) (Nat.le_of_ble_eq_true rfl) rfl (by exact Nat.le_of_ble_eq_true rfl) (fun x2 s3 hp => ?_)
  obtain ⟨hR, h⟩ := hp
  refine g_if_eq (pc := 10) X dX12_join_10 (tgt := 21) (by decide) (fun q4 => ?_) (fun q4 => ?_)
  · replace h := h.1 q4
    refine g_iconst (pc := 21) X dX12_join_21 kiconst_0 ?_
    exact g_ireturn (pc := 22) X Y dX12_join_22 (Nat.le_of_ble_eq_true rfl) (Nat.le_of_ble_eq_true rfl) ⟨_, rfl, hR, h⟩
  · replace h := h.2 q4
    refine g_aload_0 (pc := 13) X dX12_join_13 ?_
    refine g_iload_2 (pc := 14) X dX12_join_14 ?_
    refine g_callV_I (pc := 15) X Y dX12_join_15 miX12_isEntry li_X12_183 (t_X12_isEntry hR  h) rfl (by decide) rfl ⟨_, rfl⟩ rfl ⟨Nat.le_of_ble_eq_true rfl, Nat.le_of_ble_eq_true rfl⟩ (Nat.le_of_ble_eq_true rfl) (Nat.le_of_ble_eq_true rfl) rfl (by exact Nat.le_of_ble_eq_true rfl) (fun x5 s6 hp => ?_)
    obtain ⟨hR, h⟩ := hp
    refine g_if_ne (pc := 18) X dX12_join_18 (tgt := 23) (by decide) (fun q7 => ?_) (fun q7 => ?_)
    · replace h := h.2 q7
      refine g_aload_0 (pc := 23) X dX12_join_23 ?_
      refine g_getRf (pc := 24) X dX12_join_24 fl_X12_29 rfl (by decide) rfl hR rfl ?_
      refine g_iload_1 (pc := 27) X dX12_join_27 ?_
      refine g_iaload_w (pc := 28) X dX12_join_28 rfl (by decide) h (fun x8 h => ?_)
      refine g_aload_0 (pc := 29) X dX12_join_29 ?_
      refine g_getRf (pc := 30) X dX12_join_30 fl_X12_29 rfl (by decide) rfl hR rfl ?_
      refine g_iload_2 (pc := 33) X dX12_join_33 ?_
      refine g_iaload_w (pc := 34) X dX12_join_34 rfl (by decide) h (fun x9 h => ?_)
      refine g_icmp_ne (pc := 35) X dX12_join_35 (tgt := 40) (by decide) (fun q10 => ?_) (fun q10 => ?_)
      · replace h := h.2 q10
        refine g_aload_0 (pc := 40) X dX12_join_40 ?_
        refine g_aload_0 (pc := 41) X dX12_join_41 ?_
        refine g_getRf (pc := 42) X dX12_join_42 fl_X12_29 rfl (by decide) rfl hR rfl ?_
        refine g_aload_0 (pc := 45) X dX12_join_45 ?_
        refine g_getRf (pc := 46) X dX12_join_46 fl_X12_29 rfl (by decide) rfl hR rfl ?_
        refine g_iload_1 (pc := 49) X dX12_join_49 ?_
        refine g_iaload_w (pc := 50) X dX12_join_50 rfl (by decide) h (fun x11 h => ?_)
        refine g_aload_0 (pc := 51) X dX12_join_51 ?_
        refine g_getRf (pc := 52) X dX12_join_52 fl_X12_29 rfl (by decide) rfl hR rfl ?_
        refine g_iload_2 (pc := 55) X dX12_join_55 ?_
        refine g_iaload_w (pc := 56) X dX12_join_56 rfl (by decide) h (fun x12 h => ?_)
        refine g_callV_V (pc := 57) X Y dX12_join_57 miX12_joins li_X12_381 (t_X12_joins hR (by decide) (by decide) h) rfl (by decide) rfl ⟨_, rfl⟩ rfl ⟨Nat.le_of_ble_eq_true rfl, Nat.le_of_ble_eq_true rfl⟩ (Nat.le_of_ble_eq_true rfl) (Nat.le_of_ble_eq_true rfl) rfl (by exact Nat.le_of_ble_eq_true rfl) (fun s13 hp => ?_)
        obtain ⟨hR, h⟩ := hp
        refine g_aload_0 (pc := 60) X dX12_join_60 ?_
        refine g_aload_0 (pc := 61) X dX12_join_61 ?_
        refine g_getRf (pc := 62) X dX12_join_62 fl_X12_29 rfl (by decide) rfl hR rfl ?_
        refine g_callV_V (pc := 65) X Y dX12_join_65 miX12_number li_X12_371 (t_X12_number hR (by decide) (by decide) h) rfl (by decide) rfl ⟨_, rfl⟩ rfl ⟨Nat.le_of_ble_eq_true rfl, Nat.le_of_ble_eq_true rfl⟩ (Nat.le_of_ble_eq_true rfl) (Nat.le_of_ble_eq_true rfl) rfl (by exact Nat.le_of_ble_eq_true rfl) (fun s14 hp => ?_)
        obtain ⟨hR, h⟩ := hp
        refine g_aload_0 (pc := 68) X dX12_join_68 ?_
        refine g_getRf (pc := 69) X dX12_join_69 fl_X12_29 rfl (by decide) rfl hR rfl ?_
        refine g_iload_1 (pc := 72) X dX12_join_72 ?_
        refine g_iaload_w (pc := 73) X dX12_join_73 rfl (by decide) h (fun x15 h => ?_)
        exact g_ireturn (pc := 74) X Y dX12_join_74 (Nat.le_of_ble_eq_true rfl) (Nat.le_of_ble_eq_true rfl) ⟨_, rfl, hR, h⟩
      · replace h := h.1 q10
        refine g_iconst (pc := 38) X dX12_join_38 kiconst_m1 ?_
        exact g_ireturn (pc := 39) X Y dX12_join_39 (Nat.le_of_ble_eq_true rfl) (Nat.le_of_ble_eq_true rfl) ⟨_, rfl, hR, h⟩
    · replace h := h.1 q7
      refine g_iconst (pc := 21) X dX12_join_21 kiconst_0 ?_
      exact g_ireturn (pc := 22) X Y dX12_join_22 (Nat.le_of_ble_eq_true rfl) (Nat.le_of_ble_eq_true rfl) ⟨_, rfl, hR, h⟩
