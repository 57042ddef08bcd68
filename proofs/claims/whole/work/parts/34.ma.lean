def W_X12_thrown  (Q : Int32 → Prop) (σ : gSt) : Prop := Q (σ.1 65 0)
set_option maxHeartbeats 4000000 in
theorem t_X12_thrown {o : gOm} {l : Launch} {b : Bool}   {σ : gSt} (hR : σ.2.2 = gRf b)  {Q : Int32 → Prop} (h : W_X12_thrown  Q σ) : Sp o l mX12_thrown 1 0 0 [.ref (ad o 65)] 116 116 σ (pI (fun x s => σ = s ∧ Q x)) := by
  unfold W_X12_thrown at h
  refine Sp.of (ls0 := [some (.ref (ad o 65))]) miX12_thrown rfl (Nat.le_of_ble_eq_true rfl) rfl (fun γ hγ hnm X Y => ?_)
  subst hγ
  have X : gX o γ cX12_thrown 1 RX12 := X
  refine g_aload_0 (pc := 0) X dX12_thrown_0 ?_
  refine g_getI (pc := 1) X dX12_thrown_1 rfl (by decide) fl_X12_1 (Or.inl rfl) ?_
  exact g_ireturn (pc := 4) X Y dX12_thrown_4 (Nat.le_of_ble_eq_true rfl) (Nat.le_of_ble_eq_true rfl) ⟨_, rfl, rfl, h⟩
def W_X12_may (p0 : Int32) (p1 : Int32) (Q : Int32 → gSt → Prop) (σ : gSt) : Prop := ∀ J2 : gSt → Prop, (∀ s1, ((((s1.1 65 0) = 0 → (Q (nI 1) s1)) ∧ (¬ (s1.1 65 0) = 0 → (Q (nI 0) s1)))) → J2 s1) → ((p0 = 0 → ((((σ.1 65 0) = 0 → (fI σ 65 0 p1 (fun s6 => J2 s6))) ∧ (¬ (σ.1 65 0) = 0 → (J2 σ))))) ∧ (¬ p0 = 0 → (J2 σ)))
set_option maxHeartbeats 4000000 in
theorem t_X12_may {o : gOm} {l : Launch} {b : Bool}   {σ : gSt} (hR : σ.2.2 = gRf b) {p0 : Int32} {p1 : Int32} {Q : Int32 → gSt → Prop} (h : W_X12_may p0 p1 Q σ) : Sp o l mX12_may 1 0 0 [.ref (ad o 65), .int p0, .int p1] 116 116 σ (pI (fun x s => s.2.2 = gRf b ∧ Q x s)) := by
  unfold W_X12_may at h
  refine Sp.of (ls0 := [some (.ref (ad o 65)), some (.int p0), some (.int p1)]) miX12_may rfl (Nat.le_of_ble_eq_true rfl) rfl (fun γ hγ hnm X Y => ?_)
  subst hγ
  have X : gX o γ cX12_may 3 RX12 := X
  refine g_iload_1 (pc := 0) X dX12_may_0 ?_
  replace h := h (fun s1 => s1.2.2 = gRf b → G o γ 0 0 116 s1 16 [some (.ref (ad o 65)), none, none] []) (by
      intro s1 h hR
      refine g_aload_0 (pc := 16) X dX12_may_16 ?_
      refine g_getI (pc := 17) X dX12_may_17 rfl (by decide) fl_X12_1 (Or.inl rfl) ?_
      refine g_if_ne (pc := 20) X dX12_may_20 (tgt := 27) (by decide) (fun q3 => ?_) (fun q3 => ?_)
      · replace h := h.2 q3
        refine g_iconst (pc := 27) X dX12_may_27 kiconst_0 ?_
        exact g_zreturn (pc := 28) X Y dX12_may_28 (by first | exact Or.inl rfl | exact Or.inr rfl) (Nat.le_of_ble_eq_true rfl) (Nat.le_of_ble_eq_true rfl) ⟨_, rfl, hR, h⟩
      · replace h := h.1 q3
        refine g_iconst (pc := 23) X dX12_may_23 kiconst_1 ?_
        refine g_goto (pc := 24) X dX12_may_24 (tgt := 28) (by decide) ?_
        exact g_zreturn (pc := 28) X Y dX12_may_28 (by first | exact Or.inl rfl | exact Or.inr rfl) (Nat.le_of_ble_eq_true rfl) (Nat.le_of_ble_eq_true rfl) ⟨_, rfl, hR, h⟩)
  refine g_if_ne (pc := 1) X dX12_may_1 (tgt := 16) (by decide) (fun q4 => ?_) (fun q4 => ?_)
  · replace h := h.2 q4
    exact g_drop (by simp [lsub]) (h hR)
  · replace h := h.1 q4
    refine g_aload_0 (pc := 4) X dX12_may_4 ?_
    refine g_getI (pc := 5) X dX12_may_5 rfl (by decide) fl_X12_1 (Or.inl rfl) ?_
    refine g_if_ne (pc := 8) X dX12_may_8 (tgt := 16) (by decide) (fun q5 => ?_) (fun q5 => ?_)
    · replace h := h.2 q5
      exact g_drop (by simp [lsub]) (h hR)
    · replace h := h.1 q5
      refine g_aload_0 (pc := 11) X dX12_may_11 ?_
      refine g_iload_2 (pc := 12) X dX12_may_12 ?_
      refine g_putI_w (pc := 13) X dX12_may_13 fl_X12_1 rfl (by decide) rfl rfl hR h (fun s6 hR h => ?_)
      exact g_drop (by simp [lsub]) (h hR)
def W_X12_within (p0 : Int32) (p1 : Int32) (p2 : Int32) (Q : Int32 → Prop) (σ : gSt) : Prop := ((p0 < p1 → (Q (nI 0))) ∧ (¬ p0 < p1 → (((p2 < p0 → (Q (nI 0))) ∧ (¬ p2 < p0 → (Q (nI 1)))))))
set_option maxHeartbeats 4000000 in
theorem t_X12_within {o : gOm} {l : Launch} {b : Bool}   {σ : gSt} (hR : σ.2.2 = gRf b) {p0 : Int32} {p1 : Int32} {p2 : Int32} {Q : Int32 → Prop} (h : W_X12_within p0 p1 p2 Q σ) : Sp o l mX12_within 1 0 0 [.int p0, .int p1, .int p2] 116 116 σ (pI (fun x s => σ = s ∧ Q x)) := by
  unfold W_X12_within at h
  refine Sp.of (ls0 := [some (.int p0), some (.int p1), some (.int p2)]) miX12_within rfl (Nat.le_of_ble_eq_true rfl) rfl (fun γ hγ hnm X Y => ?_)
  subst hγ
  have X : gX o γ cX12_within 3 RX12 := X
  refine g_iload_0 (pc := 0) X dX12_within_0 ?_
  refine g_iload_1 (pc := 1) X dX12_within_1 ?_
  refine g_icmp_lt (pc := 2) X dX12_within_2 (tgt := 14) (by decide) (fun q1 => ?_) (fun q1 => ?_)
  · replace h := h.1 q1
    refine g_iconst (pc := 14) X dX12_within_14 kiconst_0 ?_
    exact g_zreturn (pc := 15) X Y dX12_within_15 (by first | exact Or.inl rfl | exact Or.inr rfl) (Nat.le_of_ble_eq_true rfl) (Nat.le_of_ble_eq_true rfl) ⟨_, rfl, rfl, h⟩
  · replace h := h.2 q1
    refine g_iload_0 (pc := 5) X dX12_within_5 ?_
    refine g_iload_2 (pc := 6) X dX12_within_6 ?_
    refine g_icmp_gt (pc := 7) X dX12_within_7 (tgt := 14) (by decide) (fun q2 => ?_) (fun q2 => ?_)
    · replace h := h.1 q2
      refine g_iconst (pc := 14) X dX12_within_14 kiconst_0 ?_
      exact g_zreturn (pc := 15) X Y dX12_within_15 (by first | exact Or.inl rfl | exact Or.inr rfl) (Nat.le_of_ble_eq_true rfl) (Nat.le_of_ble_eq_true rfl) ⟨_, rfl, rfl, h⟩
    · replace h := h.2 q2
      refine g_iconst (pc := 10) X dX12_within_10 kiconst_1 ?_
      refine g_goto (pc := 11) X dX12_within_11 (tgt := 15) (by decide) ?_
      exact g_zreturn (pc := 15) X Y dX12_within_15 (by first | exact Or.inl rfl | exact Or.inr rfl) (Nat.le_of_ble_eq_true rfl) (Nat.le_of_ble_eq_true rfl) ⟨_, rfl, rfl, h⟩
def W_X12_off (p0 : Int32) (Q : Int32 → Prop) (σ : gSt) : Prop := ((0 ≤ p0 → (Q p0)) ∧ (¬ 0 ≤ p0 → (Q (-p0))))
set_option maxHeartbeats 4000000 in
theorem t_X12_off {o : gOm} {l : Launch} {b : Bool}   {σ : gSt} (hR : σ.2.2 = gRf b) {p0 : Int32} {Q : Int32 → Prop} (h : W_X12_off p0 Q σ) : Sp o l mX12_off 1 0 0 [.int p0] 116 116 σ (pI (fun x s => σ = s ∧ Q x)) := by
  unfold W_X12_off at h
  refine Sp.of (ls0 := [some (.int p0)]) miX12_off rfl (Nat.le_of_ble_eq_true rfl) rfl (fun γ hγ hnm X Y => ?_)
  subst hγ
  have X : gX o γ cX12_off 1 RX12 := X
  refine g_iload_0 (pc := 0) X dX12_off_0 ?_
  refine g_if_ge (pc := 1) X dX12_off_1 (tgt := 9) (by decide) (fun q1 => ?_) (fun q1 => ?_)
  · replace h := h.1 q1
    refine g_iload_0 (pc := 9) X dX12_off_9 ?_
    exact g_ireturn (pc := 10) X Y dX12_off_10 (Nat.le_of_ble_eq_true rfl) (Nat.le_of_ble_eq_true rfl) ⟨_, rfl, rfl, h⟩
  · replace h := h.2 q1
    refine g_iload_0 (pc := 4) X dX12_off_4 ?_
    refine g_ineg (pc := 5) X dX12_off_5 ?_
    refine g_goto (pc := 6) X dX12_off_6 (tgt := 10) (by decide) ?_
    exact g_ireturn (pc := 10) X Y dX12_off_10 (Nat.le_of_ble_eq_true rfl) (Nat.le_of_ble_eq_true rfl) ⟨_, rfl, rfl, h⟩
def W_X12_untell  (Q : gSt → Prop) (σ : gSt) : Prop := fI σ 65 56 (nI 0) (fun s1 => fL s1 65 57 (lN 0) (fun s2 => fZ s2 65 60 (nI 0) (fun s3 => Q s3)))
set_option maxHeartbeats 4000000 in
theorem t_X12_untell {o : gOm} {l : Launch} {b : Bool}   {σ : gSt} (hR : σ.2.2 = gRf b)  {Q : gSt → Prop} (h : W_X12_untell  Q σ) : Sp o l mX12_untell 1 0 0 [.ref (ad o 65)] 116 116 σ (pV (fun s => s.2.2 = gRf b ∧ Q s)) := by
  unfold W_X12_untell at h
  refine Sp.of (ls0 := [some (.ref (ad o 65))]) miX12_untell rfl (Nat.le_of_ble_eq_true rfl) rfl (fun γ hγ hnm X Y => ?_)
  subst hγ
  have X : gX o γ cX12_untell 1 RX12 := X
  refine g_aload_0 (pc := 0) X dX12_untell_0 ?_
  refine g_iconst (pc := 1) X dX12_untell_1 kiconst_0 ?_
  refine g_putI_w (pc := 2) X dX12_untell_2 fl_X12_459 rfl (by decide) rfl rfl hR h (fun s1 hR h => ?_)
  refine g_aload_0 (pc := 5) X dX12_untell_5 ?_
  refine g_lconst (pc := 6) X dX12_untell_6 (v := lN 0) rfl ?_
  refine g_putL_w (pc := 7) X dX12_untell_7 fl_X12_462 rfl (by decide) rfl rfl hR h (fun s2 hR h => ?_)
  refine g_aload_0 (pc := 10) X dX12_untell_10 ?_
  refine g_iconst (pc := 11) X dX12_untell_11 kiconst_0 ?_
  refine g_putZ_w (pc := 12) X dX12_untell_12 fl_X12_465 rfl (by decide) rfl rfl hR h (fun s3 hR h => ?_)
  exact g_return (pc := 15) X Y dX12_untell_15 (Nat.le_of_ble_eq_true rfl) (Nat.le_of_ble_eq_true rfl) ⟨rfl, hR, h⟩
def W_X12_entry (p0 : Int32) (p1 : Int32) (p2 : Int32) (p3 : Int32) (p4 : Int32) (Q : Int32 → gSt → Prop) (σ : gSt) : Prop := fI σ 65 0 (nI 0) (fun s1 => W_X12_within p0 (nI 0) (nI 7) (fun x2 => ∀ J4 : Int32 → Prop, (∀ x3, (W_X12_may x3 (nI 1) (fun x5 s6 => ((x5 = 0 → (Q (nI 0) s6)) ∧ (¬ x5 = 0 → ((((s6.1 65 1) = (nI 30) → (Q ((-1 : Int32)) s6)) ∧ (¬ (s6.1 65 1) = (nI 30) → (wI s6 66 30 (s6.1 65 1) p0 (fun s9 => wI s9 67 30 (s9.1 65 1) p1 (fun s10 => wI s10 68 30 (s10.1 65 1) p2 (fun s11 => wI s11 69 30 (s11.1 65 1) p3 (fun s12 => wI s12 70 30 (s12.1 65 1) p4 (fun s13 => wI s13 71 30 (s13.1 65 1) (s13.1 65 1) (fun s14 => fI s14 65 1 ((s14.1 65 1) + (nI 1)) (fun s15 => W_X12_untell (fun s16 => Q ((s16.1 65 1) - (nI 1)) s16) s15)))))))))))))) s1) → J4 x3) → ∀ J17 : Prop, ((J4 (nI 0)) → J17) → ((x2 = 0 → J17) ∧ (¬ x2 = 0 → (W_X12_within p1 (nI 0) (nI 15) (fun x19 => ((x19 = 0 → J17) ∧ (¬ x19 = 0 → (W_X12_within p2 (nI 0) (nI 7) (fun x21 => ((x21 = 0 → J17) ∧ (¬ x21 = 0 → (W_X12_within p3 (nI 0) (nI 199) (fun x23 => ((x23 = 0 → J17) ∧ (¬ x23 = 0 → (W_X12_within p4 ((-1 : Int32)) (nI 15) (fun x25 => ((x25 = 0 → J17) ∧ (¬ x25 = 0 → (J4 (nI 1))))) s1)))) s1)))) s1)))) s1)))) s1)
set_option maxHeartbeats 4000000 in
theorem t_X12_entry {o : gOm} {l : Launch} {b : Bool}   {σ : gSt} (hR : σ.2.2 = gRf b) {p0 : Int32} {p1 : Int32} {p2 : Int32} {p3 : Int32} {p4 : Int32} {Q : Int32 → gSt → Prop} (h : W_X12_entry p0 p1 p2 p3 p4 Q σ) : Sp o l mX12_entry 2 0 0 [.ref (ad o 65), .int p0, .int p1, .int p2, .int p3, .int p4] 116 116 σ (pI (fun x s => s.2.2 = gRf b ∧ Q x s)) := by
  unfold W_X12_entry at h
  refine Sp.of (ls0 := [some (.ref (ad o 65)), some (.int p0), some (.int p1), some (.int p2), some (.int p3), some (.int p4)]) miX12_entry rfl (Nat.le_of_ble_eq_true rfl) rfl (fun γ hγ hnm X Y => ?_)
  subst hγ
  have X : gX o γ cX12_entry 6 RX12 := X
  refine g_aload_0 (pc := 0) X dX12_entry_0 ?_
  refine g_iconst (pc := 1) X dX12_entry_1 kiconst_0 ?_
  refine g_putI_w (pc := 2) X dX12_entry_2 fl_X12_1 rfl (by decide) rfl rfl hR h (fun s1 hR h => ?_)
  refine g_aload_0 (pc := 5) X dX12_entry_5 ?_
  refine g_iload_1 (pc := 6) X dX12_entry_6 ?_
  refine g_iconst (pc := 7) X dX12_entry_7 kiconst_0 ?_
  refine g_bipush (pc := 8) X dX12_entry_8 kbipush_7 ?_
  refine g_callS_I (pc := 10) X Y dX12_entry_10 miX12_within li_X12_169 (t_X12_within hR  h) rfl ⟨Nat.le_of_ble_eq_true rfl, Nat.le_of_ble_eq_true rfl⟩ (Nat.le_of_ble_eq_true rfl) (Nat.le_of_ble_eq_true rfl) rfl (by exact Nat.le_of_ble_eq_true rfl) (fun x2 σ9 hp => ?_)
  obtain ⟨rfl, h⟩ := hp
  replace h := h (fun x3 => G o γ 0 0 116 s1 64 [some (.ref (ad o 65)), some (.int p0), some (.int p1), some (.int p2), some (.int p3), some (.int p4)] [.int x3, .ref (ad o 65)]) (by
      intro x3 h
      refine g_iconst (pc := 64) X dX12_entry_64 kiconst_1 ?_
      refine g_callV_I (pc := 65) X Y dX12_entry_65 miX12_may li_X12_173 (t_X12_may hR  h) rfl (by decide) rfl ⟨_, rfl⟩ rfl ⟨Nat.le_of_ble_eq_true rfl, Nat.le_of_ble_eq_true rfl⟩ (Nat.le_of_ble_eq_true rfl) (Nat.le_of_ble_eq_true rfl) rfl (by exact Nat.le_of_ble_eq_true rfl) (fun x5 s6 hp => ?_)
      obtain ⟨hR, h⟩ := hp
      refine g_if_ne (pc := 68) X dX12_entry_68 (tgt := 73) (by decide) (fun q7 => ?_) (fun q7 => ?_)
      · replace h := h.2 q7
        refine g_aload_0 (pc := 73) X dX12_entry_73 ?_
        refine g_getI (pc := 74) X dX12_entry_74 rfl (by decide) fl_X12_177 (Or.inl rfl) ?_
        refine g_bipush (pc := 77) X dX12_entry_77 kbipush_30 ?_
        refine g_icmp_ne (pc := 79) X dX12_entry_79 (tgt := 84) (by decide) (fun q8 => ?_) (fun q8 => ?_)
        · replace h := h.2 q8
          refine g_aload_0 (pc := 84) X dX12_entry_84 ?_
          refine g_getRf (pc := 85) X dX12_entry_85 fl_X12_13 rfl (by decide) rfl hR rfl ?_
          refine g_aload_0 (pc := 88) X dX12_entry_88 ?_
          refine g_getI (pc := 89) X dX12_entry_89 rfl (by decide) fl_X12_177 (Or.inl rfl) ?_
          refine g_iload_1 (pc := 92) X dX12_entry_92 ?_
          refine g_iastore_w (pc := 93) X dX12_entry_93 rfl (by decide) hR h (fun s9 hR h => ?_)
          refine g_aload_0 (pc := 94) X dX12_entry_94 ?_
          refine g_getRf (pc := 95) X dX12_entry_95 fl_X12_17 rfl (by decide) rfl hR rfl ?_
          refine g_aload_0 (pc := 98) X dX12_entry_98 ?_
          refine g_getI (pc := 99) X dX12_entry_99 rfl (by decide) fl_X12_177 (Or.inl rfl) ?_
          refine g_iload_2 (pc := 102) X dX12_entry_102 ?_
          refine g_iastore_w (pc := 103) X dX12_entry_103 rfl (by decide) hR h (fun s10 hR h => ?_)
          refine g_aload_0 (pc := 104) X dX12_entry_104 ?_
          refine g_getRf (pc := 105) X dX12_entry_105 fl_X12_20 rfl (by decide) rfl hR rfl ?_
          refine g_aload_0 (pc := 108) X dX12_entry_108 ?_
          refine g_getI (pc := 109) X dX12_entry_109 rfl (by decide) fl_X12_177 (Or.inl rfl) ?_
          refine g_iload_3 (pc := 112) X dX12_entry_112 ?_
          refine g_iastore_w (pc := 113) X dX12_entry_113 rfl (by decide) hR h (fun s11 hR h => ?_)
          refine g_aload_0 (pc := 114) X dX12_entry_114 ?_
          refine g_getRf (pc := 115) X dX12_entry_115 fl_X12_23 rfl (by decide) rfl hR rfl ?_
          refine g_aload_0 (pc := 118) X dX12_entry_118 ?_
          refine g_getI (pc := 119) X dX12_entry_119 rfl (by decide) fl_X12_177 (Or.inl rfl) ?_
          refine g_iload_4 (pc := 122) X dX12_entry_122 ?_
          refine g_iastore_w (pc := 124) X dX12_entry_124 rfl (by decide) hR h (fun s12 hR h => ?_)
          refine g_aload_0 (pc := 125) X dX12_entry_125 ?_
          refine g_getRf (pc := 126) X dX12_entry_126 fl_X12_26 rfl (by decide) rfl hR rfl ?_
          refine g_aload_0 (pc := 129) X dX12_entry_129 ?_
          refine g_getI (pc := 130) X dX12_entry_130 rfl (by decide) fl_X12_177 (Or.inl rfl) ?_
          refine g_iload_5 (pc := 133) X dX12_entry_133 ?_
          refine g_iastore_w (pc := 135) X dX12_entry_135 rfl (by decide) hR h (fun s13 hR h => ?_)
          refine g_aload_0 (pc := 136) X dX12_entry_136 ?_
          refine g_getRf (pc := 137) X dX12_entry_137 fl_X12_29 rfl (by decide) rfl hR rfl ?_
          refine g_aload_0 (pc := 140) X dX12_entry_140 ?_
          refine g_getI (pc := 141) X dX12_entry_141 rfl (by decide) fl_X12_177 (Or.inl rfl) ?_
          refine g_aload_0 (pc := 144) X dX12_entry_144 ?_
          refine g_getI (pc := 145) X dX12_entry_145 rfl (by decide) fl_X12_177 (Or.inl rfl) ?_
          refine g_iastore_w (pc := 148) X dX12_entry_148 rfl (by decide) hR h (fun s14 hR h => ?_)
          refine g_aload_0 (pc := 149) X dX12_entry_149 ?_
          refine g_dup (pc := 150) X dX12_entry_150 rfl ?_
          refine g_getI (pc := 151) X dX12_entry_151 rfl (by decide) fl_X12_177 (Or.inl rfl) ?_
          refine g_iconst (pc := 154) X dX12_entry_154 kiconst_1 ?_
          refine g_iadd (pc := 155) X dX12_entry_155 ?_
          refine g_putI_w (pc := 156) X dX12_entry_156 fl_X12_177 rfl (by decide) rfl rfl hR h (fun s15 hR h => ?_)
          refine g_aload_0 (pc := 159) X dX12_entry_159 ?_
          refine g_callV_V (pc := 160) X Y dX12_entry_160 miX12_untell li_X12_180 (t_X12_untell hR  h) rfl (by decide) rfl ⟨_, rfl⟩ rfl ⟨Nat.le_of_ble_eq_true rfl, Nat.le_of_ble_eq_true rfl⟩ (Nat.le_of_ble_eq_true rfl) (Nat.le_of_ble_eq_true rfl) rfl (by exact Nat.le_of_ble_eq_true rfl) (fun s16 hp => ?_)
          obtain ⟨hR, h⟩ := hp
          refine g_aload_0 (pc := 163) X dX12_entry_163 ?_
          refine g_getI (pc := 164) X dX12_entry_164 rfl (by decide) fl_X12_177 (Or.inl rfl) ?_
          refine g_iconst (pc := 167) X dX12_entry_167 kiconst_1 ?_
          refine g_isub (pc := 168) X dX12_entry_168 ?_
          exact g_ireturn (pc := 169) X Y dX12_entry_169 (Nat.le_of_ble_eq_true rfl) (Nat.le_of_ble_eq_true rfl) ⟨_, rfl, hR, h⟩
        · replace h := h.1 q8
          refine g_iconst (pc := 82) X dX12_entry_82 kiconst_m1 ?_
          exact g_ireturn (pc := 83) X Y dX12_entry_83 (Nat.le_of_ble_eq_true rfl) (Nat.le_of_ble_eq_true rfl) ⟨_, rfl, hR, h⟩
      · replace h := h.1 q7
        refine g_iconst (pc := 71) X dX12_entry_71 kiconst_0 ?_
        exact g_ireturn (pc := 72) X Y dX12_entry_72 (Nat.le_of_ble_eq_true rfl) (Nat.le_of_ble_eq_true rfl) ⟨_, rfl, hR, h⟩)
  replace h := h (G o γ 0 0 116 s1 63 [some (.ref (ad o 65)), some (.int p0), some (.int p1), some (.int p2), some (.int p3), some (.int p4)] [.ref (ad o 65)]) (by
      intro  h
      refine g_iconst (pc := 63) X dX12_entry_63 kiconst_0 ?_
      exact h)
  refine g_if_eq (pc := 13) X dX12_entry_13 (tgt := 63) (by decide) (fun q18 => ?_) (fun q18 => ?_)
  · replace h := h.1 q18
    exact h
  · replace h := h.2 q18
    refine g_iload_2 (pc := 16) X dX12_entry_16 ?_
    refine g_iconst (pc := 17) X dX12_entry_17 kiconst_0 ?_
    refine g_bipush (pc := 18) X dX12_entry_18 kbipush_15 ?_
    refine g_callS_I (pc := 20) X Y dX12_entry_20 miX12_within li_X12_169 (t_X12_within hR  h) rfl ⟨Nat.le_of_ble_eq_true rfl, Nat.le_of_ble_eq_true rfl⟩ (Nat.le_of_ble_eq_true rfl) (Nat.le_of_ble_eq_true rfl) rfl (by exact Nat.le_of_ble_eq_true rfl) (fun x19 σ9 hp => ?_)
    obtain ⟨rfl, h⟩ := hp
    refine g_if_eq (pc := 23) X dX12_entry_23 (tgt := 63) (by decide) (fun q20 => ?_) (fun q20 => ?_)
    · replace h := h.1 q20
      exact h
    · replace h := h.2 q20
      refine g_iload_3 (pc := 26) X dX12_entry_26 ?_
      refine g_iconst (pc := 27) X dX12_entry_27 kiconst_0 ?_
      refine g_bipush (pc := 28) X dX12_entry_28 kbipush_7 ?_
      refine g_callS_I (pc := 30) X Y dX12_entry_30 miX12_within li_X12_169 (t_X12_within hR  h) rfl ⟨Nat.le_of_ble_eq_true rfl, Nat.le_of_ble_eq_true rfl⟩ (Nat.le_of_ble_eq_true rfl) (Nat.le_of_ble_eq_true rfl) rfl (by exact Nat.le_of_ble_eq_true rfl) (fun x21 σ9 hp => ?_)
      obtain ⟨rfl, h⟩ := hp
      refine g_if_eq (pc := 33) X dX12_entry_33 (tgt := 63) (by decide) (fun q22 => ?_) (fun q22 => ?_)
      · replace h := h.1 q22
        exact h
      · replace h := h.2 q22
        refine g_iload_4 (pc := 36) X dX12_entry_36 ?_
        refine g_iconst (pc := 38) X dX12_entry_38 kiconst_0 ?_
        refine g_sipush (pc := 39) X dX12_entry_39 ksipush_199 ?_
        refine g_callS_I (pc := 42) X Y dX12_entry_42 miX12_within li_X12_169 (t_X12_within hR  h) rfl ⟨Nat.le_of_ble_eq_true rfl, Nat.le_of_ble_eq_true rfl⟩ (Nat.le_of_ble_eq_true rfl) (Nat.le_of_ble_eq_true rfl) rfl (by exact Nat.le_of_ble_eq_true rfl) (fun x23 σ9 hp => ?_)
        obtain ⟨rfl, h⟩ := hp
        refine g_if_eq (pc := 45) X dX12_entry_45 (tgt := 63) (by decide) (fun q24 => ?_) (fun q24 => ?_)
        · replace h := h.1 q24
          exact h
        · replace h := h.2 q24
          refine g_iload_5 (pc := 48) X dX12_entry_48 ?_
          refine g_iconst (pc := 50) X dX12_entry_50 kiconst_m1 ?_
          refine g_bipush (pc := 51) X dX12_entry_51 kbipush_15 ?_
          refine g_callS_I (pc := 53) X Y dX12_entry_53 miX12_within li_X12_169 (t_X12_within hR  h) rfl ⟨Nat.le_of_ble_eq_true rfl, Nat.le_of_ble_eq_true rfl⟩ (Nat.le_of_ble_eq_true rfl) (Nat.le_of_ble_eq_true rfl) rfl (by exact Nat.le_of_ble_eq_true rfl) (fun x25 σ9 hp => ?_)
          obtain ⟨rfl, h⟩ := hp
          refine g_if_eq (pc := 56) X dX12_entry_56 (tgt := 63) (by decide) (fun q26 => ?_) (fun q26 => ?_)
          · replace h := h.1 q26
            exact h
          · replace h := h.2 q26
            refine g_iconst (pc := 59) X dX12_entry_59 kiconst_1 ?_
            refine g_goto (pc := 60) X dX12_entry_60 (tgt := 64) (by decide) ?_
            exact h
def W_X12_isEntry (p0 : Int32) (Q : Int32 → gSt → Prop) (σ : gSt) : Prop := W_X12_within p0 (nI 0) ((σ.1 65 1) - (nI 1)) (fun x1 => W_X12_may x1 (nI 1) (fun x2 s3 => ((x2 = 0 ∨ x2 = 1) ∧ Q x2 s3)) σ) σ
set_option maxHeartbeats 4000000 in
theorem t_X12_isEntry {o : gOm} {l : Launch} {b : Bool}   {σ : gSt} (hR : σ.2.2 = gRf b) {p0 : Int32} {Q : Int32 → gSt → Prop} (h : W_X12_isEntry p0 Q σ) : Sp o l mX12_isEntry 2 0 0 [.ref (ad o 65), .int p0] 116 116 σ (pI (fun x s => s.2.2 = gRf b ∧ Q x s)) := by
  unfold W_X12_isEntry at h
  refine Sp.of (ls0 := [some (.ref (ad o 65)), some (.int p0)]) miX12_isEntry rfl (Nat.le_of_ble_eq_true rfl) rfl (fun γ hγ hnm X Y => ?_)
  subst hγ
  have X : gX o γ cX12_isEntry 2 RX12 := X
  refine g_aload_0 (pc := 0) X dX12_isEntry_0 ?_
  refine g_iload_1 (pc := 1) X dX12_isEntry_1 ?_
  refine g_iconst (pc := 2) X dX12_isEntry_2 kiconst_0 ?_
  refine g_aload_0 (pc := 3) X dX12_isEntry_3 ?_
  refine g_getI (pc := 4) X dX12_isEntry_4 rfl (by decide) fl_X12_177 (Or.inl rfl) ?_
  refine g_iconst (pc := 7) X dX12_isEntry_7 kiconst_1 ?_
  refine g_isub (pc := 8) X dX12_isEntry_8 ?_
  refine g_callS_I (pc := 9) X Y dX12_isEntry_9 miX12_within li_X12_169 (t_X12_within hR  h) rfl ⟨Nat.le_of_ble_eq_true rfl, Nat.le_of_ble_eq_true rfl⟩ (Nat.le_of_ble_eq_true rfl) (Nat.le_of_ble_eq_true rfl) rfl (by exact Nat.le_of_ble_eq_true rfl) (fun x1 σ9 hp => ?_)
  obtain ⟨rfl, h⟩ := hp
  refine g_iconst (pc := 12) X dX12_isEntry_12 kiconst_1 ?_
  refine g_callV_I (pc := 13) X Y dX12_isEntry_13 miX12_may li_X12_173 (t_X12_may hR  h) rfl (by decide) rfl ⟨_, rfl⟩ rfl ⟨Nat.le_of_ble_eq_true rfl, Nat.le_of_ble_eq_true rfl⟩ (Nat.le_of_ble_eq_true rfl) (Nat.le_of_ble_eq_true rfl) rfl (by exact Nat.le_of_ble_eq_true rfl) (fun x2 s3 hp => ?_)
  obtain ⟨hR, h⟩ := hp
  exact g_zreturn (pc := 16) X Y dX12_isEntry_16 h.1 (Nat.le_of_ble_eq_true rfl) (Nat.le_of_ble_eq_true rfl) ⟨_, rfl, hR, h.2⟩
def W_X12_isPair (p0 : Int32) (p1 : Int32) (Q : Int32 → gSt → Prop) (σ : gSt) : Prop := W_X12_isEntry p0 (fun x1 s2 => ((x1 = 0 → (Q (nI 0) s2)) ∧ (¬ x1 = 0 → (W_X12_isEntry p1 (fun x4 s5 => ((x4 = 0 → (Q (nI 0) s5)) ∧ (¬ x4 = 0 → (∀ J8 : Int32 → Prop, (∀ x7, (W_X12_may x7 (nI 2) (fun x9 s10 => ((x9 = 0 → (Q (nI 0) s10)) ∧ (¬ x9 = 0 → (Q (nI 1) s10)))) s5) → J8 x7) → ((p0 = p1 → (J8 (nI 0))) ∧ (¬ p0 = p1 → (J8 (nI 1)))))))) s2)))) σ
set_option maxHeartbeats 4000000 in
theorem t_X12_isPair {o : gOm} {l : Launch} {b : Bool}   {σ : gSt} (hR : σ.2.2 = gRf b) {p0 : Int32} {p1 : Int32} {Q : Int32 → gSt → Prop} (h : W_X12_isPair p0 p1 Q σ) : Sp o l mX12_isPair 3 0 0 [.ref (ad o 65), .int p0, .int p1] 116 116 σ (pI (fun x s => s.2.2 = gRf b ∧ Q x s)) := by
  unfold W_X12_isPair at h
  refine Sp.of (ls0 := [some (.ref (ad o 65)), some (.int p0), some (.int p1)]) miX12_isPair rfl (Nat.le_of_ble_eq_true rfl) rfl (fun γ hγ hnm X Y => ?_)
  subst hγ
  have X : gX o γ cX12_isPair 3 RX12 := X
  refine g_aload_0 (pc := 0) X dX12_isPair_0 ?_
  refine g_iload_1 (pc := 1) X dX12_isPair_1 ?_
  refine g_callV_I (pc := 2) X Y dX12_isPair_2 miX12_isEntry li_X12_183 (t_X12_isEntry hR  h) rfl (by decide) rfl ⟨_, rfl⟩ rfl ⟨Nat.le_of_ble_eq_true rfl, Nat.le_of_ble_eq_true rfl⟩ (Nat.le_of_ble_eq_true rfl) (Nat.le_of_ble_eq_true rfl) rfl (by exact Nat.le_of_ble_eq_true rfl) (fun x1 s2 hp => ?_)
  obtain ⟨hR, h⟩ := hp
  refine g_if_eq (pc := 5) X dX12_isPair_5 (tgt := 38) (by decide) (fun q3 => ?_) (fun q3 => ?_)
  · replace h := h.1 q3
    refine g_iconst (pc := 38) X dX12_isPair_38 kiconst_0 ?_
    exact g_zreturn (pc := 39) X Y dX12_isPair_39 (by first | exact Or.inl rfl | exact Or.inr rfl) (Nat.le_of_ble_eq_true rfl) (Nat.le_of_ble_eq_true rfl) ⟨_, rfl, hR, h⟩
  · replace h := h.2 q3
    refine g_aload_0 (pc := 8) X dX12_isPair_8 ?_
    refine g_iload_2 (pc := 9) X dX12_isPair_9 ?_
    refine g_callV_I (pc := 10) X Y dX12_isPair_10 miX12_isEntry li_X12_183 (t_X12_isEntry hR  h) rfl (by decide) rfl ⟨_, rfl⟩ rfl ⟨Nat.le_of_ble_eq_true rfl, Nat.le_of_ble_eq_true rfl⟩ (Nat.le_of_ble_eq_true rfl) (Nat.le_of_ble_eq_true rfl) rfl (by exact Nat.le_of_ble_eq_true rfl) (fun x4 s5 hp => ?_)
    obtain ⟨hR, h⟩ := hp
    refine g_if_eq (pc := 13) X dX12_isPair_13 (tgt := 38) (by decide) (fun q6 => ?_) (fun q6 => ?_)
    · replace h := h.1 q6
      refine g_iconst (pc := 38) X dX12_isPair_38 kiconst_0 ?_
      exact g_zreturn (pc := 39) X Y dX12_isPair_39 (by first | exact Or.inl rfl | exact Or.inr rfl) (Nat.le_of_ble_eq_true rfl) (Nat.le_of_ble_eq_true rfl) ⟨_, rfl, hR, h⟩
    · replace h := h.2 q6
      refine g_aload_0 (pc := 16) X dX12_isPair_16 ?_
      refine g_iload_1 (pc := 17) X dX12_isPair_17 ?_
      refine g_iload_2 (pc := 18) X dX12_isPair_18 ?_
      replace h := h (fun x7 => G o γ 0 0 116 s5 27 [none, none, none] [.int x7, .ref (ad o 65)]) (by
          intro x7 h
          refine g_iconst (pc := 27) X dX12_isPair_27 kiconst_2 ?_
          refine g_callV_I (pc := 28) X Y dX12_isPair_28 miX12_may li_X12_173 (t_X12_may hR  h) rfl (by decide) rfl ⟨_, rfl⟩ rfl ⟨Nat.le_of_ble_eq_true rfl, Nat.le_of_ble_eq_true rfl⟩ (Nat.le_of_ble_eq_true rfl) (Nat.le_of_ble_eq_true rfl) rfl (by exact Nat.le_of_ble_eq_true rfl) (fun x9 s10 hp => ?_)
          obtain ⟨hR, h⟩ := hp
          refine g_if_eq (pc := 31) X dX12_isPair_31 (tgt := 38) (by decide) (fun q11 => ?_) (fun q11 => ?_)
          · replace h := h.1 q11
            refine g_iconst (pc := 38) X dX12_isPair_38 kiconst_0 ?_
            exact g_zreturn (pc := 39) X Y dX12_isPair_39 (by first | exact Or.inl rfl | exact Or.inr rfl) (Nat.le_of_ble_eq_true rfl) (Nat.le_of_ble_eq_true rfl) ⟨_, rfl, hR, h⟩
          · replace h := h.2 q11
            refine g_iconst (pc := 34) X dX12_isPair_34 kiconst_1 ?_
            refine g_goto (pc := 35) X dX12_isPair_35 (tgt := 39) (by decide) ?_
            exact g_zreturn (pc := 39) X Y dX12_isPair_39 (by first | exact Or.inl rfl | exact Or.inr rfl) (Nat.le_of_ble_eq_true rfl) (Nat.le_of_ble_eq_true rfl) ⟨_, rfl, hR, h⟩)
      refine g_icmp_eq (pc := 19) X dX12_isPair_19 (tgt := 26) (by decide) (fun q12 => ?_) (fun q12 => ?_)
      · replace h := h.1 q12
        refine g_iconst (pc := 26) X dX12_isPair_26 kiconst_0 ?_
        exact g_drop (by simp [lsub]) (h)
      · replace h := h.2 q12
        refine g_iconst (pc := 22) X dX12_isPair_22 kiconst_1 ?_
        refine g_goto (pc := 23) X dX12_isPair_23 (tgt := 27) (by decide) ?_
        exact g_drop (by simp [lsub]) (h)
def L_X12_toldAt_2 (Q : Int32 → Prop) (c1 : Int32) (c2 : Int32) (σ : gSt) (K : Prop) : Nat → Int32 → Prop
  | 0, _ => False
  | n2 + 1, v3 => (((σ.1 65 33) ≤ v3 → K) ∧ (¬ (σ.1 65 33) ≤ v3 → (rI σ 87 60 v3 (fun x5 => ∀ J6 : Prop, ((rI σ 87 60 v3 (fun x7 => ((x7 = c2 → (rI σ 88 60 v3 (fun x9 => ((x9 = c1 → (Q v3)) ∧ (¬ x9 = c1 → (L_X12_toldAt_2 Q c1 c2 σ K n2 (v3 + nI 1))))))) ∧ (¬ x7 = c2 → (L_X12_toldAt_2 Q c1 c2 σ K n2 (v3 + nI 1)))))) → J6) → ((x5 = c1 → (rI σ 88 60 v3 (fun x12 => ((x12 = c2 → (Q v3)) ∧ (¬ x12 = c2 → J6))))) ∧ (¬ x5 = c1 → J6))))))
def W_X12_toldAt (p0 : Int32) (p1 : Int32) (Q : Int32 → Prop) (σ : gSt) : Prop := ∃ m2, L_X12_toldAt_2 Q p0 p1 σ (Q ((-1 : Int32))) m2 (nI 0)
set_option maxHeartbeats 4000000 in
theorem t_X12_toldAt {o : gOm} {l : Launch} {b : Bool}   {σ : gSt} (hR : σ.2.2 = gRf b) {p0 : Int32} {p1 : Int32} {Q : Int32 → Prop} (h : W_X12_toldAt p0 p1 Q σ) : Sp o l mX12_toldAt 1 0 0 [.ref (ad o 65), .int p0, .int p1] 116 116 σ (pI (fun x s => σ = s ∧ Q x)) := by
  unfold W_X12_toldAt at h
  refine Sp.of (ls0 := [some (.ref (ad o 65)), some (.int p0), some (.int p1), none]) miX12_toldAt rfl (Nat.le_of_ble_eq_true rfl) rfl (fun γ hγ hnm X Y => ?_)
  subst hγ
  have X : gX o γ cX12_toldAt 4 RX12 := X
  refine g_iconst (pc := 0) X dX12_toldAt_0 kiconst_0 ?_
  refine g_istore_3 (pc := 1) X dX12_toldAt_1 (by decide) rfl ?_
  obtain ⟨n14, h⟩ := h
  have hL : ∀ (c1 : Int32) (c2 : Int32) (K : Prop) (_ : K → G o γ 0 0 116 σ 58 [some (.ref (ad o 65)), some (.int c1), some (.int c2), none] []) (n : Nat) (v3 : Int32), L_X12_toldAt_2 Q c1 c2 σ K n v3 → G o γ 0 0 116 σ 2 [some (.ref (ad o 65)), some (.int c1), some (.int c2), some (.int v3)] [] := by
    intro c1 c2 K hK n
    induction n with
    | zero => intro v3 h; exact False.elim h
    | succ n ih =>
      intro v3 h
      rw [L_X12_toldAt_2] at h
      refine g_iload_3 (pc := 2) X dX12_toldAt_2 ?_
      refine g_aload_0 (pc := 3) X dX12_toldAt_3 ?_
      refine g_getI (pc := 4) X dX12_toldAt_4 rfl (by decide) fl_X12_338 (Or.inl rfl) ?_
      refine g_icmp_ge (pc := 7) X dX12_toldAt_7 (tgt := 58) (by decide) (fun q4 => ?_) (fun q4 => ?_)
      · replace h := h.1 q4
        exact g_drop (by simp [lsub]) (hK  h)
      · replace h := h.2 q4
        refine g_aload_0 (pc := 10) X dX12_toldAt_10 ?_
        refine g_getRf (pc := 11) X dX12_toldAt_11 fl_X12_80 rfl (by decide) rfl hR rfl ?_
        refine g_iload_3 (pc := 14) X dX12_toldAt_14 ?_
        refine g_iaload_w (pc := 15) X dX12_toldAt_15 rfl (by decide) h (fun x5 h => ?_)
        refine g_iload_1 (pc := 16) X dX12_toldAt_16 ?_
        replace h := h (G o γ 0 0 116 σ 30 [some (.ref (ad o 65)), some (.int c1), some (.int c2), some (.int v3)] []) (by
            intro  h
            refine g_aload_0 (pc := 30) X dX12_toldAt_30 ?_
            refine g_getRf (pc := 31) X dX12_toldAt_31 fl_X12_80 rfl (by decide) rfl hR rfl ?_
            refine g_iload_3 (pc := 34) X dX12_toldAt_34 ?_
            refine g_iaload_w (pc := 35) X dX12_toldAt_35 rfl (by decide) h (fun x7 h => ?_)
            refine g_iload_2 (pc := 36) X dX12_toldAt_36 ?_
            refine g_icmp_ne (pc := 37) X dX12_toldAt_37 (tgt := 52) (by decide) (fun q8 => ?_) (fun q8 => ?_)
            · replace h := h.2 q8
              refine g_iinc_3 (pc := 52) X dX12_toldAt_52 (v := v3 + nI 1) rfl (by decide) rfl ?_
              refine g_goto (pc := 55) X dX12_toldAt_55 (tgt := 2) (by decide) ?_
              exact ih (v3 + nI 1) h
            · replace h := h.1 q8
              refine g_aload_0 (pc := 40) X dX12_toldAt_40 ?_
              refine g_getRf (pc := 41) X dX12_toldAt_41 fl_X12_83 rfl (by decide) rfl hR rfl ?_
              refine g_iload_3 (pc := 44) X dX12_toldAt_44 ?_
              refine g_iaload_w (pc := 45) X dX12_toldAt_45 rfl (by decide) h (fun x9 h => ?_)
              refine g_iload_1 (pc := 46) X dX12_toldAt_46 ?_
              refine g_icmp_ne (pc := 47) X dX12_toldAt_47 (tgt := 52) (by decide) (fun q10 => ?_) (fun q10 => ?_)
              · replace h := h.2 q10
                refine g_iinc_3 (pc := 52) X dX12_toldAt_52 (v := v3 + nI 1) rfl (by decide) rfl ?_
                refine g_goto (pc := 55) X dX12_toldAt_55 (tgt := 2) (by decide) ?_
                exact ih (v3 + nI 1) h
              · replace h := h.1 q10
                refine g_iload_3 (pc := 50) X dX12_toldAt_50 ?_
                exact g_ireturn (pc := 51) X Y dX12_toldAt_51 (Nat.le_of_ble_eq_true rfl) (Nat.le_of_ble_eq_true rfl) ⟨_, rfl, rfl, h⟩)
        refine g_icmp_ne (pc := 17) X dX12_toldAt_17 (tgt := 30) (by decide) (fun q11 => ?_) (fun q11 => ?_)
        · replace h := h.2 q11
          exact h
        · replace h := h.1 q11
          refine g_aload_0 (pc := 20) X dX12_toldAt_20 ?_
          refine g_getRf (pc := 21) X dX12_toldAt_21 fl_X12_83 rfl (by decide) rfl hR rfl ?_
          refine g_iload_3 (pc := 24) X dX12_toldAt_24 ?_
          refine g_iaload_w (pc := 25) X dX12_toldAt_25 rfl (by decide) h (fun x12 h => ?_)
          refine g_iload_2 (pc := 26) X dX12_toldAt_26 ?_
          refine g_icmp_eq (pc := 27) X dX12_toldAt_27 (tgt := 50) (by decide) (fun q13 => ?_) (fun q13 => ?_)
          · replace h := h.1 q13
            refine g_iload_3 (pc := 50) X dX12_toldAt_50 ?_
            exact g_ireturn (pc := 51) X Y dX12_toldAt_51 (Nat.le_of_ble_eq_true rfl) (Nat.le_of_ble_eq_true rfl) ⟨_, rfl, rfl, h⟩
          · replace h := h.2 q13
            exact h
  refine hL p0 p1 _ (fun h => ?_) n14 (nI 0) h
  · refine g_iconst (pc := 58) X dX12_toldAt_58 kiconst_m1 ?_
    exact g_ireturn (pc := 59) X Y dX12_toldAt_59 (Nat.le_of_ble_eq_true rfl) (Nat.le_of_ble_eq_true rfl) ⟨_, rfl, rfl, h⟩
def W_X12_asked (p0 : Int32) (p1 : Int32) (p2 : Int32) (Q : Int32 → Prop) (σ : gSt) : Prop := ((p0 = nI 1 → (rI σ 67 30 p1 (fun x2 => rI σ 67 30 p2 (fun x3 => rI σ 72 256 (((nI 16) * x2) + x3) (fun x4 => Q x4))))) ∧ (¬ p0 = nI 1 → ((p0 = nI 2 → (rI σ 69 30 p1 (fun x6 => rI σ 69 30 p2 (fun x7 => W_X12_off (x6 - x7) (fun x8 => Q x8) σ)))) ∧ (¬ p0 = nI 2 → ((p0 = nI 3 → (rI σ 68 30 p1 (fun x10 => rI σ 68 30 p2 (fun x11 => ((x10 = x11 → (Q (nI 1))) ∧ (¬ x10 = x11 → (Q (nI 0)))))))) ∧ (¬ p0 = nI 3 → ((p0 = nI 4 → (rI σ 66 30 p1 (fun x14 => rI σ 66 30 p2 (fun x15 => ((x14 = x15 → (Q (nI 1))) ∧ (¬ x14 = x15 → (Q (nI 0)))))))) ∧ (¬ p0 = nI 4 → ((p0 = nI 5 → (rI σ 70 30 p1 (fun x18 => ((x18 = ((-1 : Int32)) → (Q (nI 0))) ∧ (¬ x18 = ((-1 : Int32)) → (rI σ 70 30 p1 (fun x20 => rI σ 70 30 p2 (fun x21 => ((x20 = x21 → (Q (nI 1))) ∧ (¬ x20 = x21 → (Q (nI 0)))))))))))) ∧ (¬ p0 = nI 5 → rI σ 70 30 p1 (fun x23 => ((x23 = ((-1 : Int32)) → (Q (nI 0))) ∧ (¬ x23 = ((-1 : Int32)) → (rI σ 70 30 p2 (fun x25 => ((x25 = ((-1 : Int32)) → (Q (nI 0))) ∧ (¬ x25 = ((-1 : Int32)) → (rI σ 70 30 p1 (fun x27 => rI σ 70 30 p2 (fun x28 => ((x27 = x28 → (Q (nI 0))) ∧ (¬ x27 = x28 → (Q (nI 1))))))))))))))))))))))))
set_option maxHeartbeats 4000000 in
theorem t_X12_asked {o : gOm} {l : Launch} {b : Bool}   {σ : gSt} (hR : σ.2.2 = gRf b) {p0 : Int32} {p1 : Int32} {p2 : Int32} {Q : Int32 → Prop} (h : W_X12_asked p0 p1 p2 Q σ) : Sp o l mX12_asked 2 0 0 [.ref (ad o 65), .int p0, .int p1, .int p2] 116 116 σ (pI (fun x s => σ = s ∧ Q x)) := by
  unfold W_X12_asked at h
  refine Sp.of (ls0 := [some (.ref (ad o 65)), some (.int p0), some (.int p1), some (.int p2)]) miX12_asked rfl (Nat.le_of_ble_eq_true rfl) rfl (fun γ hγ hnm X Y => ?_)
  subst hγ
  have X : gX o γ cX12_asked 4 RX12 := X
  refine g_iload_1 (pc := 0) X dX12_asked_0 ?_
  by_cases q1 : p0 = nI 1
  · replace h := h.1 q1
    refine g_tableIn (pc := 1) X dX12_asked_1 (tgt := 36) (by rw [q1]; decide) (by rw [q1]; decide) (by rw [q1]; rfl) (by decide) ?_
    refine g_aload_0 (pc := 36) X dX12_asked_36 ?_
    refine g_getRf (pc := 37) X dX12_asked_37 fl_X12_32 rfl (by decide) rfl hR rfl ?_
    refine g_bipush (pc := 40) X dX12_asked_40 kbipush_16 ?_
    refine g_aload_0 (pc := 42) X dX12_asked_42 ?_
    refine g_getRf (pc := 43) X dX12_asked_43 fl_X12_17 rfl (by decide) rfl hR rfl ?_
    refine g_iload_2 (pc := 46) X dX12_asked_46 ?_
    refine g_iaload_w (pc := 47) X dX12_asked_47 rfl (by decide) h (fun x2 h => ?_)
    refine g_imul (pc := 48) X dX12_asked_48 ?_
    refine g_aload_0 (pc := 49) X dX12_asked_49 ?_
    refine g_getRf (pc := 50) X dX12_asked_50 fl_X12_17 rfl (by decide) rfl hR rfl ?_
    refine g_iload_3 (pc := 53) X dX12_asked_53 ?_
    refine g_iaload_w (pc := 54) X dX12_asked_54 rfl (by decide) h (fun x3 h => ?_)
    refine g_iadd (pc := 55) X dX12_asked_55 ?_
    refine g_iaload_w (pc := 56) X dX12_asked_56 rfl (by decide) h (fun x4 h => ?_)
    exact g_ireturn (pc := 57) X Y dX12_asked_57 (Nat.le_of_ble_eq_true rfl) (Nat.le_of_ble_eq_true rfl) ⟨_, rfl, rfl, h⟩
  replace h := h.2 q1
  by_cases q5 : p0 = nI 2
  · replace h := h.1 q5
    refine g_tableIn (pc := 1) X dX12_asked_1 (tgt := 58) (by rw [q5]; decide) (by rw [q5]; decide) (by rw [q5]; rfl) (by decide) ?_
    refine g_aload_0 (pc := 58) X dX12_asked_58 ?_
    refine g_getRf (pc := 59) X dX12_asked_59 fl_X12_23 rfl (by decide) rfl hR rfl ?_
    refine g_iload_2 (pc := 62) X dX12_asked_62 ?_
    refine g_iaload_w (pc := 63) X dX12_asked_63 rfl (by decide) h (fun x6 h => ?_)
    refine g_aload_0 (pc := 64) X dX12_asked_64 ?_
    refine g_getRf (pc := 65) X dX12_asked_65 fl_X12_23 rfl (by decide) rfl hR rfl ?_
    refine g_iload_3 (pc := 68) X dX12_asked_68 ?_
    refine g_iaload_w (pc := 69) X dX12_asked_69 rfl (by decide) h (fun x7 h => ?_)
    refine g_isub (pc := 70) X dX12_asked_70 ?_
    refine g_callS_I (pc := 71) X Y dX12_asked_71 miX12_off li_X12_323 (t_X12_off hR  h) rfl ⟨Nat.le_of_ble_eq_true rfl, Nat.le_of_ble_eq_true rfl⟩ (Nat.le_of_ble_eq_true rfl) (Nat.le_of_ble_eq_true rfl) rfl (by exact Nat.le_of_ble_eq_true rfl) (fun x8 σ9 hp => ?_)
    obtain ⟨rfl, h⟩ := hp
    exact g_ireturn (pc := 74) X Y dX12_asked_74 (Nat.le_of_ble_eq_true rfl) (Nat.le_of_ble_eq_true rfl) ⟨_, rfl, rfl, h⟩
  replace h := h.2 q5
  by_cases q9 : p0 = nI 3
  · replace h := h.1 q9
    refine g_tableIn (pc := 1) X dX12_asked_1 (tgt := 75) (by rw [q9]; decide) (by rw [q9]; decide) (by rw [q9]; rfl) (by decide) ?_
    refine g_aload_0 (pc := 75) X dX12_asked_75 ?_
    refine g_getRf (pc := 76) X dX12_asked_76 fl_X12_20 rfl (by decide) rfl hR rfl ?_
    refine g_iload_2 (pc := 79) X dX12_asked_79 ?_
    refine g_iaload_w (pc := 80) X dX12_asked_80 rfl (by decide) h (fun x10 h => ?_)
    refine g_aload_0 (pc := 81) X dX12_asked_81 ?_
    refine g_getRf (pc := 82) X dX12_asked_82 fl_X12_20 rfl (by decide) rfl hR rfl ?_
    refine g_iload_3 (pc := 85) X dX12_asked_85 ?_
    refine g_iaload_w (pc := 86) X dX12_asked_86 rfl (by decide) h (fun x11 h => ?_)
    refine g_icmp_ne (pc := 87) X dX12_asked_87 (tgt := 94) (by decide) (fun q12 => ?_) (fun q12 => ?_)
    · replace h := h.2 q12
      refine g_iconst (pc := 94) X dX12_asked_94 kiconst_0 ?_
      exact g_ireturn (pc := 95) X Y dX12_asked_95 (Nat.le_of_ble_eq_true rfl) (Nat.le_of_ble_eq_true rfl) ⟨_, rfl, rfl, h⟩
    · replace h := h.1 q12
      refine g_iconst (pc := 90) X dX12_asked_90 kiconst_1 ?_
      refine g_goto (pc := 91) X dX12_asked_91 (tgt := 95) (by decide) ?_
      exact g_ireturn (pc := 95) X Y dX12_asked_95 (Nat.le_of_ble_eq_true rfl) (Nat.le_of_ble_eq_true rfl) ⟨_, rfl, rfl, h⟩
  replace h := h.2 q9
  by_cases q13 : p0 = nI 4
  · replace h := h.1 q13
    refine g_tableIn (pc := 1) X dX12_asked_1 (tgt := 96) (by rw [q13]; decide) (by rw [q13]; decide) (by rw [q13]; rfl) (by decide) ?_
    refine g_aload_0 (pc := 96) X dX12_asked_96 ?_
    refine g_getRf (pc := 97) X dX12_asked_97 fl_X12_13 rfl (by decide) rfl hR rfl ?_
    refine g_iload_2 (pc := 100) X dX12_asked_100 ?_
    refine g_iaload_w (pc := 101) X dX12_asked_101 rfl (by decide) h (fun x14 h => ?_)
    refine g_aload_0 (pc := 102) X dX12_asked_102 ?_
    refine g_getRf (pc := 103) X dX12_asked_103 fl_X12_13 rfl (by decide) rfl hR rfl ?_
    refine g_iload_3 (pc := 106) X dX12_asked_106 ?_
    refine g_iaload_w (pc := 107) X dX12_asked_107 rfl (by decide) h (fun x15 h => ?_)
    refine g_icmp_ne (pc := 108) X dX12_asked_108 (tgt := 115) (by decide) (fun q16 => ?_) (fun q16 => ?_)
    · replace h := h.2 q16
      refine g_iconst (pc := 115) X dX12_asked_115 kiconst_0 ?_
      exact g_ireturn (pc := 116) X Y dX12_asked_116 (Nat.le_of_ble_eq_true rfl) (Nat.le_of_ble_eq_true rfl) ⟨_, rfl, rfl, h⟩
    · replace h := h.1 q16
      refine g_iconst (pc := 111) X dX12_asked_111 kiconst_1 ?_
      refine g_goto (pc := 112) X dX12_asked_112 (tgt := 116) (by decide) ?_
      exact g_ireturn (pc := 116) X Y dX12_asked_116 (Nat.le_of_ble_eq_true rfl) (Nat.le_of_ble_eq_true rfl) ⟨_, rfl, rfl, h⟩
  replace h := h.2 q13
  by_cases q17 : p0 = nI 5
  · replace h := h.1 q17
    refine g_tableIn (pc := 1) X dX12_asked_1 (tgt := 117) (by rw [q17]; decide) (by rw [q17]; decide) (by rw [q17]; rfl) (by decide) ?_
    refine g_aload_0 (pc := 117) X dX12_asked_117 ?_
    refine g_getRf (pc := 118) X dX12_asked_118 fl_X12_26 rfl (by decide) rfl hR rfl ?_
    refine g_iload_2 (pc := 121) X dX12_asked_121 ?_
    refine g_iaload_w (pc := 122) X dX12_asked_122 rfl (by decide) h (fun x18 h => ?_)
    refine g_iconst (pc := 123) X dX12_asked_123 kiconst_m1 ?_
    refine g_icmp_eq (pc := 124) X dX12_asked_124 (tgt := 146) (by decide) (fun q19 => ?_) (fun q19 => ?_)
    · replace h := h.1 q19
      refine g_iconst (pc := 146) X dX12_asked_146 kiconst_0 ?_
      exact g_ireturn (pc := 147) X Y dX12_asked_147 (Nat.le_of_ble_eq_true rfl) (Nat.le_of_ble_eq_true rfl) ⟨_, rfl, rfl, h⟩
    · replace h := h.2 q19
      refine g_aload_0 (pc := 127) X dX12_asked_127 ?_
      refine g_getRf (pc := 128) X dX12_asked_128 fl_X12_26 rfl (by decide) rfl hR rfl ?_
      refine g_iload_2 (pc := 131) X dX12_asked_131 ?_
      refine g_iaload_w (pc := 132) X dX12_asked_132 rfl (by decide) h (fun x20 h => ?_)
      refine g_aload_0 (pc := 133) X dX12_asked_133 ?_
      refine g_getRf (pc := 134) X dX12_asked_134 fl_X12_26 rfl (by decide) rfl hR rfl ?_
      refine g_iload_3 (pc := 137) X dX12_asked_137 ?_
      refine g_iaload_w (pc := 138) X dX12_asked_138 rfl (by decide) h (fun x21 h => ?_)
      refine g_icmp_ne (pc := 139) X dX12_asked_139 (tgt := 146) (by decide) (fun q22 => ?_) (fun q22 => ?_)
      · replace h := h.2 q22
        refine g_iconst (pc := 146) X dX12_asked_146 kiconst_0 ?_
        exact g_ireturn (pc := 147) X Y dX12_asked_147 (Nat.le_of_ble_eq_true rfl) (Nat.le_of_ble_eq_true rfl) ⟨_, rfl, rfl, h⟩
      · replace h := h.1 q22
        refine g_iconst (pc := 142) X dX12_asked_142 kiconst_1 ?_
        refine g_goto (pc := 143) X dX12_asked_143 (tgt := 147) (by decide) ?_
        exact g_ireturn (pc := 147) X Y dX12_asked_147 (Nat.le_of_ble_eq_true rfl) (Nat.le_of_ble_eq_true rfl) ⟨_, rfl, rfl, h⟩
  replace h := h.2 q17
  refine g_tableOut (pc := 1) X dX12_asked_1 (tgt := 148) (tsw_out (lo := 1) (m := 5) (by decide) (fun i hi => ?_)) (by decide) ?_
  · have hi : i = 0 ∨ i = 1 ∨ i = 2 ∨ i = 3 ∨ i = 4 := by omega
    rcases hi with rfl | rfl | rfl | rfl | rfl
    · exact q1
    · exact q5
    · exact q9
    · exact q13
    · exact q17
  refine g_aload_0 (pc := 148) X dX12_asked_148 ?_
  refine g_getRf (pc := 149) X dX12_asked_149 fl_X12_26 rfl (by decide) rfl hR rfl ?_
  refine g_iload_2 (pc := 152) X dX12_asked_152 ?_
  refine g_iaload_w (pc := 153) X dX12_asked_153 rfl (by decide) h (fun x23 h => ?_)
  refine g_iconst (pc := 154) X dX12_asked_154 kiconst_m1 ?_
  refine g_icmp_eq (pc := 155) X dX12_asked_155 (tgt := 187) (by decide) (fun q24 => ?_) (fun q24 => ?_)
  · replace h := h.1 q24
    refine g_iconst (pc := 187) X dX12_asked_187 kiconst_0 ?_
    exact g_ireturn (pc := 188) X Y dX12_asked_188 (Nat.le_of_ble_eq_true rfl) (Nat.le_of_ble_eq_true rfl) ⟨_, rfl, rfl, h⟩
  · replace h := h.2 q24
    refine g_aload_0 (pc := 158) X dX12_asked_158 ?_
    refine g_getRf (pc := 159) X dX12_asked_159 fl_X12_26 rfl (by decide) rfl hR rfl ?_
    refine g_iload_3 (pc := 162) X dX12_asked_162 ?_
    refine g_iaload_w (pc := 163) X dX12_asked_163 rfl (by decide) h (fun x25 h => ?_)
    refine g_iconst (pc := 164) X dX12_asked_164 kiconst_m1 ?_
    refine g_icmp_eq (pc := 165) X dX12_asked_165 (tgt := 187) (by decide) (fun q26 => ?_) (fun q26 => ?_)
    · replace h := h.1 q26
      refine g_iconst (pc := 187) X dX12_asked_187 kiconst_0 ?_
      exact g_ireturn (pc := 188) X Y dX12_asked_188 (Nat.le_of_ble_eq_true rfl) (Nat.le_of_ble_eq_true rfl) ⟨_, rfl, rfl, h⟩
    · replace h := h.2 q26
      refine g_aload_0 (pc := 168) X dX12_asked_168 ?_
      refine g_getRf (pc := 169) X dX12_asked_169 fl_X12_26 rfl (by decide) rfl hR rfl ?_
      refine g_iload_2 (pc := 172) X dX12_asked_172 ?_
      refine g_iaload_w (pc := 173) X dX12_asked_173 rfl (by decide) h (fun x27 h => ?_)
      refine g_aload_0 (pc := 174) X dX12_asked_174 ?_
      refine g_getRf (pc := 175) X dX12_asked_175 fl_X12_26 rfl (by decide) rfl hR rfl ?_
      refine g_iload_3 (pc := 178) X dX12_asked_178 ?_
      refine g_iaload_w (pc := 179) X dX12_asked_179 rfl (by decide) h (fun x28 h => ?_)
      refine g_icmp_eq (pc := 180) X dX12_asked_180 (tgt := 187) (by decide) (fun q29 => ?_) (fun q29 => ?_)
      · replace h := h.1 q29
        refine g_iconst (pc := 187) X dX12_asked_187 kiconst_0 ?_
        exact g_ireturn (pc := 188) X Y dX12_asked_188 (Nat.le_of_ble_eq_true rfl) (Nat.le_of_ble_eq_true rfl) ⟨_, rfl, rfl, h⟩
      · replace h := h.2 q29
        refine g_iconst (pc := 183) X dX12_asked_183 kiconst_1 ?_
        refine g_goto (pc := 184) X dX12_asked_184 (tgt := 188) (by decide) ?_
        exact g_ireturn (pc := 188) X Y dX12_asked_188 (Nat.le_of_ble_eq_true rfl) (Nat.le_of_ble_eq_true rfl) ⟨_, rfl, rfl, h⟩
def W_X12_two (p0 : Int32) (p1 : Int32) (p2 : Int32) (Q : Int32 → Prop) (σ : gSt) : Prop := ((p0 = nI 7 → (Q (p1 + p2))) ∧ (¬ p0 = nI 7 → ((p0 = nI 8 → (Q (p1 - p2))) ∧ (¬ p0 = nI 8 → ((p0 = nI 9 → (Q (p1 * p2))) ∧ (¬ p0 = nI 9 → ((p0 = nI 10 → (((p2 = 0 → (Q (nI 0))) ∧ (¬ p2 = 0 → (((p2 = ((-1 : Int32)) → (Q (-p1))) ∧ (¬ p2 = ((-1 : Int32)) → (¬ p2 = 0 ∧ Q (p1 / p2))))))))) ∧ (¬ p0 = nI 10 → ((p0 = nI 11 → (((p2 ≤ p1 → (Q p2)) ∧ (¬ p2 ≤ p1 → (Q p1))))) ∧ (¬ p0 = nI 11 → ((p0 = nI 12 → (((p1 ≤ p2 → (Q p2)) ∧ (¬ p1 ≤ p2 → (Q p1))))) ∧ (¬ p0 = nI 12 → ((p0 = nI 13 → (((p2 ≤ p1 → (Q (nI 0))) ∧ (¬ p2 ≤ p1 → (Q (nI 1)))))) ∧ (¬ p0 = nI 13 → ((p0 = nI 14 → (((p1 ≤ p2 → (Q (nI 0))) ∧ (¬ p1 ≤ p2 → (Q (nI 1)))))) ∧ (¬ p0 = nI 14 → ((p0 = nI 15 → (((p1 = p2 → (Q (nI 1))) ∧ (¬ p1 = p2 → (Q (nI 0)))))) ∧ (¬ p0 = nI 15 → ((p0 = nI 16 → ((((p1 + p2) ≤ 0 → (Q (nI 0))) ∧ (¬ (p1 + p2) ≤ 0 → (Q (nI 1)))))) ∧ (¬ p0 = nI 16 → Q (p1 * p2)))))))))))))))))))))
set_option maxHeartbeats 4000000 in
theorem t_X12_two {o : gOm} {l : Launch} {b : Bool}   {σ : gSt} (hR : σ.2.2 = gRf b) {p0 : Int32} {p1 : Int32} {p2 : Int32} {Q : Int32 → Prop} (h : W_X12_two p0 p1 p2 Q σ) : Sp o l mX12_two 1 0 0 [.int p0, .int p1, .int p2] 116 116 σ (pI (fun x s => σ = s ∧ Q x)) := by
  unfold W_X12_two at h
  refine Sp.of (ls0 := [some (.int p0), some (.int p1), some (.int p2)]) miX12_two rfl (Nat.le_of_ble_eq_true rfl) rfl (fun γ hγ hnm X Y => ?_)
  subst hγ
  have X : gX o γ cX12_two 3 RX12 := X
  refine g_iload_0 (pc := 0) X dX12_two_0 ?_
  by_cases q1 : p0 = nI 7
  · replace h := h.1 q1
    refine g_tableIn (pc := 1) X dX12_two_1 (tgt := 56) (by rw [q1]; decide) (by rw [q1]; decide) (by rw [q1]; rfl) (by decide) ?_
    refine g_iload_1 (pc := 56) X dX12_two_56 ?_
    refine g_iload_2 (pc := 57) X dX12_two_57 ?_
    refine g_iadd (pc := 58) X dX12_two_58 ?_
    exact g_ireturn (pc := 59) X Y dX12_two_59 (Nat.le_of_ble_eq_true rfl) (Nat.le_of_ble_eq_true rfl) ⟨_, rfl, rfl, h⟩
  replace h := h.2 q1
  by_cases q2 : p0 = nI 8
  · replace h := h.1 q2
    refine g_tableIn (pc := 1) X dX12_two_1 (tgt := 60) (by rw [q2]; decide) (by rw [q2]; decide) (by rw [q2]; rfl) (by decide) ?_
    refine g_iload_1 (pc := 60) X dX12_two_60 ?_
    refine g_iload_2 (pc := 61) X dX12_two_61 ?_
    refine g_isub (pc := 62) X dX12_two_62 ?_
    exact g_ireturn (pc := 63) X Y dX12_two_63 (Nat.le_of_ble_eq_true rfl) (Nat.le_of_ble_eq_true rfl) ⟨_, rfl, rfl, h⟩
  replace h := h.2 q2
  by_cases q3 : p0 = nI 9
  · replace h := h.1 q3
    refine g_tableIn (pc := 1) X dX12_two_1 (tgt := 64) (by rw [q3]; decide) (by rw [q3]; decide) (by rw [q3]; rfl) (by decide) ?_
    refine g_iload_1 (pc := 64) X dX12_two_64 ?_
    refine g_iload_2 (pc := 65) X dX12_two_65 ?_
    refine g_imul (pc := 66) X dX12_two_66 ?_
    exact g_ireturn (pc := 67) X Y dX12_two_67 (Nat.le_of_ble_eq_true rfl) (Nat.le_of_ble_eq_true rfl) ⟨_, rfl, rfl, h⟩
  replace h := h.2 q3
  by_cases q4 : p0 = nI 10
  · replace h := h.1 q4
    refine g_tableIn (pc := 1) X dX12_two_1 (tgt := 68) (by rw [q4]; decide) (by rw [q4]; decide) (by rw [q4]; rfl) (by decide) ?_
    refine g_iload_2 (pc := 68) X dX12_two_68 ?_
    refine g_if_ne (pc := 69) X dX12_two_69 (tgt := 76) (by decide) (fun q5 => ?_) (fun q5 => ?_)
    · replace h := h.2 q5
      refine g_iload_2 (pc := 76) X dX12_two_76 ?_
      refine g_iconst (pc := 77) X dX12_two_77 kiconst_m1 ?_
      refine g_icmp_ne (pc := 78) X dX12_two_78 (tgt := 86) (by decide) (fun q6 => ?_) (fun q6 => ?_)
      · replace h := h.2 q6
        refine g_iload_1 (pc := 86) X dX12_two_86 ?_
        refine g_iload_2 (pc := 87) X dX12_two_87 ?_
        obtain ⟨q, h⟩ := h
        refine g_idiv (pc := 88) X dX12_two_88 q ?_
        exact g_ireturn (pc := 89) X Y dX12_two_89 (Nat.le_of_ble_eq_true rfl) (Nat.le_of_ble_eq_true rfl) ⟨_, rfl, rfl, h⟩
      · replace h := h.1 q6
        refine g_iload_1 (pc := 81) X dX12_two_81 ?_
        refine g_ineg (pc := 82) X dX12_two_82 ?_
        refine g_goto (pc := 83) X dX12_two_83 (tgt := 89) (by decide) ?_
        exact g_ireturn (pc := 89) X Y dX12_two_89 (Nat.le_of_ble_eq_true rfl) (Nat.le_of_ble_eq_true rfl) ⟨_, rfl, rfl, h⟩
    · replace h := h.1 q5
      refine g_iconst (pc := 72) X dX12_two_72 kiconst_0 ?_
      refine g_goto (pc := 73) X dX12_two_73 (tgt := 89) (by decide) ?_
      exact g_ireturn (pc := 89) X Y dX12_two_89 (Nat.le_of_ble_eq_true rfl) (Nat.le_of_ble_eq_true rfl) ⟨_, rfl, rfl, h⟩
  replace h := h.2 q4
  by_cases q7 : p0 = nI 11
  · replace h := h.1 q7
    refine g_tableIn (pc := 1) X dX12_two_1 (tgt := 90) (by rw [q7]; decide) (by rw [q7]; decide) (by rw [q7]; rfl) (by decide) ?_
    refine g_iload_1 (pc := 90) X dX12_two_90 ?_
    refine g_iload_2 (pc := 91) X dX12_two_91 ?_
    refine g_icmp_ge (pc := 92) X dX12_two_92 (tgt := 99) (by decide) (fun q8 => ?_) (fun q8 => ?_)
    · replace h := h.1 q8
      refine g_iload_2 (pc := 99) X dX12_two_99 ?_
      exact g_ireturn (pc := 100) X Y dX12_two_100 (Nat.le_of_ble_eq_true rfl) (Nat.le_of_ble_eq_true rfl) ⟨_, rfl, rfl, h⟩
    · replace h := h.2 q8
      refine g_iload_1 (pc := 95) X dX12_two_95 ?_
      refine g_goto (pc := 96) X dX12_two_96 (tgt := 100) (by decide) ?_
      exact g_ireturn (pc := 100) X Y dX12_two_100 (Nat.le_of_ble_eq_true rfl) (Nat.le_of_ble_eq_true rfl) ⟨_, rfl, rfl, h⟩
  replace h := h.2 q7
  by_cases q9 : p0 = nI 12
  · replace h := h.1 q9
    refine g_tableIn (pc := 1) X dX12_two_1 (tgt := 101) (by rw [q9]; decide) (by rw [q9]; decide) (by rw [q9]; rfl) (by decide) ?_
    refine g_iload_1 (pc := 101) X dX12_two_101 ?_
    refine g_iload_2 (pc := 102) X dX12_two_102 ?_
    refine g_icmp_le (pc := 103) X dX12_two_103 (tgt := 110) (by decide) (fun q10 => ?_) (fun q10 => ?_)
    · replace h := h.1 q10
      refine g_iload_2 (pc := 110) X dX12_two_110 ?_
      exact g_ireturn (pc := 111) X Y dX12_two_111 (Nat.le_of_ble_eq_true rfl) (Nat.le_of_ble_eq_true rfl) ⟨_, rfl, rfl, h⟩
    · replace h := h.2 q10
      refine g_iload_1 (pc := 106) X dX12_two_106 ?_
      refine g_goto (pc := 107) X dX12_two_107 (tgt := 111) (by decide) ?_
      exact g_ireturn (pc := 111) X Y dX12_two_111 (Nat.le_of_ble_eq_true rfl) (Nat.le_of_ble_eq_true rfl) ⟨_, rfl, rfl, h⟩
  replace h := h.2 q9
  by_cases q11 : p0 = nI 13
  · replace h := h.1 q11
    refine g_tableIn (pc := 1) X dX12_two_1 (tgt := 112) (by rw [q11]; decide) (by rw [q11]; decide) (by rw [q11]; rfl) (by decide) ?_
    refine g_iload_1 (pc := 112) X dX12_two_112 ?_
    refine g_iload_2 (pc := 113) X dX12_two_113 ?_
    refine g_icmp_ge (pc := 114) X dX12_two_114 (tgt := 121) (by decide) (fun q12 => ?_) (fun q12 => ?_)
    · replace h := h.1 q12
      refine g_iconst (pc := 121) X dX12_two_121 kiconst_0 ?_
      exact g_ireturn (pc := 122) X Y dX12_two_122 (Nat.le_of_ble_eq_true rfl) (Nat.le_of_ble_eq_true rfl) ⟨_, rfl, rfl, h⟩
    · replace h := h.2 q12
      refine g_iconst (pc := 117) X dX12_two_117 kiconst_1 ?_
      refine g_goto (pc := 118) X dX12_two_118 (tgt := 122) (by decide) ?_
      exact g_ireturn (pc := 122) X Y dX12_two_122 (Nat.le_of_ble_eq_true rfl) (Nat.le_of_ble_eq_true rfl) ⟨_, rfl, rfl, h⟩
  replace h := h.2 q11
  by_cases q13 : p0 = nI 14
  · replace h := h.1 q13
    refine g_tableIn (pc := 1) X dX12_two_1 (tgt := 123) (by rw [q13]; decide) (by rw [q13]; decide) (by rw [q13]; rfl) (by decide) ?_
    refine g_iload_1 (pc := 123) X dX12_two_123 ?_
    refine g_iload_2 (pc := 124) X dX12_two_124 ?_
    refine g_icmp_le (pc := 125) X dX12_two_125 (tgt := 132) (by decide) (fun q14 => ?_) (fun q14 => ?_)
    · replace h := h.1 q14
      refine g_iconst (pc := 132) X dX12_two_132 kiconst_0 ?_
      exact g_ireturn (pc := 133) X Y dX12_two_133 (Nat.le_of_ble_eq_true rfl) (Nat.le_of_ble_eq_true rfl) ⟨_, rfl, rfl, h⟩
    · replace h := h.2 q14
      refine g_iconst (pc := 128) X dX12_two_128 kiconst_1 ?_
      refine g_goto (pc := 129) X dX12_two_129 (tgt := 133) (by decide) ?_
      exact g_ireturn (pc := 133) X Y dX12_two_133 (Nat.le_of_ble_eq_true rfl) (Nat.le_of_ble_eq_true rfl) ⟨_, rfl, rfl, h⟩
  replace h := h.2 q13
  by_cases q15 : p0 = nI 15
  · replace h := h.1 q15
    refine g_tableIn (pc := 1) X dX12_two_1 (tgt := 134) (by rw [q15]; decide) (by rw [q15]; decide) (by rw [q15]; rfl) (by decide) ?_
    refine g_iload_1 (pc := 134) X dX12_two_134 ?_
    refine g_iload_2 (pc := 135) X dX12_two_135 ?_
    refine g_icmp_ne (pc := 136) X dX12_two_136 (tgt := 143) (by decide) (fun q16 => ?_) (fun q16 => ?_)
    · replace h := h.2 q16
      refine g_iconst (pc := 143) X dX12_two_143 kiconst_0 ?_
      exact g_ireturn (pc := 144) X Y dX12_two_144 (Nat.le_of_ble_eq_true rfl) (Nat.le_of_ble_eq_true rfl) ⟨_, rfl, rfl, h⟩
    · replace h := h.1 q16
      refine g_iconst (pc := 139) X dX12_two_139 kiconst_1 ?_
      refine g_goto (pc := 140) X dX12_two_140 (tgt := 144) (by decide) ?_
      exact g_ireturn (pc := 144) X Y dX12_two_144 (Nat.le_of_ble_eq_true rfl) (Nat.le_of_ble_eq_true rfl) ⟨_, rfl, rfl, h⟩
  replace h := h.2 q15
  by_cases q17 : p0 = nI 16
  · replace h := h.1 q17
    refine g_tableIn (pc := 1) X dX12_two_1 (tgt := 145) (by rw [q17]; decide) (by rw [q17]; decide) (by rw [q17]; rfl) (by decide) ?_
    refine g_iload_1 (pc := 145) X dX12_two_145 ?_
    refine g_iload_2 (pc := 146) X dX12_two_146 ?_
    refine g_iadd (pc := 147) X dX12_two_147 ?_
    refine g_if_le (pc := 148) X dX12_two_148 (tgt := 155) (by decide) (fun q18 => ?_) (fun q18 => ?_)
    · replace h := h.1 q18
      refine g_iconst (pc := 155) X dX12_two_155 kiconst_0 ?_
      exact g_ireturn (pc := 156) X Y dX12_two_156 (Nat.le_of_ble_eq_true rfl) (Nat.le_of_ble_eq_true rfl) ⟨_, rfl, rfl, h⟩
    · replace h := h.2 q18
      refine g_iconst (pc := 151) X dX12_two_151 kiconst_1 ?_
      refine g_goto (pc := 152) X dX12_two_152 (tgt := 156) (by decide) ?_
      exact g_ireturn (pc := 156) X Y dX12_two_156 (Nat.le_of_ble_eq_true rfl) (Nat.le_of_ble_eq_true rfl) ⟨_, rfl, rfl, h⟩
  replace h := h.2 q17
  refine g_tableOut (pc := 1) X dX12_two_1 (tgt := 157) (tsw_out (lo := 7) (m := 10) (by decide) (fun i hi => ?_)) (by decide) ?_
  · have hi : i = 0 ∨ i = 1 ∨ i = 2 ∨ i = 3 ∨ i = 4 ∨ i = 5 ∨ i = 6 ∨ i = 7 ∨ i = 8 ∨ i = 9 := by omega
    rcases hi with rfl | rfl | rfl | rfl | rfl | rfl | rfl | rfl | rfl | rfl
    · exact q1
    · exact q2
    · exact q3
    · exact q4
    · exact q7
    · exact q9
    · exact q11
    · exact q13
    · exact q15
    · exact q17
  refine g_iload_1 (pc := 157) X dX12_two_157 ?_
  refine g_iload_2 (pc := 158) X dX12_two_158 ?_
  refine g_imul (pc := 159) X dX12_two_159 ?_
  exact g_ireturn (pc := 160) X Y dX12_two_160 (Nat.le_of_ble_eq_true rfl) (Nat.le_of_ble_eq_true rfl) ⟨_, rfl, rfl, h⟩
def L_X12_valueOf_6 (Q : Int32 → gSt → Prop) (c1 : Int32) (c2 : Int32) (c3 : Int32) (K : gSt → Prop) : Nat → Int32 → Int32 → gSt → Prop
  | 0, _, _, _ => False
  | n6 + 1, v4, v5, s6 => ((c1 ≤ v5 → (K s6)) ∧ (¬ c1 ≤ v5 → (rI s6 78 400 v5 (fun x9 => (((nI 6) < x9 → (((x9 = (nI 18) → (rI s6 86 220 (v4 - (nI 1)) (fun x16 => wI s6 86 220 (v4 - (nI 1)) ((nI 1) - x16) (fun s17 => L_X12_valueOf_6 Q c1 c2 c3 K n6 v4 (v5 + nI 1) s17)))) ∧ (¬ x9 = (nI 18) → (rI s6 86 220 ((v4 + (-1 : Int32)) - (nI 1)) (fun x12 => rI s6 86 220 (v4 + (-1 : Int32)) (fun x13 => W_X12_two x9 x12 x13 (fun x14 => wI s6 86 220 ((v4 + (-1 : Int32)) - (nI 1)) x14 (fun s15 => L_X12_valueOf_6 Q c1 c2 c3 K n6 (v4 + (-1 : Int32)) (v5 + nI 1) s15)) s6))))))) ∧ (¬ (nI 6) < x9 → (∀ J19 : Int32 → Prop, (∀ x18, (wI s6 86 220 v4 x18 (fun s20 => L_X12_valueOf_6 Q c1 c2 c3 K n6 (v4 + nI 1) (v5 + nI 1) s20)) → J19 x18) → ((x9 = 0 → (rI s6 79 400 v5 (fun x23 => J19 x23))) ∧ (¬ x9 = 0 → (W_X12_asked x9 c2 c3 (fun x22 => J19 x22) s6))))))))))
def W_X12_valueOf (p0 : Int32) (p1 : Int32) (p2 : Int32) (p3 : Int32) (Q : Int32 → gSt → Prop) (σ : gSt) : Prop := ∃ m6, L_X12_valueOf_6 Q p1 p2 p3 (fun s25 => rI s25 86 220 (nI 0) (fun x26 => Q x26 s25)) m6 (nI 0) p0 σ
set_option maxHeartbeats 4000000 in
theorem t_X12_valueOf {o : gOm} {l : Launch} {b : Bool}   {σ : gSt} (hR : σ.2.2 = gRf b) {p0 : Int32} {p1 : Int32} {p2 : Int32} {p3 : Int32} {Q : Int32 → gSt → Prop} (h : W_X12_valueOf p0 p1 p2 p3 Q σ) : Sp o l mX12_valueOf 3 0 0 [.ref (ad o 65), .int p0, .int p1, .int p2, .int p3] 116 116 σ (pI (fun x s => s.2.2 = gRf b ∧ Q x s)) := by
  unfold W_X12_valueOf at h
  refine Sp.of (ls0 := [some (.ref (ad o 65)), some (.int p0), some (.int p1), some (.int p2), some (.int p3), none, none, none]) miX12_valueOf rfl (Nat.le_of_ble_eq_true rfl) rfl (fun γ hγ hnm X Y => ?_)
  subst hγ
  have X : gX o γ cX12_valueOf 8 RX12 := X
  refine g_iconst (pc := 0) X dX12_valueOf_0 kiconst_0 ?_
  refine g_istore_5 (pc := 1) X dX12_valueOf_1 (by decide) rfl ?_
  refine g_iload_1 (pc := 3) X dX12_valueOf_3 ?_
  refine g_istore_6 (pc := 4) X dX12_valueOf_4 (by decide) rfl ?_
  obtain ⟨n24, h⟩ := h
  have hL : ∀ (c1 : Int32) (c2 : Int32) (c3 : Int32) (K : gSt → Prop) (_ : ∀  (s7 : gSt), s7.2.2 = gRf b → K s7 → G o γ 0 0 116 s7 134 [some (.ref (ad o 65)), none, some (.int c1), some (.int c2), some (.int c3), none, none, none] []) (n : Nat) (v4 : Int32) (v5 : Int32) (s6 : gSt), s6.2.2 = gRf b → L_X12_valueOf_6 Q c1 c2 c3 K n v4 v5 s6 → G o γ 0 0 116 s6 6 [some (.ref (ad o 65)), none, some (.int c1), some (.int c2), some (.int c3), some (.int v4), some (.int v5), none] [] := by
    intro c1 c2 c3 K hK n
    induction n with
    | zero => intro v4 v5 s6 hR h; exact False.elim h
    | succ n ih =>
      intro v4 v5 s6 hR h
      rw [L_X12_valueOf_6] at h
      refine g_iload_6 (pc := 6) X dX12_valueOf_6 ?_
      refine g_iload_2 (pc := 8) X dX12_valueOf_8 ?_
      refine g_icmp_ge (pc := 9) X dX12_valueOf_9 (tgt := 134) (by decide) (fun q8 => ?_) (fun q8 => ?_)
      · replace h := h.1 q8
        exact g_drop (by simp [lsub]) (hK s6 hR h)
      · replace h := h.2 q8
        refine g_aload_0 (pc := 12) X dX12_valueOf_12 ?_
        refine g_getRf (pc := 13) X dX12_valueOf_13 fl_X12_53 rfl (by decide) rfl hR rfl ?_
        refine g_iload_6 (pc := 16) X dX12_valueOf_16 ?_
        refine g_iaload_w (pc := 18) X dX12_valueOf_18 rfl (by decide) h (fun x9 h => ?_)
        refine g_istore_7 (pc := 19) X dX12_valueOf_19 (by decide) rfl ?_
        refine g_iload_7 (pc := 21) X dX12_valueOf_21 ?_
        refine g_bipush (pc := 23) X dX12_valueOf_23 kbipush_6 ?_
        refine g_icmp_gt (pc := 25) X dX12_valueOf_25 (tgt := 65) (by decide) (fun q10 => ?_) (fun q10 => ?_)
        · replace h := h.1 q10
          refine g_iload_7 (pc := 65) X dX12_valueOf_65 ?_
          refine g_bipush (pc := 67) X dX12_valueOf_67 kbipush_18 ?_
          refine g_icmp_ne (pc := 69) X dX12_valueOf_69 (tgt := 95) (by decide) (fun q11 => ?_) (fun q11 => ?_)
          · replace h := h.2 q11
            refine g_iinc_5 (pc := 95) X dX12_valueOf_95 (v := v4 + (-1 : Int32)) rfl (by decide) rfl ?_
            refine g_aload_0 (pc := 98) X dX12_valueOf_98 ?_
            refine g_getRf (pc := 99) X dX12_valueOf_99 fl_X12_77 rfl (by decide) rfl hR rfl ?_
            refine g_iload_5 (pc := 102) X dX12_valueOf_102 ?_
            refine g_iconst (pc := 104) X dX12_valueOf_104 kiconst_1 ?_
            refine g_isub (pc := 105) X dX12_valueOf_105 ?_
            refine g_iload_7 (pc := 106) X dX12_valueOf_106 ?_
            refine g_aload_0 (pc := 108) X dX12_valueOf_108 ?_
            refine g_getRf (pc := 109) X dX12_valueOf_109 fl_X12_77 rfl (by decide) rfl hR rfl ?_
            refine g_iload_5 (pc := 112) X dX12_valueOf_112 ?_
            refine g_iconst (pc := 114) X dX12_valueOf_114 kiconst_1 ?_
            refine g_isub (pc := 115) X dX12_valueOf_115 ?_
            refine g_iaload_w (pc := 116) X dX12_valueOf_116 rfl (by decide) h (fun x12 h => ?_)
            refine g_aload_0 (pc := 117) X dX12_valueOf_117 ?_
            refine g_getRf (pc := 118) X dX12_valueOf_118 fl_X12_77 rfl (by decide) rfl hR rfl ?_
            refine g_iload_5 (pc := 121) X dX12_valueOf_121 ?_
            refine g_iaload_w (pc := 123) X dX12_valueOf_123 rfl (by decide) h (fun x13 h => ?_)
            refine g_callS_I (pc := 124) X Y dX12_valueOf_124 miX12_two li_X12_331 (t_X12_two hR  h) rfl ⟨Nat.le_of_ble_eq_true rfl, Nat.le_of_ble_eq_true rfl⟩ (Nat.le_of_ble_eq_true rfl) (Nat.le_of_ble_eq_true rfl) rfl (by exact Nat.le_of_ble_eq_true rfl) (fun x14 σ9 hp => ?_)
            obtain ⟨rfl, h⟩ := hp
            refine g_iastore_w (pc := 127) X dX12_valueOf_127 rfl (by decide) hR h (fun s15 hR h => ?_)
            refine g_iinc_6 (pc := 128) X dX12_valueOf_128 (v := v5 + nI 1) rfl (by decide) rfl ?_
            refine g_goto (pc := 131) X dX12_valueOf_131 (tgt := 6) (by decide) ?_
            exact g_drop (by simp [lsub]) (ih (v4 + (-1 : Int32)) (v5 + nI 1) s15 hR h)
          · replace h := h.1 q11
            refine g_aload_0 (pc := 72) X dX12_valueOf_72 ?_
            refine g_getRf (pc := 73) X dX12_valueOf_73 fl_X12_77 rfl (by decide) rfl hR rfl ?_
            refine g_iload_5 (pc := 76) X dX12_valueOf_76 ?_
            refine g_iconst (pc := 78) X dX12_valueOf_78 kiconst_1 ?_
            refine g_isub (pc := 79) X dX12_valueOf_79 ?_
            refine g_iconst (pc := 80) X dX12_valueOf_80 kiconst_1 ?_
            refine g_aload_0 (pc := 81) X dX12_valueOf_81 ?_
            refine g_getRf (pc := 82) X dX12_valueOf_82 fl_X12_77 rfl (by decide) rfl hR rfl ?_
            refine g_iload_5 (pc := 85) X dX12_valueOf_85 ?_
            refine g_iconst (pc := 87) X dX12_valueOf_87 kiconst_1 ?_
            refine g_isub (pc := 88) X dX12_valueOf_88 ?_
            refine g_iaload_w (pc := 89) X dX12_valueOf_89 rfl (by decide) h (fun x16 h => ?_)
            refine g_isub (pc := 90) X dX12_valueOf_90 ?_
            refine g_iastore_w (pc := 91) X dX12_valueOf_91 rfl (by decide) hR h (fun s17 hR h => ?_)
            refine g_goto (pc := 92) X dX12_valueOf_92 (tgt := 128) (by decide) ?_
            refine g_iinc_6 (pc := 128) X dX12_valueOf_128 (v := v5 + nI 1) rfl (by decide) rfl ?_
            refine g_goto (pc := 131) X dX12_valueOf_131 (tgt := 6) (by decide) ?_
            exact g_drop (by simp [lsub]) (ih v4 (v5 + nI 1) s17 hR h)
        · replace h := h.2 q10
          refine g_aload_0 (pc := 28) X dX12_valueOf_28 ?_
          refine g_getRf (pc := 29) X dX12_valueOf_29 fl_X12_77 rfl (by decide) rfl hR rfl ?_
          refine g_iload_5 (pc := 32) X dX12_valueOf_32 ?_
          refine g_iload_7 (pc := 34) X dX12_valueOf_34 ?_
          replace h := h (fun x18 => G o γ 0 0 116 s6 58 [some (.ref (ad o 65)), none, some (.int c1), some (.int c2), some (.int c3), some (.int v4), some (.int v5), none] [.int x18, .int v4, .ref (ad o 86)]) (by
              intro x18 h
              refine g_iastore_w (pc := 58) X dX12_valueOf_58 rfl (by decide) hR h (fun s20 hR h => ?_)
              refine g_iinc_5 (pc := 59) X dX12_valueOf_59 (v := v4 + nI 1) rfl (by decide) rfl ?_
              refine g_goto (pc := 62) X dX12_valueOf_62 (tgt := 128) (by decide) ?_
              refine g_iinc_6 (pc := 128) X dX12_valueOf_128 (v := v5 + nI 1) rfl (by decide) rfl ?_
              refine g_goto (pc := 131) X dX12_valueOf_131 (tgt := 6) (by decide) ?_
              exact ih (v4 + nI 1) (v5 + nI 1) s20 hR h)
          refine g_if_ne (pc := 36) X dX12_valueOf_36 (tgt := 49) (by decide) (fun q21 => ?_) (fun q21 => ?_)
          · replace h := h.2 q21
            refine g_aload_0 (pc := 49) X dX12_valueOf_49 ?_
            refine g_iload_7 (pc := 50) X dX12_valueOf_50 ?_
            refine g_iload_3 (pc := 52) X dX12_valueOf_52 ?_
            refine g_iload_4 (pc := 53) X dX12_valueOf_53 ?_
            refine g_callV_I (pc := 55) X Y dX12_valueOf_55 miX12_asked li_X12_327 (t_X12_asked hR  h) rfl (by decide) rfl ⟨_, rfl⟩ rfl ⟨Nat.le_of_ble_eq_true rfl, Nat.le_of_ble_eq_true rfl⟩ (Nat.le_of_ble_eq_true rfl) (Nat.le_of_ble_eq_true rfl) rfl (by exact Nat.le_of_ble_eq_true rfl) (fun x22 σ9 hp => ?_)
            obtain ⟨rfl, h⟩ := hp
            exact g_drop (by simp [lsub]) (h)
          · replace h := h.1 q21
            refine g_aload_0 (pc := 39) X dX12_valueOf_39 ?_
            refine g_getRf (pc := 40) X dX12_valueOf_40 fl_X12_56 rfl (by decide) rfl hR rfl ?_
            refine g_iload_6 (pc := 43) X dX12_valueOf_43 ?_
            refine g_iaload_w (pc := 45) X dX12_valueOf_45 rfl (by decide) h (fun x23 h => ?_)
            refine g_goto (pc := 46) X dX12_valueOf_46 (tgt := 58) (by decide) ?_
            exact g_drop (by simp [lsub]) (h)
  refine g_drop (by simp [lsub]) (hL p1 p2 p3 _ (fun s25 hR h => ?_) n24 (nI 0) p0 σ hR h)
  · refine g_aload_0 (pc := 134) X dX12_valueOf_134 ?_
    refine g_getRf (pc := 135) X dX12_valueOf_135 fl_X12_77 rfl (by decide) rfl hR rfl ?_
    refine g_iconst (pc := 138) X dX12_valueOf_138 kiconst_0 ?_
    refine g_iaload_w (pc := 139) X dX12_valueOf_139 rfl (by decide) h (fun x26 h => ?_)
    exact g_ireturn (pc := 140) X Y dX12_valueOf_140 (Nat.le_of_ble_eq_true rfl) (Nat.le_of_ble_eq_true rfl) ⟨_, rfl, hR, h⟩
def W_X12_applies (p0 : Int32) (p1 : Int32) (p2 : Int32) (Q : Int32 → gSt → Prop) (σ : gSt) : Prop := rI σ 76 16 p0 (fun x1 => rI σ 77 16 p0 (fun x2 => ((x1 = x2 → (Q (nI 1) σ)) ∧ (¬ x1 = x2 → (rI σ 76 16 p0 (fun x4 => rI σ 77 16 p0 (fun x5 => W_X12_valueOf x4 x5 p1 p2 (fun x6 s7 => ((x6 = (nI 1) → (Q (nI 1) s7)) ∧ (¬ x6 = (nI 1) → (Q (nI 0) s7)))) σ)))))))
set_option maxHeartbeats 4000000 in
theorem t_X12_applies {o : gOm} {l : Launch} {b : Bool}   {σ : gSt} (hR : σ.2.2 = gRf b) {p0 : Int32} {p1 : Int32} {p2 : Int32} {Q : Int32 → gSt → Prop} (h : W_X12_applies p0 p1 p2 Q σ) : Sp o l mX12_applies 4 0 0 [.ref (ad o 65), .int p0, .int p1, .int p2] 116 116 σ (pI (fun x s => s.2.2 = gRf b ∧ Q x s)) := by
  unfold W_X12_applies at h
  refine Sp.of (ls0 := [some (.ref (ad o 65)), some (.int p0), some (.int p1), some (.int p2)]) miX12_applies rfl (Nat.le_of_ble_eq_true rfl) rfl (fun γ hγ hnm X Y => ?_)
  subst hγ
  have X : gX o γ cX12_applies 4 RX12 := X
  refine g_aload_0 (pc := 0) X dX12_applies_0 ?_
  refine g_getRf (pc := 1) X dX12_applies_1 fl_X12_47 rfl (by decide) rfl hR rfl ?_
  refine g_iload_1 (pc := 4) X dX12_applies_4 ?_
  refine g_iaload_w (pc := 5) X dX12_applies_5 rfl (by decide) h (fun x1 h => ?_)
  refine g_aload_0 (pc := 6) X dX12_applies_6 ?_
  refine g_getRf (pc := 7) X dX12_applies_7 fl_X12_50 rfl (by decide) rfl hR rfl ?_
  refine g_iload_1 (pc := 10) X dX12_applies_10 ?_
  refine g_iaload_w (pc := 11) X dX12_applies_11 rfl (by decide) h (fun x2 h => ?_)
  refine g_icmp_eq (pc := 12) X dX12_applies_12 (tgt := 37) (by decide) (fun q3 => ?_) (fun q3 => ?_)
  · replace h := h.1 q3
    refine g_iconst (pc := 37) X dX12_applies_37 kiconst_1 ?_
    refine g_goto (pc := 38) X dX12_applies_38 (tgt := 42) (by decide) ?_
    exact g_zreturn (pc := 42) X Y dX12_applies_42 (by first | exact Or.inl rfl | exact Or.inr rfl) (Nat.le_of_ble_eq_true rfl) (Nat.le_of_ble_eq_true rfl) ⟨_, rfl, hR, h⟩
  · replace h := h.2 q3
    refine g_aload_0 (pc := 15) X dX12_applies_15 ?_
    refine g_aload_0 (pc := 16) X dX12_applies_16 ?_
    refine g_getRf (pc := 17) X dX12_applies_17 fl_X12_47 rfl (by decide) rfl hR rfl ?_
    refine g_iload_1 (pc := 20) X dX12_applies_20 ?_
    refine g_iaload_w (pc := 21) X dX12_applies_21 rfl (by decide) h (fun x4 h => ?_)
    refine g_aload_0 (pc := 22) X dX12_applies_22 ?_
    refine g_getRf (pc := 23) X dX12_applies_23 fl_X12_50 rfl (by decide) rfl hR rfl ?_
    refine g_iload_1 (pc := 26) X dX12_applies_26 ?_
    refine g_iaload_w (pc := 27) X dX12_applies_27 rfl (by decide) h (fun x5 h => ?_)
    refine g_iload_2 (pc := 28) X dX12_applies_28 ?_
    refine g_iload_3 (pc := 29) X dX12_applies_29 ?_
    refine g_callV_I (pc := 30) X Y dX12_applies_30 miX12_valueOf li_X12_334 (t_X12_valueOf hR  h) rfl (by decide) rfl ⟨_, rfl⟩ rfl ⟨Nat.le_of_ble_eq_true rfl, Nat.le_of_ble_eq_true rfl⟩ (Nat.le_of_ble_eq_true rfl) (Nat.le_of_ble_eq_true rfl) rfl (by exact Nat.le_of_ble_eq_true rfl) (fun x6 s7 hp => ?_)
    obtain ⟨hR, h⟩ := hp
    refine g_iconst (pc := 33) X dX12_applies_33 kiconst_1 ?_
    refine g_icmp_ne (pc := 34) X dX12_applies_34 (tgt := 41) (by decide) (fun q8 => ?_) (fun q8 => ?_)
    · replace h := h.2 q8
      refine g_iconst (pc := 41) X dX12_applies_41 kiconst_0 ?_
      exact g_zreturn (pc := 42) X Y dX12_applies_42 (by first | exact Or.inl rfl | exact Or.inr rfl) (Nat.le_of_ble_eq_true rfl) (Nat.le_of_ble_eq_true rfl) ⟨_, rfl, hR, h⟩
    · replace h := h.1 q8
      refine g_iconst (pc := 37) X dX12_applies_37 kiconst_1 ?_
      refine g_goto (pc := 38) X dX12_applies_38 (tgt := 42) (by decide) ?_
      exact g_zreturn (pc := 42) X Y dX12_applies_42 (by first | exact Or.inl rfl | exact Or.inr rfl) (Nat.le_of_ble_eq_true rfl) (Nat.le_of_ble_eq_true rfl) ⟨_, rfl, hR, h⟩
def L_X12_isPassed_5 (Q : Int32 → gSt → Prop) (c1 : Int32) (c2 : Int32) (K : Int32 → gSt → Prop) : Nat → Int32 → Int32 → gSt → Prop
  | 0, _, _, _ => False
  | n5 + 1, v3, v4, s5 => (((s5.1 65 16) ≤ v4 → (K v3 s5)) ∧ (¬ (s5.1 65 16) ≤ v4 → (rI s5 74 16 v4 (fun x9 => ((x9 = (nI 3) → (W_X12_applies v4 c1 c2 (fun x11 s12 => ((x11 = 0 → (L_X12_isPassed_5 Q c1 c2 K n5 (nI 1) (v4 + nI 1) s12)) ∧ (¬ x11 = 0 → (Q (nI 0) s12)))) s5)) ∧ (¬ x9 = (nI 3) → (L_X12_isPassed_5 Q c1 c2 K n5 v3 (v4 + nI 1) s5)))))))
def W_X12_isPassed (p0 : Int32) (p1 : Int32) (Q : Int32 → gSt → Prop) (σ : gSt) : Prop := ∃ m5, L_X12_isPassed_5 Q p0 p1 (fun y15 s16 => ((y15 = 0 ∨ y15 = 1) ∧ Q y15 s16)) m5 (nI 0) (nI 0) σ
set_option maxHeartbeats 4000000 in
theorem t_X12_isPassed {o : gOm} {l : Launch} {b : Bool}   {σ : gSt} (hR : σ.2.2 = gRf b) {p0 : Int32} {p1 : Int32} {Q : Int32 → gSt → Prop} (h : W_X12_isPassed p0 p1 Q σ) : Sp o l mX12_isPassed 5 0 0 [.ref (ad o 65), .int p0, .int p1] 116 116 σ (pI (fun x s => s.2.2 = gRf b ∧ Q x s)) := by
  unfold W_X12_isPassed at h
  refine Sp.of (ls0 := [some (.ref (ad o 65)), some (.int p0), some (.int p1), none, none]) miX12_isPassed rfl (Nat.le_of_ble_eq_true rfl) rfl (fun γ hγ hnm X Y => ?_)
  subst hγ
  have X : gX o γ cX12_isPassed 5 RX12 := X
  refine g_iconst (pc := 0) X dX12_isPassed_0 kiconst_0 ?_
  refine g_istore_3 (pc := 1) X dX12_isPassed_1 (by decide) rfl ?_
  refine g_iconst (pc := 2) X dX12_isPassed_2 kiconst_0 ?_
  refine g_istore_4 (pc := 3) X dX12_isPassed_3 (by decide) rfl ?_
  obtain ⟨n14, h⟩ := h
  have hL : ∀ (c1 : Int32) (c2 : Int32) (K : Int32 → gSt → Prop) (_ : ∀ (y6 : Int32) (s7 : gSt), s7.2.2 = gRf b → K y6 s7 → G o γ 0 0 116 s7 49 [some (.ref (ad o 65)), some (.int c1), some (.int c2), some (.int y6), none] []) (n : Nat) (v3 : Int32) (v4 : Int32) (s5 : gSt), s5.2.2 = gRf b → L_X12_isPassed_5 Q c1 c2 K n v3 v4 s5 → G o γ 0 0 116 s5 5 [some (.ref (ad o 65)), some (.int c1), some (.int c2), some (.int v3), some (.int v4)] [] := by
    intro c1 c2 K hK n
    induction n with
    | zero => intro v3 v4 s5 hR h; exact False.elim h
    | succ n ih =>
      intro v3 v4 s5 hR h
      rw [L_X12_isPassed_5] at h
      refine g_iload_4 (pc := 5) X dX12_isPassed_5 ?_
      refine g_aload_0 (pc := 7) X dX12_isPassed_7 ?_
      refine g_getI (pc := 8) X dX12_isPassed_8 rfl (by decide) fl_X12_320 (Or.inl rfl) ?_
      refine g_icmp_ge (pc := 11) X dX12_isPassed_11 (tgt := 49) (by decide) (fun q8 => ?_) (fun q8 => ?_)
      · replace h := h.1 q8
        exact g_drop (by simp [lsub]) (hK v3 s5 hR h)
      · replace h := h.2 q8
        refine g_aload_0 (pc := 14) X dX12_isPassed_14 ?_
        refine g_getRf (pc := 15) X dX12_isPassed_15 fl_X12_41 rfl (by decide) rfl hR rfl ?_
        refine g_iload_4 (pc := 18) X dX12_isPassed_18 ?_
        refine g_iaload_w (pc := 20) X dX12_isPassed_20 rfl (by decide) h (fun x9 h => ?_)
        refine g_iconst (pc := 21) X dX12_isPassed_21 kiconst_3 ?_
        refine g_icmp_eq (pc := 22) X dX12_isPassed_22 (tgt := 28) (by decide) (fun q10 => ?_) (fun q10 => ?_)
        · replace h := h.1 q10
          refine g_aload_0 (pc := 28) X dX12_isPassed_28 ?_
          refine g_iload_4 (pc := 29) X dX12_isPassed_29 ?_
          refine g_iload_1 (pc := 31) X dX12_isPassed_31 ?_
          refine g_iload_2 (pc := 32) X dX12_isPassed_32 ?_
          refine g_callV_I (pc := 33) X Y dX12_isPassed_33 miX12_applies li_X12_341 (t_X12_applies hR  h) rfl (by decide) rfl ⟨_, rfl⟩ rfl ⟨Nat.le_of_ble_eq_true rfl, Nat.le_of_ble_eq_true rfl⟩ (Nat.le_of_ble_eq_true rfl) (Nat.le_of_ble_eq_true rfl) rfl (by exact Nat.le_of_ble_eq_true rfl) (fun x11 s12 hp => ?_)
          obtain ⟨hR, h⟩ := hp
          refine g_if_eq (pc := 36) X dX12_isPassed_36 (tgt := 41) (by decide) (fun q13 => ?_) (fun q13 => ?_)
          · replace h := h.1 q13
            refine g_iconst (pc := 41) X dX12_isPassed_41 kiconst_1 ?_
            refine g_istore_3 (pc := 42) X dX12_isPassed_42 (by decide) rfl ?_
            refine g_iinc_4 (pc := 43) X dX12_isPassed_43 (v := v4 + nI 1) rfl (by decide) rfl ?_
            refine g_goto (pc := 46) X dX12_isPassed_46 (tgt := 5) (by decide) ?_
            exact ih (nI 1) (v4 + nI 1) s12 hR h
          · replace h := h.2 q13
            refine g_iconst (pc := 39) X dX12_isPassed_39 kiconst_0 ?_
            exact g_zreturn (pc := 40) X Y dX12_isPassed_40 (by first | exact Or.inl rfl | exact Or.inr rfl) (Nat.le_of_ble_eq_true rfl) (Nat.le_of_ble_eq_true rfl) ⟨_, rfl, hR, h⟩
        · replace h := h.2 q10
          refine g_goto (pc := 25) X dX12_isPassed_25 (tgt := 43) (by decide) ?_
          refine g_iinc_4 (pc := 43) X dX12_isPassed_43 (v := v4 + nI 1) rfl (by decide) rfl ?_
          refine g_goto (pc := 46) X dX12_isPassed_46 (tgt := 5) (by decide) ?_
          exact ih v3 (v4 + nI 1) s5 hR h
  refine hL p0 p1 _ (fun y15 s16 hR h => ?_) n14 (nI 0) (nI 0) σ hR h
  · refine g_iload_3 (pc := 49) X dX12_isPassed_49 ?_
    exact g_zreturn (pc := 50) X Y dX12_isPassed_50 h.1 (Nat.le_of_ble_eq_true rfl) (Nat.le_of_ble_eq_true rfl) ⟨_, rfl, hR, h.2⟩
def L_X12_weightOf_39 (Q : Int32 → gSt → Prop) (c6 : Int32) (c7 : Int32) (K : Int32 → Int32 → gSt → Prop) : Nat → Int32 → Int32 → Int32 → gSt → Prop
  | 0, _, _, _, _ => False
  | n39 + 1, v8, v9, v10, s11 => (((s11.1 65 16) ≤ v10 → (K v8 v9 s11)) ∧ (¬ (s11.1 65 16) ≤ v10 → (W_X12_applies v10 c6 c7 (fun x16 s17 => ((x16 = 0 → (L_X12_weightOf_39 Q c6 c7 K n39 v8 v9 (v10 + nI 1) s17)) ∧ (¬ x16 = 0 → (∀ J20 : Int32 → Prop, (∀ x19, (rI s17 74 16 v10 (fun x21 => ∀ J24 : Int32 → gSt → Prop, (∀ x22 s23, (rI s23 74 16 v10 (fun x25 => ((x25 = (nI 1) → (rI s23 75 16 v10 (fun x27 => rI s23 76 16 v10 (fun x28 => W_X12_valueOf x27 x28 c6 c7 (fun x29 s30 => L_X12_weightOf_39 Q c6 c7 K n39 (x22 - x29) x19 (v10 + nI 1) s30) s23)))) ∧ (¬ x25 = (nI 1) → (L_X12_weightOf_39 Q c6 c7 K n39 x22 x19 (v10 + nI 1) s23))))) → J24 x22 s23) → ((x21 = 0 → (rI s17 75 16 v10 (fun x32 => rI s17 76 16 v10 (fun x33 => W_X12_valueOf x32 x33 c6 c7 (fun x34 s35 => J24 (v8 + x34) s35) s17)))) ∧ (¬ x21 = 0 → (J24 v8 s17))))) → J20 x19) → ∀ J36 : Prop, ((J20 (nI 1)) → J36) → ((v9 = 0 → (rI s17 74 16 v10 (fun x38 => ((x38 = (nI 2) → J36) ∧ (¬ x38 = (nI 2) → (J20 (nI 0))))))) ∧ (¬ v9 = 0 → J36)))))) s11)))
def W_X12_weightOf (p0 : Int32) (p1 : Int32) (Q : Int32 → gSt → Prop) (σ : gSt) : Prop := W_X12_toldAt p0 p1 (fun x1 => ((x1 = ((-1 : Int32)) → (W_X12_isPassed p0 p1 (fun x3 s4 => ((x3 = 0 → (∃ m39, L_X12_weightOf_39 Q p0 p1 (fun y41 y42 s43 => ((y42 = 0 → (((((-10000 : Int32)) ≤ y41 → (((y41 ≤ (nI 10000) → (Q y41 s43)) ∧ (¬ y41 ≤ (nI 10000) → (Q (nI 10000) s43))))) ∧ (¬ ((-10000 : Int32)) ≤ y41 → (Q ((-10000 : Int32)) s43))))) ∧ (¬ y42 = 0 → (Q ((-2147483648 : Int32)) s43)))) m39 (nI 0) (nI 0) (nI 0) s4)) ∧ (¬ x3 = 0 → (Q (nI 0) s4)))) σ)) ∧ (¬ x1 = ((-1 : Int32)) → (rI σ 89 60 x1 (fun x47 => Q x47 σ))))) σ
set_option maxHeartbeats 4000000 in
theorem t_X12_weightOf {o : gOm} {l : Launch} {b : Bool}   {σ : gSt} (hR : σ.2.2 = gRf b) {p0 : Int32} {p1 : Int32} {Q : Int32 → gSt → Prop} (h : W_X12_weightOf p0 p1 Q σ) : Sp o l mX12_weightOf 6 0 0 [.ref (ad o 65), .int p0, .int p1] 116 116 σ (pI (fun x s => s.2.2 = gRf b ∧ Q x s)) := by
  unfold W_X12_weightOf at h
  refine Sp.of (ls0 := [some (.ref (ad o 65)), some (.int p0), some (.int p1), none, none, none, none]) miX12_weightOf rfl (Nat.le_of_ble_eq_true rfl) rfl (fun γ hγ hnm X Y => ?_)
  subst hγ
  have X : gX o γ cX12_weightOf 7 RX12 := X
  refine g_aload_0 (pc := 0) X dX12_weightOf_0 ?_
  refine g_iload_1 (pc := 1) X dX12_weightOf_1 ?_
  refine g_iload_2 (pc := 2) X dX12_weightOf_2 ?_
  refine g_callV_I (pc := 3) X Y dX12_weightOf_3 miX12_toldAt li_X12_344 (t_X12_toldAt hR  h) rfl (by decide) rfl ⟨_, rfl⟩ rfl ⟨Nat.le_of_ble_eq_true rfl, Nat.le_of_ble_eq_true rfl⟩ (Nat.le_of_ble_eq_true rfl) (Nat.le_of_ble_eq_true rfl) rfl (by exact Nat.le_of_ble_eq_true rfl) (fun x1 σ9 hp => ?_)
  obtain ⟨rfl, h⟩ := hp
  refine g_istore_3 (pc := 6) X dX12_weightOf_6 (by decide) rfl ?_
  refine g_iload_3 (pc := 7) X dX12_weightOf_7 ?_
  refine g_iconst (pc := 8) X dX12_weightOf_8 kiconst_m1 ?_
  refine g_icmp_eq (pc := 9) X dX12_weightOf_9 (tgt := 19) (by decide) (fun q2 => ?_) (fun q2 => ?_)
  · replace h := h.1 q2
    refine g_aload_0 (pc := 19) X dX12_weightOf_19 ?_
    refine g_iload_1 (pc := 20) X dX12_weightOf_20 ?_
    refine g_iload_2 (pc := 21) X dX12_weightOf_21 ?_
    refine g_callV_I (pc := 22) X Y dX12_weightOf_22 miX12_isPassed li_X12_348 (t_X12_isPassed hR  h) rfl (by decide) rfl ⟨_, rfl⟩ rfl ⟨Nat.le_of_ble_eq_true rfl, Nat.le_of_ble_eq_true rfl⟩ (Nat.le_of_ble_eq_true rfl) (Nat.le_of_ble_eq_true rfl) rfl (by exact Nat.le_of_ble_eq_true rfl) (fun x3 s4 hp => ?_)
    obtain ⟨hR, h⟩ := hp
    refine g_if_eq (pc := 25) X dX12_weightOf_25 (tgt := 30) (by decide) (fun q5 => ?_) (fun q5 => ?_)
    · replace h := h.1 q5
      refine g_iconst (pc := 30) X dX12_weightOf_30 kiconst_0 ?_
      refine g_istore_4 (pc := 31) X dX12_weightOf_31 (by decide) rfl ?_
      refine g_iconst (pc := 33) X dX12_weightOf_33 kiconst_0 ?_
      refine g_istore_5 (pc := 34) X dX12_weightOf_34 (by decide) rfl ?_
      refine g_iconst (pc := 36) X dX12_weightOf_36 kiconst_0 ?_
      refine g_istore_6 (pc := 37) X dX12_weightOf_37 (by decide) rfl ?_
      obtain ⟨n40, h⟩ := h
      have hL : ∀ (c6 : Int32) (c7 : Int32) (K : Int32 → Int32 → gSt → Prop) (_ : ∀ (y12 : Int32) (y13 : Int32) (s14 : gSt), s14.2.2 = gRf b → K y12 y13 s14 → G o γ 0 0 116 s14 162 [some (.ref (ad o 65)), some (.int c6), some (.int c7), none, some (.int y12), some (.int y13), none] []) (n : Nat) (v8 : Int32) (v9 : Int32) (v10 : Int32) (s11 : gSt), s11.2.2 = gRf b → L_X12_weightOf_39 Q c6 c7 K n v8 v9 v10 s11 → G o γ 0 0 116 s11 39 [some (.ref (ad o 65)), some (.int c6), some (.int c7), none, some (.int v8), some (.int v9), some (.int v10)] [] := by
        intro c6 c7 K hK n
        induction n with
        | zero => intro v8 v9 v10 s11 hR h; exact False.elim h
        | succ n ih =>
          intro v8 v9 v10 s11 hR h
          rw [L_X12_weightOf_39] at h
          refine g_iload_6 (pc := 39) X dX12_weightOf_39 ?_
          refine g_aload_0 (pc := 41) X dX12_weightOf_41 ?_
          refine g_getI (pc := 42) X dX12_weightOf_42 rfl (by decide) fl_X12_320 (Or.inl rfl) ?_
          refine g_icmp_ge (pc := 45) X dX12_weightOf_45 (tgt := 162) (by decide) (fun q15 => ?_) (fun q15 => ?_)
          · replace h := h.1 q15
            exact g_drop (by simp [lsub]) (hK v8 v9 s11 hR h)
          · replace h := h.2 q15
            refine g_aload_0 (pc := 48) X dX12_weightOf_48 ?_
            refine g_iload_6 (pc := 49) X dX12_weightOf_49 ?_
            refine g_iload_1 (pc := 51) X dX12_weightOf_51 ?_
            refine g_iload_2 (pc := 52) X dX12_weightOf_52 ?_
            refine g_callV_I (pc := 53) X Y dX12_weightOf_53 miX12_applies li_X12_341 (t_X12_applies hR  h) rfl (by decide) rfl ⟨_, rfl⟩ rfl ⟨Nat.le_of_ble_eq_true rfl, Nat.le_of_ble_eq_true rfl⟩ (Nat.le_of_ble_eq_true rfl) (Nat.le_of_ble_eq_true rfl) rfl (by exact Nat.le_of_ble_eq_true rfl) (fun x16 s17 hp => ?_)
            obtain ⟨hR, h⟩ := hp
            refine g_if_ne (pc := 56) X dX12_weightOf_56 (tgt := 62) (by decide) (fun q18 => ?_) (fun q18 => ?_)
            · replace h := h.2 q18
              refine g_iload_5 (pc := 62) X dX12_weightOf_62 ?_
              replace h := h (fun x19 => G o γ 0 0 116 s17 83 [some (.ref (ad o 65)), some (.int c6), some (.int c7), none, some (.int v8), none, some (.int v10)] [.int x19]) (by
                  intro x19 h
                  refine g_istore_5 (pc := 83) X dX12_weightOf_83 (by decide) rfl ?_
                  refine g_aload_0 (pc := 85) X dX12_weightOf_85 ?_
                  refine g_getRf (pc := 86) X dX12_weightOf_86 fl_X12_41 rfl (by decide) rfl hR rfl ?_
                  refine g_iload_6 (pc := 89) X dX12_weightOf_89 ?_
                  refine g_iaload_w (pc := 91) X dX12_weightOf_91 rfl (by decide) h (fun x21 h => ?_)
                  replace h := h (fun x22 s23 => s23.2.2 = gRf b → G o γ 0 0 116 s23 120 [some (.ref (ad o 65)), some (.int c6), some (.int c7), none, some (.int x22), some (.int x19), some (.int v10)] []) (by
                      intro x22 s23 h hR
                      refine g_aload_0 (pc := 120) X dX12_weightOf_120 ?_
                      refine g_getRf (pc := 121) X dX12_weightOf_121 fl_X12_41 rfl (by decide) rfl hR rfl ?_
                      refine g_iload_6 (pc := 124) X dX12_weightOf_124 ?_
                      refine g_iaload_w (pc := 126) X dX12_weightOf_126 rfl (by decide) h (fun x25 h => ?_)
                      refine g_iconst (pc := 127) X dX12_weightOf_127 kiconst_1 ?_
                      refine g_icmp_ne (pc := 128) X dX12_weightOf_128 (tgt := 156) (by decide) (fun q26 => ?_) (fun q26 => ?_)
                      · replace h := h.2 q26
                        refine g_iinc_6 (pc := 156) X dX12_weightOf_156 (v := v10 + nI 1) rfl (by decide) rfl ?_
                        refine g_goto (pc := 159) X dX12_weightOf_159 (tgt := 39) (by decide) ?_
                        exact ih x22 x19 (v10 + nI 1) s23 hR h
                      · replace h := h.1 q26
                        refine g_iload_4 (pc := 131) X dX12_weightOf_131 ?_
                        refine g_aload_0 (pc := 133) X dX12_weightOf_133 ?_
                        refine g_aload_0 (pc := 134) X dX12_weightOf_134 ?_
                        refine g_getRf (pc := 135) X dX12_weightOf_135 fl_X12_44 rfl (by decide) rfl hR rfl ?_
                        refine g_iload_6 (pc := 138) X dX12_weightOf_138 ?_
                        refine g_iaload_w (pc := 140) X dX12_weightOf_140 rfl (by decide) h (fun x27 h => ?_)
                        refine g_aload_0 (pc := 141) X dX12_weightOf_141 ?_
                        refine g_getRf (pc := 142) X dX12_weightOf_142 fl_X12_47 rfl (by decide) rfl hR rfl ?_
                        refine g_iload_6 (pc := 145) X dX12_weightOf_145 ?_
                        refine g_iaload_w (pc := 147) X dX12_weightOf_147 rfl (by decide) h (fun x28 h => ?_)
                        refine g_iload_1 (pc := 148) X dX12_weightOf_148 ?_
                        refine g_iload_2 (pc := 149) X dX12_weightOf_149 ?_
                        refine g_callV_I (pc := 150) X Y dX12_weightOf_150 miX12_valueOf li_X12_334 (t_X12_valueOf hR  h) rfl (by decide) rfl ⟨_, rfl⟩ rfl ⟨Nat.le_of_ble_eq_true rfl, Nat.le_of_ble_eq_true rfl⟩ (Nat.le_of_ble_eq_true rfl) (Nat.le_of_ble_eq_true rfl) rfl (by exact Nat.le_of_ble_eq_true rfl) (fun x29 s30 hp => ?_)
                        obtain ⟨hR, h⟩ := hp
                        refine g_isub (pc := 153) X dX12_weightOf_153 ?_
                        refine g_istore_4 (pc := 154) X dX12_weightOf_154 (by decide) rfl ?_
                        refine g_iinc_6 (pc := 156) X dX12_weightOf_156 (v := v10 + nI 1) rfl (by decide) rfl ?_
                        refine g_goto (pc := 159) X dX12_weightOf_159 (tgt := 39) (by decide) ?_
                        exact ih (x22 - x29) x19 (v10 + nI 1) s30 hR h)
                  refine g_if_ne (pc := 92) X dX12_weightOf_92 (tgt := 120) (by decide) (fun q31 => ?_) (fun q31 => ?_)
                  · replace h := h.2 q31
                    exact h hR
                  · replace h := h.1 q31
                    refine g_iload_4 (pc := 95) X dX12_weightOf_95 ?_
                    refine g_aload_0 (pc := 97) X dX12_weightOf_97 ?_
                    refine g_aload_0 (pc := 98) X dX12_weightOf_98 ?_
                    refine g_getRf (pc := 99) X dX12_weightOf_99 fl_X12_44 rfl (by decide) rfl hR rfl ?_
                    refine g_iload_6 (pc := 102) X dX12_weightOf_102 ?_
                    refine g_iaload_w (pc := 104) X dX12_weightOf_104 rfl (by decide) h (fun x32 h => ?_)
                    refine g_aload_0 (pc := 105) X dX12_weightOf_105 ?_
                    refine g_getRf (pc := 106) X dX12_weightOf_106 fl_X12_47 rfl (by decide) rfl hR rfl ?_
                    refine g_iload_6 (pc := 109) X dX12_weightOf_109 ?_
                    refine g_iaload_w (pc := 111) X dX12_weightOf_111 rfl (by decide) h (fun x33 h => ?_)
                    refine g_iload_1 (pc := 112) X dX12_weightOf_112 ?_
                    refine g_iload_2 (pc := 113) X dX12_weightOf_113 ?_
                    refine g_callV_I (pc := 114) X Y dX12_weightOf_114 miX12_valueOf li_X12_334 (t_X12_valueOf hR  h) rfl (by decide) rfl ⟨_, rfl⟩ rfl ⟨Nat.le_of_ble_eq_true rfl, Nat.le_of_ble_eq_true rfl⟩ (Nat.le_of_ble_eq_true rfl) (Nat.le_of_ble_eq_true rfl) rfl (by exact Nat.le_of_ble_eq_true rfl) (fun x34 s35 hp => ?_)
                    obtain ⟨hR, h⟩ := hp
                    refine g_iadd (pc := 117) X dX12_weightOf_117 ?_
                    refine g_istore_4 (pc := 118) X dX12_weightOf_118 (by decide) rfl ?_
                    exact h hR)
              replace h := h (G o γ 0 0 116 s17 78 [some (.ref (ad o 65)), some (.int c6), some (.int c7), none, some (.int v8), none, some (.int v10)] []) (by
                  intro  h
                  refine g_iconst (pc := 78) X dX12_weightOf_78 kiconst_1 ?_
                  refine g_goto (pc := 79) X dX12_weightOf_79 (tgt := 83) (by decide) ?_
                  exact h)
              refine g_if_ne (pc := 64) X dX12_weightOf_64 (tgt := 78) (by decide) (fun q37 => ?_) (fun q37 => ?_)
              · replace h := h.2 q37
                exact g_drop (by simp [lsub]) (h)
              · replace h := h.1 q37
                refine g_aload_0 (pc := 67) X dX12_weightOf_67 ?_
                refine g_getRf (pc := 68) X dX12_weightOf_68 fl_X12_41 rfl (by decide) rfl hR rfl ?_
                refine g_iload_6 (pc := 71) X dX12_weightOf_71 ?_
                refine g_iaload_w (pc := 73) X dX12_weightOf_73 rfl (by decide) h (fun x38 h => ?_)
                refine g_iconst (pc := 74) X dX12_weightOf_74 kiconst_2 ?_
                refine g_icmp_ne (pc := 75) X dX12_weightOf_75 (tgt := 82) (by decide) (fun q39 => ?_) (fun q39 => ?_)
                · replace h := h.2 q39
                  refine g_iconst (pc := 82) X dX12_weightOf_82 kiconst_0 ?_
                  exact g_drop (by simp [lsub]) (h)
                · replace h := h.1 q39
                  exact g_drop (by simp [lsub]) (h)
            · replace h := h.1 q18
              refine g_goto (pc := 59) X dX12_weightOf_59 (tgt := 156) (by decide) ?_
              refine g_iinc_6 (pc := 156) X dX12_weightOf_156 (v := v10 + nI 1) rfl (by decide) rfl ?_
              refine g_goto (pc := 159) X dX12_weightOf_159 (tgt := 39) (by decide) ?_
              exact ih v8 v9 (v10 + nI 1) s17 hR h
      refine g_drop (by simp [lsub]) (hL p0 p1 _ (fun y41 y42 s43 hR h => ?_) n40 (nI 0) (nI 0) (nI 0) s4 hR h)
      · refine g_iload_5 (pc := 162) X dX12_weightOf_162 ?_
        refine g_if_eq (pc := 164) X dX12_weightOf_164 (tgt := 173) (by decide) (fun q44 => ?_) (fun q44 => ?_)
        · replace h := h.1 q44
          refine g_iload_4 (pc := 173) X dX12_weightOf_173 ?_
          refine g_sipush (pc := 175) X dX12_weightOf_175 ksipush_m10000 ?_
          refine g_icmp_ge (pc := 178) X dX12_weightOf_178 (tgt := 187) (by decide) (fun q45 => ?_) (fun q45 => ?_)
          · replace h := h.1 q45
            refine g_iload_4 (pc := 187) X dX12_weightOf_187 ?_
            refine g_sipush (pc := 189) X dX12_weightOf_189 ksipush_10000 ?_
            refine g_icmp_le (pc := 192) X dX12_weightOf_192 (tgt := 201) (by decide) (fun q46 => ?_) (fun q46 => ?_)
            · replace h := h.1 q46
              refine g_iload_4 (pc := 201) X dX12_weightOf_201 ?_
              exact g_ireturn (pc := 203) X Y dX12_weightOf_203 (Nat.le_of_ble_eq_true rfl) (Nat.le_of_ble_eq_true rfl) ⟨_, rfl, hR, h⟩
            · replace h := h.2 q46
              refine g_sipush (pc := 195) X dX12_weightOf_195 ksipush_10000 ?_
              refine g_goto (pc := 198) X dX12_weightOf_198 (tgt := 203) (by decide) ?_
              exact g_ireturn (pc := 203) X Y dX12_weightOf_203 (Nat.le_of_ble_eq_true rfl) (Nat.le_of_ble_eq_true rfl) ⟨_, rfl, hR, h⟩
          · replace h := h.2 q45
            refine g_sipush (pc := 181) X dX12_weightOf_181 ksipush_m10000 ?_
            refine g_goto (pc := 184) X dX12_weightOf_184 (tgt := 203) (by decide) ?_
            exact g_ireturn (pc := 203) X Y dX12_weightOf_203 (Nat.le_of_ble_eq_true rfl) (Nat.le_of_ble_eq_true rfl) ⟨_, rfl, hR, h⟩
        · replace h := h.2 q44
          refine g_ldcw (pc := 167) X dX12_weightOf_167 ct_X12_352 ?_
          refine g_goto (pc := 170) X dX12_weightOf_170 (tgt := 203) (by decide) ?_
          exact g_ireturn (pc := 203) X Y dX12_weightOf_203 (Nat.le_of_ble_eq_true rfl) (Nat.le_of_ble_eq_true rfl) ⟨_, rfl, hR, h⟩
    · replace h := h.2 q5
      refine g_iconst (pc := 28) X dX12_weightOf_28 kiconst_0 ?_
      exact g_ireturn (pc := 29) X Y dX12_weightOf_29 (Nat.le_of_ble_eq_true rfl) (Nat.le_of_ble_eq_true rfl) ⟨_, rfl, hR, h⟩
  · replace h := h.2 q2
    refine g_aload_0 (pc := 12) X dX12_weightOf_12 ?_
    refine g_getRf (pc := 13) X dX12_weightOf_13 fl_X12_86 rfl (by decide) rfl hR rfl ?_
    refine g_iload_3 (pc := 16) X dX12_weightOf_16 ?_
    refine g_iaload_w (pc := 17) X dX12_weightOf_17 rfl (by decide) h (fun x47 h => ?_)
    exact g_ireturn (pc := 18) X Y dX12_weightOf_18 (Nat.le_of_ble_eq_true rfl) (Nat.le_of_ble_eq_true rfl) ⟨_, rfl, hR, h⟩
def L_X12_fixAt_2 (Q : Int32 → Prop) (c1 : Int32) (c2 : Int32) (σ : gSt) (K : Prop) : Nat → Int32 → Prop
  | 0, _ => False
  | n2 + 1, v3 => (((σ.1 65 44) ≤ v3 → K) ∧ (¬ (σ.1 65 44) ≤ v3 → (rI σ 94 20 v3 (fun x5 => ∀ J6 : Prop, ((rI σ 94 20 v3 (fun x7 => ((x7 = c2 → (rI σ 95 20 v3 (fun x9 => ((x9 = c1 → (Q v3)) ∧ (¬ x9 = c1 → (L_X12_fixAt_2 Q c1 c2 σ K n2 (v3 + nI 1))))))) ∧ (¬ x7 = c2 → (L_X12_fixAt_2 Q c1 c2 σ K n2 (v3 + nI 1)))))) → J6) → ((x5 = c1 → (rI σ 95 20 v3 (fun x12 => ((x12 = c2 → (Q v3)) ∧ (¬ x12 = c2 → J6))))) ∧ (¬ x5 = c1 → J6))))))
def W_X12_fixAt (p0 : Int32) (p1 : Int32) (Q : Int32 → Prop) (σ : gSt) : Prop := ∃ m2, L_X12_fixAt_2 Q p0 p1 σ (Q ((-1 : Int32))) m2 (nI 0)
set_option maxHeartbeats 4000000 in
theorem t_X12_fixAt {o : gOm} {l : Launch} {b : Bool}   {σ : gSt} (hR : σ.2.2 = gRf b) {p0 : Int32} {p1 : Int32} {Q : Int32 → Prop} (h : W_X12_fixAt p0 p1 Q σ) : Sp o l mX12_fixAt 1 0 0 [.ref (ad o 65), .int p0, .int p1] 116 116 σ (pI (fun x s => σ = s ∧ Q x)) := by
  unfold W_X12_fixAt at h
  refine Sp.of (ls0 := [some (.ref (ad o 65)), some (.int p0), some (.int p1), none]) miX12_fixAt rfl (Nat.le_of_ble_eq_true rfl) rfl (fun γ hγ hnm X Y => ?_)
  subst hγ
  have X : gX o γ cX12_fixAt 4 RX12 := X
  refine g_iconst (pc := 0) X dX12_fixAt_0 kiconst_0 ?_
  refine g_istore_3 (pc := 1) X dX12_fixAt_1 (by decide) rfl ?_
  obtain ⟨n14, h⟩ := h
  have hL : ∀ (c1 : Int32) (c2 : Int32) (K : Prop) (_ : K → G o γ 0 0 116 σ 58 [some (.ref (ad o 65)), some (.int c1), some (.int c2), none] []) (n : Nat) (v3 : Int32), L_X12_fixAt_2 Q c1 c2 σ K n v3 → G o γ 0 0 116 σ 2 [some (.ref (ad o 65)), some (.int c1), some (.int c2), some (.int v3)] [] := by
    intro c1 c2 K hK n
    induction n with
    | zero => intro v3 h; exact False.elim h
    | succ n ih =>
      intro v3 h
      rw [L_X12_fixAt_2] at h
      refine g_iload_3 (pc := 2) X dX12_fixAt_2 ?_
      refine g_aload_0 (pc := 3) X dX12_fixAt_3 ?_
      refine g_getI (pc := 4) X dX12_fixAt_4 rfl (by decide) fl_X12_368 (Or.inl rfl) ?_
      refine g_icmp_ge (pc := 7) X dX12_fixAt_7 (tgt := 58) (by decide) (fun q4 => ?_) (fun q4 => ?_)
      · replace h := h.1 q4
        exact g_drop (by simp [lsub]) (hK  h)
      · replace h := h.2 q4
        refine g_aload_0 (pc := 10) X dX12_fixAt_10 ?_
        refine g_getRf (pc := 11) X dX12_fixAt_11 fl_X12_105 rfl (by decide) rfl hR rfl ?_
        refine g_iload_3 (pc := 14) X dX12_fixAt_14 ?_
        refine g_iaload_w (pc := 15) X dX12_fixAt_15 rfl (by decide) h (fun x5 h => ?_)
        refine g_iload_1 (pc := 16) X dX12_fixAt_16 ?_
        replace h := h (G o γ 0 0 116 σ 30 [some (.ref (ad o 65)), some (.int c1), some (.int c2), some (.int v3)] []) (by
            intro  h
            refine g_aload_0 (pc := 30) X dX12_fixAt_30 ?_
            refine g_getRf (pc := 31) X dX12_fixAt_31 fl_X12_105 rfl (by decide) rfl hR rfl ?_
            refine g_iload_3 (pc := 34) X dX12_fixAt_34 ?_
            refine g_iaload_w (pc := 35) X dX12_fixAt_35 rfl (by decide) h (fun x7 h => ?_)
            refine g_iload_2 (pc := 36) X dX12_fixAt_36 ?_
            refine g_icmp_ne (pc := 37) X dX12_fixAt_37 (tgt := 52) (by decide) (fun q8 => ?_) (fun q8 => ?_)
            · replace h := h.2 q8
              refine g_iinc_3 (pc := 52) X dX12_fixAt_52 (v := v3 + nI 1) rfl (by decide) rfl ?_
              refine g_goto (pc := 55) X dX12_fixAt_55 (tgt := 2) (by decide) ?_
              exact ih (v3 + nI 1) h
            · replace h := h.1 q8
              refine g_aload_0 (pc := 40) X dX12_fixAt_40 ?_
              refine g_getRf (pc := 41) X dX12_fixAt_41 fl_X12_108 rfl (by decide) rfl hR rfl ?_
              refine g_iload_3 (pc := 44) X dX12_fixAt_44 ?_
              refine g_iaload_w (pc := 45) X dX12_fixAt_45 rfl (by decide) h (fun x9 h => ?_)
              refine g_iload_1 (pc := 46) X dX12_fixAt_46 ?_
              refine g_icmp_ne (pc := 47) X dX12_fixAt_47 (tgt := 52) (by decide) (fun q10 => ?_) (fun q10 => ?_)
              · replace h := h.2 q10
                refine g_iinc_3 (pc := 52) X dX12_fixAt_52 (v := v3 + nI 1) rfl (by decide) rfl ?_
                refine g_goto (pc := 55) X dX12_fixAt_55 (tgt := 2) (by decide) ?_
                exact ih (v3 + nI 1) h
              · replace h := h.1 q10
                refine g_iload_3 (pc := 50) X dX12_fixAt_50 ?_
                exact g_ireturn (pc := 51) X Y dX12_fixAt_51 (Nat.le_of_ble_eq_true rfl) (Nat.le_of_ble_eq_true rfl) ⟨_, rfl, rfl, h⟩)
        refine g_icmp_ne (pc := 17) X dX12_fixAt_17 (tgt := 30) (by decide) (fun q11 => ?_) (fun q11 => ?_)
        · replace h := h.2 q11
          exact h
        · replace h := h.1 q11
          refine g_aload_0 (pc := 20) X dX12_fixAt_20 ?_
          refine g_getRf (pc := 21) X dX12_fixAt_21 fl_X12_108 rfl (by decide) rfl hR rfl ?_
          refine g_iload_3 (pc := 24) X dX12_fixAt_24 ?_
          refine g_iaload_w (pc := 25) X dX12_fixAt_25 rfl (by decide) h (fun x12 h => ?_)
          refine g_iload_2 (pc := 26) X dX12_fixAt_26 ?_
          refine g_icmp_eq (pc := 27) X dX12_fixAt_27 (tgt := 50) (by decide) (fun q13 => ?_) (fun q13 => ?_)
          · replace h := h.1 q13
            refine g_iload_3 (pc := 50) X dX12_fixAt_50 ?_
            exact g_ireturn (pc := 51) X Y dX12_fixAt_51 (Nat.le_of_ble_eq_true rfl) (Nat.le_of_ble_eq_true rfl) ⟨_, rfl, rfl, h⟩
          · replace h := h.2 q13
            exact h
  refine hL p0 p1 _ (fun h => ?_) n14 (nI 0) h
  · refine g_iconst (pc := 58) X dX12_fixAt_58 kiconst_m1 ?_
    exact g_ireturn (pc := 59) X Y dX12_fixAt_59 (Nat.le_of_ble_eq_true rfl) (Nat.le_of_ble_eq_true rfl) ⟨_, rfl, rfl, h⟩
def L_X12_weighs_14 (Q : gSt → Prop) (c5 : Int32) (K : gSt → Prop) : Nat → Int32 → gSt → Prop
  | 0, _, _ => False
  | n14 + 1, v6, s7 => (((s7.1 65 1) ≤ v6 → (K s7)) ∧ (¬ (s7.1 65 1) ≤ v6 → (W_X12_weightOf c5 v6 (fun x10 s11 => ∀ J13 : Int32 → Prop, (∀ x12, (wZ s11 91 900 (((nI 30) * c5) + v6) x12 (fun s14 => ∀ J16 : Int32 → Prop, (∀ x15, (wZ s14 91 900 (((nI 30) * v6) + c5) x15 (fun s17 => ∀ J19 : Int32 → Prop, (∀ x18, (wI s17 90 900 (((nI 30) * c5) + v6) x18 (fun s20 => rI s20 90 900 (((nI 30) * c5) + v6) (fun x21 => wI s20 90 900 (((nI 30) * v6) + c5) x21 (fun s22 => W_X12_fixAt c5 v6 (fun x23 => ∀ J25 : Int32 → Prop, (∀ x24, (wZ s22 93 900 (((nI 30) * c5) + v6) x24 (fun s26 => rI s26 93 900 (((nI 30) * c5) + v6) (fun x27 => wZ s26 93 900 (((nI 30) * v6) + c5) x27 (fun s28 => ∀ J30 : Int32 → Prop, (∀ x29, (wZ s28 92 900 (((nI 30) * c5) + v6) x29 (fun s31 => rI s31 92 900 (((nI 30) * c5) + v6) (fun x32 => wZ s31 92 900 (((nI 30) * v6) + c5) x32 (fun s33 => L_X12_weighs_14 Q c5 K n14 (v6 + nI 1) s33)))) → J30 x29) → ∀ J34 : Prop, ((J30 (nI 1)) → J34) → ((x10 = ((-2147483648 : Int32)) → J34) ∧ (¬ x10 = ((-2147483648 : Int32)) → (∀ J36 : Prop, ((∀ J37 : Prop, (((((s28.1 65 43) = ((-1 : Int32)) → (J30 (nI 0))) ∧ (¬ (s28.1 65 43) = ((-1 : Int32)) → (rI s28 69 30 c5 (fun x39 => rI s28 69 30 v6 (fun x40 => W_X12_off (x39 - x40) (fun x41 => ((x41 ≤ (s28.1 65 43) → (J30 (nI 0))) ∧ (¬ x41 ≤ (s28.1 65 43) → J34))) s28)))))) → J37) → (((s28.1 65 42) = (nI 1) → (rI s28 66 30 c5 (fun x44 => rI s28 66 30 v6 (fun x45 => ((x44 = x45 → J34) ∧ (¬ x44 = x45 → J37)))))) ∧ (¬ (s28.1 65 42) = (nI 1) → J37))) → J36) → ((x23 = ((-1 : Int32)) → J36) ∧ (¬ x23 = ((-1 : Int32)) → (rI s28 96 20 x23 (fun x48 => ((x48 = 0 → J34) ∧ (¬ x48 = 0 → J36))))))))))))) → J25 x24) → ∀ J50 : Prop, ((J25 (nI 0)) → J50) → ((x23 = ((-1 : Int32)) → J50) ∧ (¬ x23 = ((-1 : Int32)) → (rI s22 96 20 x23 (fun x52 => ((x52 = 0 → J50) ∧ (¬ x52 = 0 → (J25 (nI 1))))))))) s22)))) → J19 x18) → ((x10 = ((-2147483648 : Int32)) → (J19 (nI 0))) ∧ (¬ x10 = ((-2147483648 : Int32)) → (J19 x10))))) → J16 x15) → ((x10 = ((-2147483648 : Int32)) → (J16 (nI 1))) ∧ (¬ x10 = ((-2147483648 : Int32)) → (J16 (nI 0)))))) → J13 x12) → ((x10 = ((-2147483648 : Int32)) → (J13 (nI 1))) ∧ (¬ x10 = ((-2147483648 : Int32)) → (J13 (nI 0))))) s7)))
def L_X12_weighs_2 (Q : gSt → Prop)  (K : gSt → Prop) : Nat → Int32 → gSt → Prop
  | 0, _, _ => False
  | n2 + 1, v1, s2 => (((s2.1 65 1) ≤ v1 → (K s2)) ∧ (¬ (s2.1 65 1) ≤ v1 → (∃ m14, L_X12_weighs_14 Q v1 (fun s58 => L_X12_weighs_2 Q K n2 (v1 + nI 1) s58) m14 (v1 + (nI 1)) s2)))
def W_X12_weighs  (Q : gSt → Prop) (σ : gSt) : Prop := ∃ m2, L_X12_weighs_2 Q (fun s60 => Q s60) m2 (nI 0) σ
set_option maxHeartbeats 4000000 in
theorem t_X12_weighs {o : gOm} {l : Launch} {b : Bool}   {σ : gSt} (hR : σ.2.2 = gRf b)  {Q : gSt → Prop} (h : W_X12_weighs  Q σ) : Sp o l mX12_weighs 7 0 0 [.ref (ad o 65)] 116 116 σ (pV (fun s => s.2.2 = gRf b ∧ Q s)) := by
  unfold W_X12_weighs at h
  refine Sp.of (ls0 := [some (.ref (ad o 65)), none, none, none, none]) miX12_weighs rfl (Nat.le_of_ble_eq_true rfl) rfl (fun γ hγ hnm X Y => ?_)
  subst hγ
  have X : gX o γ cX12_weighs 5 RX12 := X
  refine g_iconst (pc := 0) X dX12_weighs_0 kiconst_0 ?_
  refine g_istore_1 (pc := 1) X dX12_weighs_1 (by decide) rfl ?_
  obtain ⟨n59, h⟩ := h
  have hL : ∀  (K : gSt → Prop) (_ : ∀  (s3 : gSt), s3.2.2 = gRf b → K s3 → G o γ 0 0 116 s3 309 [some (.ref (ad o 65)), none, none, none, none] []) (n : Nat) (v1 : Int32) (s2 : gSt), s2.2.2 = gRf b → L_X12_weighs_2 Q K n v1 s2 → G o γ 0 0 116 s2 2 [some (.ref (ad o 65)), some (.int v1), none, none, none] [] := by
    intro K hK n
    induction n with
    | zero => intro v1 s2 hR h; exact False.elim h
    | succ n ih =>
      intro v1 s2 hR h
      rw [L_X12_weighs_2] at h
      refine g_iload_1 (pc := 2) X dX12_weighs_2 ?_
      refine g_aload_0 (pc := 3) X dX12_weighs_3 ?_
      refine g_getI (pc := 4) X dX12_weighs_4 rfl (by decide) fl_X12_177 (Or.inl rfl) ?_
      refine g_icmp_ge (pc := 7) X dX12_weighs_7 (tgt := 309) (by decide) (fun q4 => ?_) (fun q4 => ?_)
      · replace h := h.1 q4
        exact g_drop (by simp [lsub]) (hK s2 hR h)
      · replace h := h.2 q4
        refine g_iload_1 (pc := 10) X dX12_weighs_10 ?_
        refine g_iconst (pc := 11) X dX12_weighs_11 kiconst_1 ?_
        refine g_iadd (pc := 12) X dX12_weighs_12 ?_
        refine g_istore_2 (pc := 13) X dX12_weighs_13 (by decide) rfl ?_
        obtain ⟨n57, h⟩ := h
        have hL : ∀ (c5 : Int32) (K : gSt → Prop) (_ : ∀  (s8 : gSt), s8.2.2 = gRf b → K s8 → G o γ 0 0 116 s8 303 [some (.ref (ad o 65)), some (.int c5), none, none, none] []) (n : Nat) (v6 : Int32) (s7 : gSt), s7.2.2 = gRf b → L_X12_weighs_14 Q c5 K n v6 s7 → G o γ 0 0 116 s7 14 [some (.ref (ad o 65)), some (.int c5), some (.int v6), none, none] [] := by
          intro c5 K hK n
          induction n with
          | zero => intro v6 s7 hR h; exact False.elim h
          | succ n ih =>
            intro v6 s7 hR h
            rw [L_X12_weighs_14] at h
            refine g_iload_2 (pc := 14) X dX12_weighs_14 ?_
            refine g_aload_0 (pc := 15) X dX12_weighs_15 ?_
            refine g_getI (pc := 16) X dX12_weighs_16 rfl (by decide) fl_X12_177 (Or.inl rfl) ?_
            refine g_icmp_ge (pc := 19) X dX12_weighs_19 (tgt := 303) (by decide) (fun q9 => ?_) (fun q9 => ?_)
            · replace h := h.1 q9
              exact g_drop (by simp [lsub]) (hK s7 hR h)
            · replace h := h.2 q9
              refine g_aload_0 (pc := 22) X dX12_weighs_22 ?_
              refine g_iload_1 (pc := 23) X dX12_weighs_23 ?_
              refine g_iload_2 (pc := 24) X dX12_weighs_24 ?_
              refine g_callV_I (pc := 25) X Y dX12_weighs_25 miX12_weightOf li_X12_353 (t_X12_weightOf hR  h) rfl (by decide) rfl ⟨_, rfl⟩ rfl ⟨Nat.le_of_ble_eq_true rfl, Nat.le_of_ble_eq_true rfl⟩ (Nat.le_of_ble_eq_true rfl) (Nat.le_of_ble_eq_true rfl) rfl (by exact Nat.le_of_ble_eq_true rfl) (fun x10 s11 hp => ?_)
              obtain ⟨hR, h⟩ := hp
              refine g_istore_3 (pc := 28) X dX12_weighs_28 (by decide) rfl ?_
              refine g_aload_0 (pc := 29) X dX12_weighs_29 ?_
              refine g_getRf (pc := 30) X dX12_weighs_30 fl_X12_92 rfl (by decide) rfl hR rfl ?_
              refine g_bipush (pc := 33) X dX12_weighs_33 kbipush_30 ?_
              refine g_iload_1 (pc := 35) X dX12_weighs_35 ?_
              refine g_imul (pc := 36) X dX12_weighs_36 ?_
              refine g_iload_2 (pc := 37) X dX12_weighs_37 ?_
              refine g_iadd (pc := 38) X dX12_weighs_38 ?_
              refine g_iload_3 (pc := 39) X dX12_weighs_39 ?_
              refine g_ldcw (pc := 40) X dX12_weighs_40 ct_X12_352 ?_
              replace h := h (fun x12 => G o γ 0 0 116 s11 51 [some (.ref (ad o 65)), some (.int c5), some (.int v6), some (.int x10), none] [.int x12, .int (((nI 30) * c5) + v6), .ref (ad o 91)]) (by
                  intro x12 h
                  refine g_bastore_w (pc := 51) X dX12_weighs_51 rfl (by decide) hR h (fun s14 hR h => ?_)
                  refine g_aload_0 (pc := 52) X dX12_weighs_52 ?_
                  refine g_getRf (pc := 53) X dX12_weighs_53 fl_X12_92 rfl (by decide) rfl hR rfl ?_
                  refine g_bipush (pc := 56) X dX12_weighs_56 kbipush_30 ?_
                  refine g_iload_2 (pc := 58) X dX12_weighs_58 ?_
                  refine g_imul (pc := 59) X dX12_weighs_59 ?_
                  refine g_iload_1 (pc := 60) X dX12_weighs_60 ?_
                  refine g_iadd (pc := 61) X dX12_weighs_61 ?_
                  refine g_iload_3 (pc := 62) X dX12_weighs_62 ?_
                  refine g_ldcw (pc := 63) X dX12_weighs_63 ct_X12_352 ?_
                  replace h := h (fun x15 => G o γ 0 0 116 s14 74 [some (.ref (ad o 65)), some (.int c5), some (.int v6), some (.int x10), none] [.int x15, .int (((nI 30) * v6) + c5), .ref (ad o 91)]) (by
                      intro x15 h
                      refine g_bastore_w (pc := 74) X dX12_weighs_74 rfl (by decide) hR h (fun s17 hR h => ?_)
                      refine g_aload_0 (pc := 75) X dX12_weighs_75 ?_
                      refine g_getRf (pc := 76) X dX12_weighs_76 fl_X12_89 rfl (by decide) rfl hR rfl ?_
                      refine g_bipush (pc := 79) X dX12_weighs_79 kbipush_30 ?_
                      refine g_iload_1 (pc := 81) X dX12_weighs_81 ?_
                      refine g_imul (pc := 82) X dX12_weighs_82 ?_
                      refine g_iload_2 (pc := 83) X dX12_weighs_83 ?_
                      refine g_iadd (pc := 84) X dX12_weighs_84 ?_
                      refine g_iload_3 (pc := 85) X dX12_weighs_85 ?_
                      refine g_ldcw (pc := 86) X dX12_weighs_86 ct_X12_352 ?_
                      replace h := h (fun x18 => G o γ 0 0 116 s17 97 [some (.ref (ad o 65)), some (.int c5), some (.int v6), some (.int x10), none] [.int x18, .int (((nI 30) * c5) + v6), .ref (ad o 90)]) (by
                          intro x18 h
                          refine g_iastore_w (pc := 97) X dX12_weighs_97 rfl (by decide) hR h (fun s20 hR h => ?_)
                          refine g_aload_0 (pc := 98) X dX12_weighs_98 ?_
                          refine g_getRf (pc := 99) X dX12_weighs_99 fl_X12_89 rfl (by decide) rfl hR rfl ?_
                          refine g_bipush (pc := 102) X dX12_weighs_102 kbipush_30 ?_
                          refine g_iload_2 (pc := 104) X dX12_weighs_104 ?_
                          refine g_imul (pc := 105) X dX12_weighs_105 ?_
                          refine g_iload_1 (pc := 106) X dX12_weighs_106 ?_
                          refine g_iadd (pc := 107) X dX12_weighs_107 ?_
                          refine g_aload_0 (pc := 108) X dX12_weighs_108 ?_
                          refine g_getRf (pc := 109) X dX12_weighs_109 fl_X12_89 rfl (by decide) rfl hR rfl ?_
                          refine g_bipush (pc := 112) X dX12_weighs_112 kbipush_30 ?_
                          refine g_iload_1 (pc := 114) X dX12_weighs_114 ?_
                          refine g_imul (pc := 115) X dX12_weighs_115 ?_
                          refine g_iload_2 (pc := 116) X dX12_weighs_116 ?_
                          refine g_iadd (pc := 117) X dX12_weighs_117 ?_
                          refine g_iaload_w (pc := 118) X dX12_weighs_118 rfl (by decide) h (fun x21 h => ?_)
                          refine g_iastore_w (pc := 119) X dX12_weighs_119 rfl (by decide) hR h (fun s22 hR h => ?_)
                          refine g_aload_0 (pc := 120) X dX12_weighs_120 ?_
                          refine g_iload_1 (pc := 121) X dX12_weighs_121 ?_
                          refine g_iload_2 (pc := 122) X dX12_weighs_122 ?_
                          refine g_callV_I (pc := 123) X Y dX12_weighs_123 miX12_fixAt li_X12_356 (t_X12_fixAt hR  h) rfl (by decide) rfl ⟨_, rfl⟩ rfl ⟨Nat.le_of_ble_eq_true rfl, Nat.le_of_ble_eq_true rfl⟩ (Nat.le_of_ble_eq_true rfl) (Nat.le_of_ble_eq_true rfl) rfl (by exact Nat.le_of_ble_eq_true rfl) (fun x23 σ9 hp => ?_)
                          obtain ⟨rfl, h⟩ := hp
                          refine g_istore_4 (pc := 126) X dX12_weighs_126 (by decide) rfl ?_
                          refine g_aload_0 (pc := 128) X dX12_weighs_128 ?_
                          refine g_getRf (pc := 129) X dX12_weighs_129 fl_X12_99 rfl (by decide) rfl hR rfl ?_
                          refine g_bipush (pc := 132) X dX12_weighs_132 kbipush_30 ?_
                          refine g_iload_1 (pc := 134) X dX12_weighs_134 ?_
                          refine g_imul (pc := 135) X dX12_weighs_135 ?_
                          refine g_iload_2 (pc := 136) X dX12_weighs_136 ?_
                          refine g_iadd (pc := 137) X dX12_weighs_137 ?_
                          refine g_iload_4 (pc := 138) X dX12_weighs_138 ?_
                          refine g_iconst (pc := 140) X dX12_weighs_140 kiconst_m1 ?_
                          replace h := h (fun x24 => G o γ 0 0 116 s22 159 [some (.ref (ad o 65)), some (.int c5), some (.int v6), some (.int x10), some (.int x23)] [.int x24, .int (((nI 30) * c5) + v6), .ref (ad o 93)]) (by
                              intro x24 h
                              refine g_bastore_w (pc := 159) X dX12_weighs_159 rfl (by decide) hR h (fun s26 hR h => ?_)
                              refine g_aload_0 (pc := 160) X dX12_weighs_160 ?_
                              refine g_getRf (pc := 161) X dX12_weighs_161 fl_X12_99 rfl (by decide) rfl hR rfl ?_
                              refine g_bipush (pc := 164) X dX12_weighs_164 kbipush_30 ?_
                              refine g_iload_2 (pc := 166) X dX12_weighs_166 ?_
                              refine g_imul (pc := 167) X dX12_weighs_167 ?_
                              refine g_iload_1 (pc := 168) X dX12_weighs_168 ?_
                              refine g_iadd (pc := 169) X dX12_weighs_169 ?_
                              refine g_aload_0 (pc := 170) X dX12_weighs_170 ?_
                              refine g_getRf (pc := 171) X dX12_weighs_171 fl_X12_99 rfl (by decide) rfl hR rfl ?_
                              refine g_bipush (pc := 174) X dX12_weighs_174 kbipush_30 ?_
                              refine g_iload_1 (pc := 176) X dX12_weighs_176 ?_
                              refine g_imul (pc := 177) X dX12_weighs_177 ?_
                              refine g_iload_2 (pc := 178) X dX12_weighs_178 ?_
                              refine g_iadd (pc := 179) X dX12_weighs_179 ?_
                              refine g_baload_w (pc := 180) X dX12_weighs_180 rfl (by decide) h (fun x27 h => ?_)
                              refine g_bastore_w (pc := 181) X dX12_weighs_181 rfl (by decide) hR h (fun s28 hR h => ?_)
                              refine g_aload_0 (pc := 182) X dX12_weighs_182 ?_
                              refine g_getRf (pc := 183) X dX12_weighs_183 fl_X12_96 rfl (by decide) rfl hR rfl ?_
                              refine g_bipush (pc := 186) X dX12_weighs_186 kbipush_30 ?_
                              refine g_iload_1 (pc := 188) X dX12_weighs_188 ?_
                              refine g_imul (pc := 189) X dX12_weighs_189 ?_
                              refine g_iload_2 (pc := 190) X dX12_weighs_190 ?_
                              refine g_iadd (pc := 191) X dX12_weighs_191 ?_
                              refine g_iload_3 (pc := 192) X dX12_weighs_192 ?_
                              refine g_ldcw (pc := 193) X dX12_weighs_193 ct_X12_352 ?_
                              replace h := h (fun x29 => G o γ 0 0 116 s28 274 [some (.ref (ad o 65)), some (.int c5), some (.int v6), none, none] [.int x29, .int (((nI 30) * c5) + v6), .ref (ad o 92)]) (by
                                  intro x29 h
                                  refine g_bastore_w (pc := 274) X dX12_weighs_274 rfl (by decide) hR h (fun s31 hR h => ?_)
                                  refine g_aload_0 (pc := 275) X dX12_weighs_275 ?_
                                  refine g_getRf (pc := 276) X dX12_weighs_276 fl_X12_96 rfl (by decide) rfl hR rfl ?_
                                  refine g_bipush (pc := 279) X dX12_weighs_279 kbipush_30 ?_
                                  refine g_iload_2 (pc := 281) X dX12_weighs_281 ?_
                                  refine g_imul (pc := 282) X dX12_weighs_282 ?_
                                  refine g_iload_1 (pc := 283) X dX12_weighs_283 ?_
                                  refine g_iadd (pc := 284) X dX12_weighs_284 ?_
                                  refine g_aload_0 (pc := 285) X dX12_weighs_285 ?_
                                  refine g_getRf (pc := 286) X dX12_weighs_286 fl_X12_96 rfl (by decide) rfl hR rfl ?_
                                  refine g_bipush (pc := 289) X dX12_weighs_289 kbipush_30 ?_
                                  refine g_iload_1 (pc := 291) X dX12_weighs_291 ?_
                                  refine g_imul (pc := 292) X dX12_weighs_292 ?_
                                  refine g_iload_2 (pc := 293) X dX12_weighs_293 ?_
                                  refine g_iadd (pc := 294) X dX12_weighs_294 ?_
                                  refine g_baload_w (pc := 295) X dX12_weighs_295 rfl (by decide) h (fun x32 h => ?_)
                                  refine g_bastore_w (pc := 296) X dX12_weighs_296 rfl (by decide) hR h (fun s33 hR h => ?_)
                                  refine g_iinc_2 (pc := 297) X dX12_weighs_297 (v := v6 + nI 1) rfl (by decide) rfl ?_
                                  refine g_goto (pc := 300) X dX12_weighs_300 (tgt := 14) (by decide) ?_
                                  exact ih (v6 + nI 1) s33 hR h)
                              replace h := h (G o γ 0 0 116 s28 269 [some (.ref (ad o 65)), some (.int c5), some (.int v6), none, none] [.int (((nI 30) * c5) + v6), .ref (ad o 92)]) (by
                                  intro  h
                                  refine g_iconst (pc := 269) X dX12_weighs_269 kiconst_1 ?_
                                  refine g_goto (pc := 270) X dX12_weighs_270 (tgt := 274) (by decide) ?_
                                  exact h)
                              refine g_icmp_eq (pc := 196) X dX12_weighs_196 (tgt := 269) (by decide) (fun q35 => ?_) (fun q35 => ?_)
                              · replace h := h.1 q35
                                exact g_drop (by simp [lsub]) (h)
                              · replace h := h.2 q35
                                refine g_iload_4 (pc := 199) X dX12_weighs_199 ?_
                                refine g_iconst (pc := 201) X dX12_weighs_201 kiconst_m1 ?_
                                replace h := h (G o γ 0 0 116 s28 215 [some (.ref (ad o 65)), some (.int c5), some (.int v6), none, none] [.int (((nI 30) * c5) + v6), .ref (ad o 92)]) (by
                                    intro  h
                                    refine g_aload_0 (pc := 215) X dX12_weighs_215 ?_
                                    refine g_getI (pc := 216) X dX12_weighs_216 rfl (by decide) fl_X12_359 (Or.inl rfl) ?_
                                    refine g_iconst (pc := 219) X dX12_weighs_219 kiconst_1 ?_
                                    replace h := h (G o γ 0 0 116 s28 238 [some (.ref (ad o 65)), some (.int c5), some (.int v6), none, none] [.int (((nI 30) * c5) + v6), .ref (ad o 92)]) (by
                                        intro  h
                                        refine g_aload_0 (pc := 238) X dX12_weighs_238 ?_
                                        refine g_getI (pc := 239) X dX12_weighs_239 rfl (by decide) fl_X12_102 (Or.inl rfl) ?_
                                        refine g_iconst (pc := 242) X dX12_weighs_242 kiconst_m1 ?_
                                        refine g_icmp_eq (pc := 243) X dX12_weighs_243 (tgt := 273) (by decide) (fun q38 => ?_) (fun q38 => ?_)
                                        · replace h := h.1 q38
                                          refine g_iconst (pc := 273) X dX12_weighs_273 kiconst_0 ?_
                                          exact h
                                        · replace h := h.2 q38
                                          refine g_aload_0 (pc := 246) X dX12_weighs_246 ?_
                                          refine g_getRf (pc := 247) X dX12_weighs_247 fl_X12_23 rfl (by decide) rfl hR rfl ?_
                                          refine g_iload_1 (pc := 250) X dX12_weighs_250 ?_
                                          refine g_iaload_w (pc := 251) X dX12_weighs_251 rfl (by decide) h (fun x39 h => ?_)
                                          refine g_aload_0 (pc := 252) X dX12_weighs_252 ?_
                                          refine g_getRf (pc := 253) X dX12_weighs_253 fl_X12_23 rfl (by decide) rfl hR rfl ?_
                                          refine g_iload_2 (pc := 256) X dX12_weighs_256 ?_
                                          refine g_iaload_w (pc := 257) X dX12_weighs_257 rfl (by decide) h (fun x40 h => ?_)
                                          refine g_isub (pc := 258) X dX12_weighs_258 ?_
                                          refine g_callS_I (pc := 259) X Y dX12_weighs_259 miX12_off li_X12_323 (t_X12_off hR  h) rfl ⟨Nat.le_of_ble_eq_true rfl, Nat.le_of_ble_eq_true rfl⟩ (Nat.le_of_ble_eq_true rfl) (Nat.le_of_ble_eq_true rfl) rfl (by exact Nat.le_of_ble_eq_true rfl) (fun x41 σ9 hp => ?_)
                                          obtain ⟨rfl, h⟩ := hp
                                          refine g_aload_0 (pc := 262) X dX12_weighs_262 ?_
                                          refine g_getI (pc := 263) X dX12_weighs_263 rfl (by decide) fl_X12_102 (Or.inl rfl) ?_
                                          refine g_icmp_le (pc := 266) X dX12_weighs_266 (tgt := 273) (by decide) (fun q42 => ?_) (fun q42 => ?_)
                                          · replace h := h.1 q42
                                            refine g_iconst (pc := 273) X dX12_weighs_273 kiconst_0 ?_
                                            exact h
                                          · replace h := h.2 q42
                                            exact h)
                                    refine g_icmp_ne (pc := 220) X dX12_weighs_220 (tgt := 238) (by decide) (fun q43 => ?_) (fun q43 => ?_)
                                    · replace h := h.2 q43
                                      exact h
                                    · replace h := h.1 q43
                                      refine g_aload_0 (pc := 223) X dX12_weighs_223 ?_
                                      refine g_getRf (pc := 224) X dX12_weighs_224 fl_X12_13 rfl (by decide) rfl hR rfl ?_
                                      refine g_iload_1 (pc := 227) X dX12_weighs_227 ?_
                                      refine g_iaload_w (pc := 228) X dX12_weighs_228 rfl (by decide) h (fun x44 h => ?_)
                                      refine g_aload_0 (pc := 229) X dX12_weighs_229 ?_
                                      refine g_getRf (pc := 230) X dX12_weighs_230 fl_X12_13 rfl (by decide) rfl hR rfl ?_
                                      refine g_iload_2 (pc := 233) X dX12_weighs_233 ?_
                                      refine g_iaload_w (pc := 234) X dX12_weighs_234 rfl (by decide) h (fun x45 h => ?_)
                                      refine g_icmp_eq (pc := 235) X dX12_weighs_235 (tgt := 269) (by decide) (fun q46 => ?_) (fun q46 => ?_)
                                      · replace h := h.1 q46
                                        exact h
                                      · replace h := h.2 q46
                                        exact h)
                                refine g_icmp_eq (pc := 202) X dX12_weighs_202 (tgt := 215) (by decide) (fun q47 => ?_) (fun q47 => ?_)
                                · replace h := h.1 q47
                                  exact g_drop (by simp [lsub]) (h)
                                · replace h := h.2 q47
                                  refine g_aload_0 (pc := 205) X dX12_weighs_205 ?_
                                  refine g_getRf (pc := 206) X dX12_weighs_206 fl_X12_111 rfl (by decide) rfl hR rfl ?_
                                  refine g_iload_4 (pc := 209) X dX12_weighs_209 ?_
                                  refine g_baload_w (pc := 211) X dX12_weighs_211 rfl (by decide) h (fun x48 h => ?_)
                                  refine g_if_eq (pc := 212) X dX12_weighs_212 (tgt := 269) (by decide) (fun q49 => ?_) (fun q49 => ?_)
                                  · replace h := h.1 q49
                                    exact g_drop (by simp [lsub]) (h)
                                  · replace h := h.2 q49
                                    exact g_drop (by simp [lsub]) (h))
                          replace h := h (G o γ 0 0 116 s22 158 [some (.ref (ad o 65)), some (.int c5), some (.int v6), some (.int x10), some (.int x23)] [.int (((nI 30) * c5) + v6), .ref (ad o 93)]) (by
                              intro  h
                              refine g_iconst (pc := 158) X dX12_weighs_158 kiconst_0 ?_
                              exact h)
                          refine g_icmp_eq (pc := 141) X dX12_weighs_141 (tgt := 158) (by decide) (fun q51 => ?_) (fun q51 => ?_)
                          · replace h := h.1 q51
                            exact h
                          · replace h := h.2 q51
                            refine g_aload_0 (pc := 144) X dX12_weighs_144 ?_
                            refine g_getRf (pc := 145) X dX12_weighs_145 fl_X12_111 rfl (by decide) rfl hR rfl ?_
                            refine g_iload_4 (pc := 148) X dX12_weighs_148 ?_
                            refine g_baload_w (pc := 150) X dX12_weighs_150 rfl (by decide) h (fun x52 h => ?_)
                            refine g_if_eq (pc := 151) X dX12_weighs_151 (tgt := 158) (by decide) (fun q53 => ?_) (fun q53 => ?_)
                            · replace h := h.1 q53
                              exact h
                            · replace h := h.2 q53
                              refine g_iconst (pc := 154) X dX12_weighs_154 kiconst_1 ?_
                              refine g_goto (pc := 155) X dX12_weighs_155 (tgt := 159) (by decide) ?_
                              exact h)
                      refine g_icmp_ne (pc := 89) X dX12_weighs_89 (tgt := 96) (by decide) (fun q54 => ?_) (fun q54 => ?_)
                      · replace h := h.2 q54
                        refine g_iload_3 (pc := 96) X dX12_weighs_96 ?_
                        exact h
                      · replace h := h.1 q54
                        refine g_iconst (pc := 92) X dX12_weighs_92 kiconst_0 ?_
                        refine g_goto (pc := 93) X dX12_weighs_93 (tgt := 97) (by decide) ?_
                        exact h)
                  refine g_icmp_ne (pc := 66) X dX12_weighs_66 (tgt := 73) (by decide) (fun q55 => ?_) (fun q55 => ?_)
                  · replace h := h.2 q55
                    refine g_iconst (pc := 73) X dX12_weighs_73 kiconst_0 ?_
                    exact h
                  · replace h := h.1 q55
                    refine g_iconst (pc := 69) X dX12_weighs_69 kiconst_1 ?_
                    refine g_goto (pc := 70) X dX12_weighs_70 (tgt := 74) (by decide) ?_
                    exact h)
              refine g_icmp_ne (pc := 43) X dX12_weighs_43 (tgt := 50) (by decide) (fun q56 => ?_) (fun q56 => ?_)
              · replace h := h.2 q56
                refine g_iconst (pc := 50) X dX12_weighs_50 kiconst_0 ?_
                exact h
              · replace h := h.1 q56
                refine g_iconst (pc := 46) X dX12_weighs_46 kiconst_1 ?_
                refine g_goto (pc := 47) X dX12_weighs_47 (tgt := 51) (by decide) ?_
                exact h
        refine hL v1 _ (fun s58 hR h => ?_) n57 (v1 + (nI 1)) s2 hR h
        · refine g_iinc_1 (pc := 303) X dX12_weighs_303 (v := v1 + nI 1) rfl (by decide) rfl ?_
          refine g_goto (pc := 306) X dX12_weighs_306 (tgt := 2) (by decide) ?_
          exact ih (v1 + nI 1) s58 hR h
  refine hL  _ (fun s60 hR h => ?_) n59 (nI 0) σ hR h
  · exact g_return (pc := 309) X Y dX12_weighs_309 (Nat.le_of_ble_eq_true rfl) (Nat.le_of_ble_eq_true rfl) ⟨rfl, hR, h⟩
def L_X12_everyone_6 (Q : gSt → Prop)  (K : gSt → Prop) : Nat → Int32 → gSt → Prop
  | 0, _, _ => False
  | n6 + 1, v2, s3 => (((s3.1 65 1) ≤ v2 → (K s3)) ∧ (¬ (s3.1 65 1) ≤ v2 → (wZ s3 103 30 v2 (nI 1) (fun s6 => L_X12_everyone_6 Q K n6 (v2 + nI 1) s6))))
def W_X12_everyone  (Q : gSt → Prop) (σ : gSt) : Prop := W_X12_weighs (fun s1 => ∃ m6, L_X12_everyone_6 Q (fun s8 => Q s8) m6 (nI 0) s1) σ
set_option maxHeartbeats 4000000 in
theorem t_X12_everyone {o : gOm} {l : Launch} {b : Bool}   {σ : gSt} (hR : σ.2.2 = gRf b)  {Q : gSt → Prop} (h : W_X12_everyone  Q σ) : Sp o l mX12_everyone 8 0 0 [.ref (ad o 65)] 116 116 σ (pV (fun s => s.2.2 = gRf b ∧ Q s)) := by
  unfold W_X12_everyone at h
  refine Sp.of (ls0 := [some (.ref (ad o 65)), none]) miX12_everyone rfl (Nat.le_of_ble_eq_true rfl) rfl (fun γ hγ hnm X Y => ?_)
  subst hγ
  have X : gX o γ cX12_everyone 2 RX12 := X
  refine g_aload_0 (pc := 0) X dX12_everyone_0 ?_
  refine g_callV_V (pc := 1) X Y dX12_everyone_1 miX12_weighs li_X12_385 (t_X12_weighs hR  h) rfl (by decide) rfl ⟨_, rfl⟩ rfl ⟨Nat.le_of_ble_eq_true rfl, Nat.le_of_ble_eq_true rfl⟩ (Nat.le_of_ble_eq_true rfl) (Nat.le_of_ble_eq_true rfl) rfl (by exact Nat.le_of_ble_eq_true rfl) (fun s1 hp => ?_)
  obtain ⟨hR, h⟩ := hp
  refine g_iconst (pc := 4) X dX12_everyone_4 kiconst_0 ?_
  refine g_istore_1 (pc := 5) X dX12_everyone_5 (by decide) rfl ?_
  obtain ⟨n7, h⟩ := h
  have hL : ∀  (K : gSt → Prop) (_ : ∀  (s4 : gSt), s4.2.2 = gRf b → K s4 → G o γ 0 0 116 s4 27 [some (.ref (ad o 65)), none] []) (n : Nat) (v2 : Int32) (s3 : gSt), s3.2.2 = gRf b → L_X12_everyone_6 Q K n v2 s3 → G o γ 0 0 116 s3 6 [some (.ref (ad o 65)), some (.int v2)] [] := by
    intro K hK n
    induction n with
    | zero => intro v2 s3 hR h; exact False.elim h
    | succ n ih =>
      intro v2 s3 hR h
      rw [L_X12_everyone_6] at h
      refine g_iload_1 (pc := 6) X dX12_everyone_6 ?_
      refine g_aload_0 (pc := 7) X dX12_everyone_7 ?_
      refine g_getI (pc := 8) X dX12_everyone_8 rfl (by decide) fl_X12_177 (Or.inl rfl) ?_
      refine g_icmp_ge (pc := 11) X dX12_everyone_11 (tgt := 27) (by decide) (fun q5 => ?_) (fun q5 => ?_)
      · replace h := h.1 q5
        exact g_drop (by simp [lsub]) (hK s3 hR h)
      · replace h := h.2 q5
        refine g_aload_0 (pc := 14) X dX12_everyone_14 ?_
        refine g_getRf (pc := 15) X dX12_everyone_15 fl_X12_132 rfl (by decide) rfl hR rfl ?_
        refine g_iload_1 (pc := 18) X dX12_everyone_18 ?_
        refine g_iconst (pc := 19) X dX12_everyone_19 kiconst_1 ?_
        refine g_bastore_w (pc := 20) X dX12_everyone_20 rfl (by decide) hR h (fun s6 hR h => ?_)
        refine g_iinc_1 (pc := 21) X dX12_everyone_21 (v := v2 + nI 1) rfl (by decide) rfl ?_
        refine g_goto (pc := 24) X dX12_everyone_24 (tgt := 6) (by decide) ?_
        exact ih (v2 + nI 1) s6 hR h
  refine hL  _ (fun s8 hR h => ?_) n7 (nI 0) s1 hR h
  · exact g_return (pc := 27) X Y dX12_everyone_27 (Nat.le_of_ble_eq_true rfl) (Nat.le_of_ble_eq_true rfl) ⟨rfl, hR, h⟩
def W_X12_hang (p0 : Int32) (p1 : Int32) (Q : Int32 → Prop) (σ : gSt) : Prop := rI σ 90 900 (((nI 30) * p0) + p1) (fun x1 => ((0 < x1 → (Q (nI 1))) ∧ (¬ 0 < x1 → (rI σ 93 900 (((nI 30) * p0) + p1) (fun x3 => ((x3 = 0 → (Q (nI 0))) ∧ (¬ x3 = 0 → (Q (nI 1)))))))))
set_option maxHeartbeats 4000000 in
theorem t_X12_hang {o : gOm} {l : Launch} {b : Bool}   {σ : gSt} (hR : σ.2.2 = gRf b) {p0 : Int32} {p1 : Int32} {Q : Int32 → Prop} (h : W_X12_hang p0 p1 Q σ) : Sp o l mX12_hang 1 0 0 [.ref (ad o 65), .int p0, .int p1] 116 116 σ (pI (fun x s => σ = s ∧ Q x)) := by
  unfold W_X12_hang at h
  refine Sp.of (ls0 := [some (.ref (ad o 65)), some (.int p0), some (.int p1)]) miX12_hang rfl (Nat.le_of_ble_eq_true rfl) rfl (fun γ hγ hnm X Y => ?_)
  subst hγ
  have X : gX o γ cX12_hang 3 RX12 := X
  refine g_aload_0 (pc := 0) X dX12_hang_0 ?_
  refine g_getRf (pc := 1) X dX12_hang_1 fl_X12_89 rfl (by decide) rfl hR rfl ?_
  refine g_bipush (pc := 4) X dX12_hang_4 kbipush_30 ?_
  refine g_iload_1 (pc := 6) X dX12_hang_6 ?_
  refine g_imul (pc := 7) X dX12_hang_7 ?_
  refine g_iload_2 (pc := 8) X dX12_hang_8 ?_
  refine g_iadd (pc := 9) X dX12_hang_9 ?_
  refine g_iaload_w (pc := 10) X dX12_hang_10 rfl (by decide) h (fun x1 h => ?_)
  refine g_if_gt (pc := 11) X dX12_hang_11 (tgt := 28) (by decide) (fun q2 => ?_) (fun q2 => ?_)
  · replace h := h.1 q2
    refine g_iconst (pc := 28) X dX12_hang_28 kiconst_1 ?_
    refine g_goto (pc := 29) X dX12_hang_29 (tgt := 33) (by decide) ?_
    exact g_zreturn (pc := 33) X Y dX12_hang_33 (by first | exact Or.inl rfl | exact Or.inr rfl) (Nat.le_of_ble_eq_true rfl) (Nat.le_of_ble_eq_true rfl) ⟨_, rfl, rfl, h⟩
  · replace h := h.2 q2
    refine g_aload_0 (pc := 14) X dX12_hang_14 ?_
    refine g_getRf (pc := 15) X dX12_hang_15 fl_X12_99 rfl (by decide) rfl hR rfl ?_
    refine g_bipush (pc := 18) X dX12_hang_18 kbipush_30 ?_
    refine g_iload_1 (pc := 20) X dX12_hang_20 ?_
    refine g_imul (pc := 21) X dX12_hang_21 ?_
    refine g_iload_2 (pc := 22) X dX12_hang_22 ?_
    refine g_iadd (pc := 23) X dX12_hang_23 ?_
    refine g_baload_w (pc := 24) X dX12_hang_24 rfl (by decide) h (fun x3 h => ?_)
    refine g_if_eq (pc := 25) X dX12_hang_25 (tgt := 32) (by decide) (fun q4 => ?_) (fun q4 => ?_)
    · replace h := h.1 q4
      refine g_iconst (pc := 32) X dX12_hang_32 kiconst_0 ?_
      exact g_zreturn (pc := 33) X Y dX12_hang_33 (by first | exact Or.inl rfl | exact Or.inr rfl) (Nat.le_of_ble_eq_true rfl) (Nat.le_of_ble_eq_true rfl) ⟨_, rfl, rfl, h⟩
    · replace h := h.2 q4
      refine g_iconst (pc := 28) X dX12_hang_28 kiconst_1 ?_
      refine g_goto (pc := 29) X dX12_hang_29 (tgt := 33) (by decide) ?_
      exact g_zreturn (pc := 33) X Y dX12_hang_33 (by first | exact Or.inl rfl | exact Or.inr rfl) (Nat.le_of_ble_eq_true rfl) (Nat.le_of_ble_eq_true rfl) ⟨_, rfl, rfl, h⟩
def L_X12_findPart_2 (Q : gSt → Prop) (c1 : Int32) (K : gSt → Prop) : Nat → Int32 → gSt → Prop
  | 0, _, _ => False
  | n2 + 1, v2, s3 => (((s3.1 65 1) ≤ v2 → (K s3)) ∧ (¬ (s3.1 65 1) ≤ v2 → (∀ J7 : Int32 → Prop, (∀ x6, (wZ s3 104 30 v2 x6 (fun s8 => L_X12_findPart_2 Q c1 K n2 (v2 + nI 1) s8)) → J7 x6) → ((v2 = c1 → (J7 (nI 1))) ∧ (¬ v2 = c1 → (J7 (nI 0)))))))
def L_X12_findPart_53 (Q : gSt → Prop) (c22 : Int32) (K : Int32 → gSt → Prop) : Nat → Int32 → Int32 → gSt → Prop
  | 0, _, _, _ => False
  | n53 + 1, v23, v24, s25 => (((s25.1 65 1) ≤ v24 → (K v23 s25)) ∧ (¬ (s25.1 65 1) ≤ v24 → (rI s25 104 30 c22 (fun x29 => ((x29 = 0 → (K v23 s25)) ∧ (¬ x29 = 0 → (((c22 = v24 → (L_X12_findPart_53 Q c22 K n53 v23 (v24 + nI 1) s25)) ∧ (¬ c22 = v24 → (rI s25 104 30 v24 (fun x32 => ((x32 = 0 → (rI s25 103 30 v24 (fun x34 => ((x34 = 0 → (L_X12_findPart_53 Q c22 K n53 v23 (v24 + nI 1) s25)) ∧ (¬ x34 = 0 → (W_X12_hang c22 v24 (fun x36 => ((x36 = 0 → (L_X12_findPart_53 Q c22 K n53 v23 (v24 + nI 1) s25)) ∧ (¬ x36 = 0 → (wZ s25 104 30 v24 (nI 1) (fun s38 => L_X12_findPart_53 Q c22 K n53 (nI 1) (v24 + nI 1) s38))))) s25)))))) ∧ (¬ x32 = 0 → (L_X12_findPart_53 Q c22 K n53 v23 (v24 + nI 1) s25))))))))))))))
def L_X12_findPart_42 (Q : gSt → Prop)  (K : Int32 → gSt → Prop) : Nat → Int32 → Int32 → gSt → Prop
  | 0, _, _, _ => False
  | n42 + 1, v16, v17, s18 => (((s18.1 65 1) ≤ v17 → (K v16 s18)) ∧ (¬ (s18.1 65 1) ≤ v17 → (∃ m53, L_X12_findPart_53 Q v17 (fun y40 s41 => L_X12_findPart_42 Q K n42 y40 (v17 + nI 1) s41) m53 v16 (nI 0) s18)))
def L_X12_findPart_34 (Q : gSt → Prop)  (K : gSt → Prop) : Nat → Int32 → gSt → Prop
  | 0, _, _ => False
  | n34 + 1, v12, s13 => ((v12 = 0 → (K s13)) ∧ (¬ v12 = 0 → (∃ m42, L_X12_findPart_42 Q (fun y43 s44 => L_X12_findPart_34 Q K n34 y43 s44) m42 (nI 0) (nI 0) s13)))
def L_X12_findPart_142 (Q : gSt → Prop)  (K : gSt → Prop) : Nat → Int32 → gSt → Prop
  | 0, _, _ => False
  | n142 + 1, v48, s49 => (((s49.1 65 1) ≤ v48 → (K s49)) ∧ (¬ (s49.1 65 1) ≤ v48 → (rI s49 104 30 v48 (fun x52 => ((x52 = 0 → (L_X12_findPart_142 Q K n142 (v48 + nI 1) s49)) ∧ (¬ x52 = 0 → (wI s49 105 30 (s49.1 65 64) v48 (fun s54 => fI s54 65 64 ((s54.1 65 64) + (nI 1)) (fun s55 => L_X12_findPart_142 Q K n142 (v48 + nI 1) s55)))))))))
def W_X12_findPart (p0 : Int32) (Q : gSt → Prop) (σ : gSt) : Prop := ∃ m2, L_X12_findPart_2 Q p0 (fun s11 => ∃ m34, L_X12_findPart_34 Q (fun s46 => fI s46 65 64 (nI 0) (fun s47 => ∃ m142, L_X12_findPart_142 Q (fun s57 => Q s57) m142 (nI 0) s47)) m34 (nI 1) s11) m2 (nI 0) σ
set_option maxHeartbeats 4000000 in
theorem t_X12_findPart {o : gOm} {l : Launch} {b : Bool}   {σ : gSt} (hR : σ.2.2 = gRf b) {p0 : Int32} {Q : gSt → Prop} (h : W_X12_findPart p0 Q σ) : Sp o l mX12_findPart 2 0 0 [.ref (ad o 65), .int p0] 116 116 σ (pV (fun s => s.2.2 = gRf b ∧ Q s)) := by
  unfold W_X12_findPart at h
  refine Sp.of (ls0 := [some (.ref (ad o 65)), some (.int p0), none, none, none]) miX12_findPart rfl (Nat.le_of_ble_eq_true rfl) rfl (fun γ hγ hnm X Y => ?_)
  subst hγ
  have X : gX o γ cX12_findPart 5 RX12 := X
  refine g_iconst (pc := 0) X dX12_findPart_0 kiconst_0 ?_
  refine g_istore_2 (pc := 1) X dX12_findPart_1 (by decide) rfl ?_
  obtain ⟨n10, h⟩ := h
  have hL : ∀ (c1 : Int32) (K : gSt → Prop) (_ : ∀  (s4 : gSt), s4.2.2 = gRf b → K s4 → G o γ 0 0 116 s4 32 [some (.ref (ad o 65)), some (.int c1), none, none, none] []) (n : Nat) (v2 : Int32) (s3 : gSt), s3.2.2 = gRf b → L_X12_findPart_2 Q c1 K n v2 s3 → G o γ 0 0 116 s3 2 [some (.ref (ad o 65)), some (.int c1), some (.int v2), none, none] [] := by
    intro c1 K hK n
    induction n with
    | zero => intro v2 s3 hR h; exact False.elim h
    | succ n ih =>
      intro v2 s3 hR h
      rw [L_X12_findPart_2] at h
      refine g_iload_2 (pc := 2) X dX12_findPart_2 ?_
      refine g_aload_0 (pc := 3) X dX12_findPart_3 ?_
      refine g_getI (pc := 4) X dX12_findPart_4 rfl (by decide) fl_X12_177 (Or.inl rfl) ?_
      refine g_icmp_ge (pc := 7) X dX12_findPart_7 (tgt := 32) (by decide) (fun q5 => ?_) (fun q5 => ?_)
      · replace h := h.1 q5
        exact g_drop (by simp [lsub]) (hK s3 hR h)
      · replace h := h.2 q5
        refine g_aload_0 (pc := 10) X dX12_findPart_10 ?_
        refine g_getRf (pc := 11) X dX12_findPart_11 fl_X12_135 rfl (by decide) rfl hR rfl ?_
        refine g_iload_2 (pc := 14) X dX12_findPart_14 ?_
        refine g_iload_2 (pc := 15) X dX12_findPart_15 ?_
        refine g_iload_1 (pc := 16) X dX12_findPart_16 ?_
        replace h := h (fun x6 => G o γ 0 0 116 s3 25 [some (.ref (ad o 65)), some (.int c1), some (.int v2), none, none] [.int x6, .int v2, .ref (ad o 104)]) (by
            intro x6 h
            refine g_bastore_w (pc := 25) X dX12_findPart_25 rfl (by decide) hR h (fun s8 hR h => ?_)
            refine g_iinc_2 (pc := 26) X dX12_findPart_26 (v := v2 + nI 1) rfl (by decide) rfl ?_
            refine g_goto (pc := 29) X dX12_findPart_29 (tgt := 2) (by decide) ?_
            exact ih (v2 + nI 1) s8 hR h)
        refine g_icmp_ne (pc := 17) X dX12_findPart_17 (tgt := 24) (by decide) (fun q9 => ?_) (fun q9 => ?_)
        · replace h := h.2 q9
          refine g_iconst (pc := 24) X dX12_findPart_24 kiconst_0 ?_
          exact h
        · replace h := h.1 q9
          refine g_iconst (pc := 20) X dX12_findPart_20 kiconst_1 ?_
          refine g_goto (pc := 21) X dX12_findPart_21 (tgt := 25) (by decide) ?_
          exact h
  refine hL p0 _ (fun s11 hR h => ?_) n10 (nI 0) σ hR h
  · refine g_iconst (pc := 32) X dX12_findPart_32 kiconst_1 ?_
    refine g_istore_2 (pc := 33) X dX12_findPart_33 (by decide) rfl ?_
    obtain ⟨n45, h⟩ := h
    have hL : ∀  (K : gSt → Prop) (_ : ∀  (s14 : gSt), s14.2.2 = gRf b → K s14 → G o γ 0 0 116 s14 135 [some (.ref (ad o 65)), none, none, none, none] []) (n : Nat) (v12 : Int32) (s13 : gSt), s13.2.2 = gRf b → L_X12_findPart_34 Q K n v12 s13 → G o γ 0 0 116 s13 34 [some (.ref (ad o 65)), none, some (.int v12), none, none] [] := by
      intro K hK n
      induction n with
      | zero => intro v12 s13 hR h; exact False.elim h
      | succ n ih =>
        intro v12 s13 hR h
        rw [L_X12_findPart_34] at h
        refine g_iload_2 (pc := 34) X dX12_findPart_34 ?_
        refine g_if_eq (pc := 35) X dX12_findPart_35 (tgt := 135) (by decide) (fun q15 => ?_) (fun q15 => ?_)
        · replace h := h.1 q15
          exact g_drop (by simp [lsub]) (hK s13 hR h)
        · replace h := h.2 q15
          refine g_iconst (pc := 38) X dX12_findPart_38 kiconst_0 ?_
          refine g_istore_2 (pc := 39) X dX12_findPart_39 (by decide) rfl ?_
          refine g_iconst (pc := 40) X dX12_findPart_40 kiconst_0 ?_
          refine g_istore_3 (pc := 41) X dX12_findPart_41 (by decide) rfl ?_
          obtain ⟨n42, h⟩ := h
          have hL : ∀  (K : Int32 → gSt → Prop) (_ : ∀ (y19 : Int32) (s20 : gSt), s20.2.2 = gRf b → K y19 s20 → G o γ 0 0 116 s20 132 [some (.ref (ad o 65)), none, some (.int y19), none, none] []) (n : Nat) (v16 : Int32) (v17 : Int32) (s18 : gSt), s18.2.2 = gRf b → L_X12_findPart_42 Q K n v16 v17 s18 → G o γ 0 0 116 s18 42 [some (.ref (ad o 65)), none, some (.int v16), some (.int v17), none] [] := by
            intro K hK n
            induction n with
            | zero => intro v16 v17 s18 hR h; exact False.elim h
            | succ n ih =>
              intro v16 v17 s18 hR h
              rw [L_X12_findPart_42] at h
              refine g_iload_3 (pc := 42) X dX12_findPart_42 ?_
              refine g_aload_0 (pc := 43) X dX12_findPart_43 ?_
              refine g_getI (pc := 44) X dX12_findPart_44 rfl (by decide) fl_X12_177 (Or.inl rfl) ?_
              refine g_icmp_ge (pc := 47) X dX12_findPart_47 (tgt := 132) (by decide) (fun q21 => ?_) (fun q21 => ?_)
              · replace h := h.1 q21
                exact g_drop (by simp [lsub]) (hK v16 s18 hR h)
              · replace h := h.2 q21
                refine g_iconst (pc := 50) X dX12_findPart_50 kiconst_0 ?_
                refine g_istore_4 (pc := 51) X dX12_findPart_51 (by decide) rfl ?_
                obtain ⟨n39, h⟩ := h
                have hL : ∀ (c22 : Int32) (K : Int32 → gSt → Prop) (_ : ∀ (y26 : Int32) (s27 : gSt), s27.2.2 = gRf b → K y26 s27 → G o γ 0 0 116 s27 126 [some (.ref (ad o 65)), none, some (.int y26), some (.int c22), none] []) (n : Nat) (v23 : Int32) (v24 : Int32) (s25 : gSt), s25.2.2 = gRf b → L_X12_findPart_53 Q c22 K n v23 v24 s25 → G o γ 0 0 116 s25 53 [some (.ref (ad o 65)), none, some (.int v23), some (.int c22), some (.int v24)] [] := by
                  intro c22 K hK n
                  induction n with
                  | zero => intro v23 v24 s25 hR h; exact False.elim h
                  | succ n ih =>
                    intro v23 v24 s25 hR h
                    rw [L_X12_findPart_53] at h
                    refine g_iload_4 (pc := 53) X dX12_findPart_53 ?_
                    refine g_aload_0 (pc := 55) X dX12_findPart_55 ?_
                    refine g_getI (pc := 56) X dX12_findPart_56 rfl (by decide) fl_X12_177 (Or.inl rfl) ?_
                    refine g_icmp_ge (pc := 59) X dX12_findPart_59 (tgt := 126) (by decide) (fun q28 => ?_) (fun q28 => ?_)
                    · replace h := h.1 q28
                      exact g_drop (by simp [lsub]) (hK v23 s25 hR h)
                    · replace h := h.2 q28
                      refine g_aload_0 (pc := 62) X dX12_findPart_62 ?_
                      refine g_getRf (pc := 63) X dX12_findPart_63 fl_X12_135 rfl (by decide) rfl hR rfl ?_
                      refine g_iload_3 (pc := 66) X dX12_findPart_66 ?_
                      refine g_baload_w (pc := 67) X dX12_findPart_67 rfl (by decide) h (fun x29 h => ?_)
                      refine g_if_eq (pc := 68) X dX12_findPart_68 (tgt := 126) (by decide) (fun q30 => ?_) (fun q30 => ?_)
                      · replace h := h.1 q30
                        exact g_drop (by simp [lsub]) (hK v23 s25 hR h)
                      · replace h := h.2 q30
                        refine g_iload_3 (pc := 71) X dX12_findPart_71 ?_
                        refine g_iload_4 (pc := 72) X dX12_findPart_72 ?_
                        refine g_icmp_eq (pc := 74) X dX12_findPart_74 (tgt := 120) (by decide) (fun q31 => ?_) (fun q31 => ?_)
                        · replace h := h.1 q31
                          refine g_iinc_4 (pc := 120) X dX12_findPart_120 (v := v24 + nI 1) rfl (by decide) rfl ?_
                          refine g_goto (pc := 123) X dX12_findPart_123 (tgt := 53) (by decide) ?_
                          exact ih v23 (v24 + nI 1) s25 hR h
                        · replace h := h.2 q31
                          refine g_aload_0 (pc := 77) X dX12_findPart_77 ?_
                          refine g_getRf (pc := 78) X dX12_findPart_78 fl_X12_135 rfl (by decide) rfl hR rfl ?_
                          refine g_iload_4 (pc := 81) X dX12_findPart_81 ?_
                          refine g_baload_w (pc := 83) X dX12_findPart_83 rfl (by decide) h (fun x32 h => ?_)
                          refine g_if_ne (pc := 84) X dX12_findPart_84 (tgt := 120) (by decide) (fun q33 => ?_) (fun q33 => ?_)
                          · replace h := h.2 q33
                            refine g_iinc_4 (pc := 120) X dX12_findPart_120 (v := v24 + nI 1) rfl (by decide) rfl ?_
                            refine g_goto (pc := 123) X dX12_findPart_123 (tgt := 53) (by decide) ?_
                            exact ih v23 (v24 + nI 1) s25 hR h
                          · replace h := h.1 q33
                            refine g_aload_0 (pc := 87) X dX12_findPart_87 ?_
                            refine g_getRf (pc := 88) X dX12_findPart_88 fl_X12_132 rfl (by decide) rfl hR rfl ?_
                            refine g_iload_4 (pc := 91) X dX12_findPart_91 ?_
                            refine g_baload_w (pc := 93) X dX12_findPart_93 rfl (by decide) h (fun x34 h => ?_)
                            refine g_if_eq (pc := 94) X dX12_findPart_94 (tgt := 120) (by decide) (fun q35 => ?_) (fun q35 => ?_)
                            · replace h := h.1 q35
                              refine g_iinc_4 (pc := 120) X dX12_findPart_120 (v := v24 + nI 1) rfl (by decide) rfl ?_
                              refine g_goto (pc := 123) X dX12_findPart_123 (tgt := 53) (by decide) ?_
                              exact ih v23 (v24 + nI 1) s25 hR h
                            · replace h := h.2 q35
                              refine g_aload_0 (pc := 97) X dX12_findPart_97 ?_
                              refine g_iload_3 (pc := 98) X dX12_findPart_98 ?_
                              refine g_iload_4 (pc := 99) X dX12_findPart_99 ?_
                              refine g_callV_I (pc := 101) X Y dX12_findPart_101 miX12_hang li_X12_474 (t_X12_hang hR  h) rfl (by decide) rfl ⟨_, rfl⟩ rfl ⟨Nat.le_of_ble_eq_true rfl, Nat.le_of_ble_eq_true rfl⟩ (Nat.le_of_ble_eq_true rfl) (Nat.le_of_ble_eq_true rfl) rfl (by exact Nat.le_of_ble_eq_true rfl) (fun x36 σ9 hp => ?_)
                              obtain ⟨rfl, h⟩ := hp
                              refine g_if_ne (pc := 104) X dX12_findPart_104 (tgt := 110) (by decide) (fun q37 => ?_) (fun q37 => ?_)
                              · replace h := h.2 q37
                                refine g_aload_0 (pc := 110) X dX12_findPart_110 ?_
                                refine g_getRf (pc := 111) X dX12_findPart_111 fl_X12_135 rfl (by decide) rfl hR rfl ?_
                                refine g_iload_4 (pc := 114) X dX12_findPart_114 ?_
                                refine g_iconst (pc := 116) X dX12_findPart_116 kiconst_1 ?_
                                refine g_bastore_w (pc := 117) X dX12_findPart_117 rfl (by decide) hR h (fun s38 hR h => ?_)
                                refine g_iconst (pc := 118) X dX12_findPart_118 kiconst_1 ?_
                                refine g_istore_2 (pc := 119) X dX12_findPart_119 (by decide) rfl ?_
                                refine g_iinc_4 (pc := 120) X dX12_findPart_120 (v := v24 + nI 1) rfl (by decide) rfl ?_
                                refine g_goto (pc := 123) X dX12_findPart_123 (tgt := 53) (by decide) ?_
                                exact ih (nI 1) (v24 + nI 1) s38 hR h
                              · replace h := h.1 q37
                                refine g_goto (pc := 107) X dX12_findPart_107 (tgt := 120) (by decide) ?_
                                refine g_iinc_4 (pc := 120) X dX12_findPart_120 (v := v24 + nI 1) rfl (by decide) rfl ?_
                                refine g_goto (pc := 123) X dX12_findPart_123 (tgt := 53) (by decide) ?_
                                exact ih v23 (v24 + nI 1) s25 hR h
                refine hL v17 _ (fun y40 s41 hR h => ?_) n39 v16 (nI 0) s18 hR h
                · refine g_iinc_3 (pc := 126) X dX12_findPart_126 (v := v17 + nI 1) rfl (by decide) rfl ?_
                  refine g_goto (pc := 129) X dX12_findPart_129 (tgt := 42) (by decide) ?_
                  exact ih y40 (v17 + nI 1) s41 hR h
          refine hL  _ (fun y43 s44 hR h => ?_) n42 (nI 0) (nI 0) s13 hR h
          · refine g_goto (pc := 132) X dX12_findPart_132 (tgt := 34) (by decide) ?_
            exact ih y43 s44 hR h
    refine g_drop (by simp [lsub]) (hL  _ (fun s46 hR h => ?_) n45 (nI 1) s11 hR h)
    · refine g_aload_0 (pc := 135) X dX12_findPart_135 ?_
      refine g_iconst (pc := 136) X dX12_findPart_136 kiconst_0 ?_
      refine g_putI_w (pc := 137) X dX12_findPart_137 fl_X12_194 rfl (by decide) rfl rfl hR h (fun s47 hR h => ?_)
      refine g_iconst (pc := 140) X dX12_findPart_140 kiconst_0 ?_
      refine g_istore_3 (pc := 141) X dX12_findPart_141 (by decide) rfl ?_
      obtain ⟨n56, h⟩ := h
      have hL : ∀  (K : gSt → Prop) (_ : ∀  (s50 : gSt), s50.2.2 = gRf b → K s50 → G o γ 0 0 116 s50 188 [some (.ref (ad o 65)), none, none, none, none] []) (n : Nat) (v48 : Int32) (s49 : gSt), s49.2.2 = gRf b → L_X12_findPart_142 Q K n v48 s49 → G o γ 0 0 116 s49 142 [some (.ref (ad o 65)), none, none, some (.int v48), none] [] := by
        intro K hK n
        induction n with
        | zero => intro v48 s49 hR h; exact False.elim h
        | succ n ih =>
          intro v48 s49 hR h
          rw [L_X12_findPart_142] at h
          refine g_iload_3 (pc := 142) X dX12_findPart_142 ?_
          refine g_aload_0 (pc := 143) X dX12_findPart_143 ?_
          refine g_getI (pc := 144) X dX12_findPart_144 rfl (by decide) fl_X12_177 (Or.inl rfl) ?_
          refine g_icmp_ge (pc := 147) X dX12_findPart_147 (tgt := 188) (by decide) (fun q51 => ?_) (fun q51 => ?_)
          · replace h := h.1 q51
            exact g_drop (by simp [lsub]) (hK s49 hR h)
          · replace h := h.2 q51
            refine g_aload_0 (pc := 150) X dX12_findPart_150 ?_
            refine g_getRf (pc := 151) X dX12_findPart_151 fl_X12_135 rfl (by decide) rfl hR rfl ?_
            refine g_iload_3 (pc := 154) X dX12_findPart_154 ?_
            refine g_baload_w (pc := 155) X dX12_findPart_155 rfl (by decide) h (fun x52 h => ?_)
            refine g_if_ne (pc := 156) X dX12_findPart_156 (tgt := 162) (by decide) (fun q53 => ?_) (fun q53 => ?_)
            · replace h := h.2 q53
              refine g_aload_0 (pc := 162) X dX12_findPart_162 ?_
              refine g_getRf (pc := 163) X dX12_findPart_163 fl_X12_138 rfl (by decide) rfl hR rfl ?_
              refine g_aload_0 (pc := 166) X dX12_findPart_166 ?_
              refine g_getI (pc := 167) X dX12_findPart_167 rfl (by decide) fl_X12_194 (Or.inl rfl) ?_
              refine g_iload_3 (pc := 170) X dX12_findPart_170 ?_
              refine g_iastore_w (pc := 171) X dX12_findPart_171 rfl (by decide) hR h (fun s54 hR h => ?_)
              refine g_aload_0 (pc := 172) X dX12_findPart_172 ?_
              refine g_dup (pc := 173) X dX12_findPart_173 rfl ?_
              refine g_getI (pc := 174) X dX12_findPart_174 rfl (by decide) fl_X12_194 (Or.inl rfl) ?_
              refine g_iconst (pc := 177) X dX12_findPart_177 kiconst_1 ?_
              refine g_iadd (pc := 178) X dX12_findPart_178 ?_
              refine g_putI_w (pc := 179) X dX12_findPart_179 fl_X12_194 rfl (by decide) rfl rfl hR h (fun s55 hR h => ?_)
              refine g_iinc_3 (pc := 182) X dX12_findPart_182 (v := v48 + nI 1) rfl (by decide) rfl ?_
              refine g_goto (pc := 185) X dX12_findPart_185 (tgt := 142) (by decide) ?_
              exact ih (v48 + nI 1) s55 hR h
            · replace h := h.1 q53
              refine g_goto (pc := 159) X dX12_findPart_159 (tgt := 182) (by decide) ?_
              refine g_iinc_3 (pc := 182) X dX12_findPart_182 (v := v48 + nI 1) rfl (by decide) rfl ?_
              refine g_goto (pc := 185) X dX12_findPart_185 (tgt := 142) (by decide) ?_
              exact ih (v48 + nI 1) s49 hR h
      refine hL  _ (fun s57 hR h => ?_) n56 (nI 0) s47 hR h
      · exact g_return (pc := 188) X Y dX12_findPart_188 (Nat.le_of_ble_eq_true rfl) (Nat.le_of_ble_eq_true rfl) ⟨rfl, hR, h⟩
def W_X12_of (p0 : Int32) (p1 : Int32) (Q : Int32 → gSt → Prop) (σ : gSt) : Prop := fI σ 65 0 (nI 0) (fun s1 => W_X12_isEntry p0 (fun x2 s3 => ((x2 = 0 → (Q (nI 0) s3)) ∧ (¬ x2 = 0 → (W_X12_within p1 (nI 0) (nI 7) (fun x5 => W_X12_may x5 (nI 2) (fun x6 s7 => ((x6 = 0 → (Q (nI 0) s7)) ∧ (¬ x6 = 0 → (((p1 = nI 0 → (rI s7 66 30 p0 (fun x10 => Q x10 s7))) ∧ (¬ p1 = nI 0 → ((p1 = nI 1 → (rI s7 67 30 p0 (fun x12 => Q x12 s7))) ∧ (¬ p1 = nI 1 → ((p1 = nI 2 → (rI s7 68 30 p0 (fun x14 => Q x14 s7))) ∧ (¬ p1 = nI 2 → ((p1 = nI 3 → (rI s7 69 30 p0 (fun x16 => Q x16 s7))) ∧ (¬ p1 = nI 3 → ((p1 = nI 4 → (rI s7 70 30 p0 (fun x18 => Q x18 s7))) ∧ (¬ p1 = nI 4 → ((p1 = nI 5 → (rI s7 71 30 p0 (fun x20 => Q x20 s7))) ∧ (¬ p1 = nI 5 → W_X12_everyone (fun s21 => W_X12_findPart p0 (fun s22 => ((p1 = (nI 6) → (rI s22 105 30 (nI 0) (fun x24 => Q x24 s22))) ∧ (¬ p1 = (nI 6) → (Q (s22.1 65 64) s22)))) s21) s7)))))))))))))))) s3) s3)))) s1)
set_option maxHeartbeats 4000000 in
theorem t_X12_of {o : gOm} {l : Launch} {b : Bool}   {σ : gSt} (hR : σ.2.2 = gRf b) {p0 : Int32} {p1 : Int32} {Q : Int32 → gSt → Prop} (h : W_X12_of p0 p1 Q σ) : Sp o l mX12_of 9 0 0 [.ref (ad o 65), .int p0, .int p1] 116 116 σ (pI (fun x s => s.2.2 = gRf b ∧ Q x s)) := by
  unfold W_X12_of at h
  refine Sp.of (ls0 := [some (.ref (ad o 65)), some (.int p0), some (.int p1)]) miX12_of rfl (Nat.le_of_ble_eq_true rfl) rfl (fun γ hγ hnm X Y => ?_)
  subst hγ
  have X : gX o γ cX12_of 3 RX12 := X
  refine g_aload_0 (pc := 0) X dX12_of_0 ?_
  refine g_iconst (pc := 1) X dX12_of_1 kiconst_0 ?_
  refine g_putI_w (pc := 2) X dX12_of_2 fl_X12_1 rfl (by decide) rfl rfl hR h (fun s1 hR h => ?_)
  refine g_aload_0 (pc := 5) X dX12_of_5 ?_
  refine g_iload_1 (pc := 6) X dX12_of_6 ?_
  refine g_callV_I (pc := 7) X Y dX12_of_7 miX12_isEntry li_X12_183 (t_X12_isEntry hR  h) rfl (by decide) rfl ⟨_, rfl⟩ rfl ⟨Nat.le_of_ble_eq_true rfl, Nat.le_of_ble_eq_true rfl⟩ (Nat.le_of_ble_eq_true rfl) (Nat.le_of_ble_eq_true rfl) rfl (by exact Nat.le_of_ble_eq_true rfl) (fun x2 s3 hp => ?_)
  obtain ⟨hR, h⟩ := hp
  refine g_if_eq (pc := 10) X dX12_of_10 (tgt := 28) (by decide) (fun q4 => ?_) (fun q4 => ?_)
  · replace h := h.1 q4
    refine g_iconst (pc := 28) X dX12_of_28 kiconst_0 ?_
    exact g_ireturn (pc := 29) X Y dX12_of_29 (Nat.le_of_ble_eq_true rfl) (Nat.le_of_ble_eq_true rfl) ⟨_, rfl, hR, h⟩
  · replace h := h.2 q4
    refine g_aload_0 (pc := 13) X dX12_of_13 ?_
    refine g_iload_2 (pc := 14) X dX12_of_14 ?_
    refine g_iconst (pc := 15) X dX12_of_15 kiconst_0 ?_
    refine g_bipush (pc := 16) X dX12_of_16 kbipush_7 ?_
    refine g_callS_I (pc := 18) X Y dX12_of_18 miX12_within li_X12_169 (t_X12_within hR  h) rfl ⟨Nat.le_of_ble_eq_true rfl, Nat.le_of_ble_eq_true rfl⟩ (Nat.le_of_ble_eq_true rfl) (Nat.le_of_ble_eq_true rfl) rfl (by exact Nat.le_of_ble_eq_true rfl) (fun x5 σ9 hp => ?_)
    obtain ⟨rfl, h⟩ := hp
    refine g_iconst (pc := 21) X dX12_of_21 kiconst_2 ?_
    refine g_callV_I (pc := 22) X Y dX12_of_22 miX12_may li_X12_173 (t_X12_may hR  h) rfl (by decide) rfl ⟨_, rfl⟩ rfl ⟨Nat.le_of_ble_eq_true rfl, Nat.le_of_ble_eq_true rfl⟩ (Nat.le_of_ble_eq_true rfl) (Nat.le_of_ble_eq_true rfl) rfl (by exact Nat.le_of_ble_eq_true rfl) (fun x6 s7 hp => ?_)
    obtain ⟨hR, h⟩ := hp
    refine g_if_ne (pc := 25) X dX12_of_25 (tgt := 30) (by decide) (fun q8 => ?_) (fun q8 => ?_)
    · replace h := h.2 q8
      refine g_iload_2 (pc := 30) X dX12_of_30 ?_
      by_cases q9 : p1 = nI 0
      · replace h := h.1 q9
        refine g_tableIn (pc := 31) X dX12_of_31 (tgt := 68) (by rw [q9]; decide) (by rw [q9]; decide) (by rw [q9]; rfl) (by decide) ?_
        refine g_aload_0 (pc := 68) X dX12_of_68 ?_
        refine g_getRf (pc := 69) X dX12_of_69 fl_X12_13 rfl (by decide) rfl hR rfl ?_
        refine g_iload_1 (pc := 72) X dX12_of_72 ?_
        refine g_iaload_w (pc := 73) X dX12_of_73 rfl (by decide) h (fun x10 h => ?_)
        exact g_ireturn (pc := 74) X Y dX12_of_74 (Nat.le_of_ble_eq_true rfl) (Nat.le_of_ble_eq_true rfl) ⟨_, rfl, hR, h⟩
      replace h := h.2 q9
      by_cases q11 : p1 = nI 1
      · replace h := h.1 q11
        refine g_tableIn (pc := 31) X dX12_of_31 (tgt := 75) (by rw [q11]; decide) (by rw [q11]; decide) (by rw [q11]; rfl) (by decide) ?_
        refine g_aload_0 (pc := 75) X dX12_of_75 ?_
        refine g_getRf (pc := 76) X dX12_of_76 fl_X12_17 rfl (by decide) rfl hR rfl ?_
        refine g_iload_1 (pc := 79) X dX12_of_79 ?_
        refine g_iaload_w (pc := 80) X dX12_of_80 rfl (by decide) h (fun x12 h => ?_)
        exact g_ireturn (pc := 81) X Y dX12_of_81 (Nat.le_of_ble_eq_true rfl) (Nat.le_of_ble_eq_true rfl) ⟨_, rfl, hR, h⟩
      replace h := h.2 q11
      by_cases q13 : p1 = nI 2
      · replace h := h.1 q13
        refine g_tableIn (pc := 31) X dX12_of_31 (tgt := 82) (by rw [q13]; decide) (by rw [q13]; decide) (by rw [q13]; rfl) (by decide) ?_
        refine g_aload_0 (pc := 82) X dX12_of_82 ?_
        refine g_getRf (pc := 83) X dX12_of_83 fl_X12_20 rfl (by decide) rfl hR rfl ?_
        refine g_iload_1 (pc := 86) X dX12_of_86 ?_
        refine g_iaload_w (pc := 87) X dX12_of_87 rfl (by decide) h (fun x14 h => ?_)
        exact g_ireturn (pc := 88) X Y dX12_of_88 (Nat.le_of_ble_eq_true rfl) (Nat.le_of_ble_eq_true rfl) ⟨_, rfl, hR, h⟩
      replace h := h.2 q13
      by_cases q15 : p1 = nI 3
      · replace h := h.1 q15
        refine g_tableIn (pc := 31) X dX12_of_31 (tgt := 89) (by rw [q15]; decide) (by rw [q15]; decide) (by rw [q15]; rfl) (by decide) ?_
        refine g_aload_0 (pc := 89) X dX12_of_89 ?_
        refine g_getRf (pc := 90) X dX12_of_90 fl_X12_23 rfl (by decide) rfl hR rfl ?_
        refine g_iload_1 (pc := 93) X dX12_of_93 ?_
        refine g_iaload_w (pc := 94) X dX12_of_94 rfl (by decide) h (fun x16 h => ?_)
        exact g_ireturn (pc := 95) X Y dX12_of_95 (Nat.le_of_ble_eq_true rfl) (Nat.le_of_ble_eq_true rfl) ⟨_, rfl, hR, h⟩
      replace h := h.2 q15
      by_cases q17 : p1 = nI 4
      · replace h := h.1 q17
        refine g_tableIn (pc := 31) X dX12_of_31 (tgt := 96) (by rw [q17]; decide) (by rw [q17]; decide) (by rw [q17]; rfl) (by decide) ?_
        refine g_aload_0 (pc := 96) X dX12_of_96 ?_
        refine g_getRf (pc := 97) X dX12_of_97 fl_X12_26 rfl (by decide) rfl hR rfl ?_
        refine g_iload_1 (pc := 100) X dX12_of_100 ?_
        refine g_iaload_w (pc := 101) X dX12_of_101 rfl (by decide) h (fun x18 h => ?_)
        exact g_ireturn (pc := 102) X Y dX12_of_102 (Nat.le_of_ble_eq_true rfl) (Nat.le_of_ble_eq_true rfl) ⟨_, rfl, hR, h⟩
      replace h := h.2 q17
      by_cases q19 : p1 = nI 5
      · replace h := h.1 q19
        refine g_tableIn (pc := 31) X dX12_of_31 (tgt := 103) (by rw [q19]; decide) (by rw [q19]; decide) (by rw [q19]; rfl) (by decide) ?_
        refine g_aload_0 (pc := 103) X dX12_of_103 ?_
        refine g_getRf (pc := 104) X dX12_of_104 fl_X12_29 rfl (by decide) rfl hR rfl ?_
        refine g_iload_1 (pc := 107) X dX12_of_107 ?_
        refine g_iaload_w (pc := 108) X dX12_of_108 rfl (by decide) h (fun x20 h => ?_)
        exact g_ireturn (pc := 109) X Y dX12_of_109 (Nat.le_of_ble_eq_true rfl) (Nat.le_of_ble_eq_true rfl) ⟨_, rfl, hR, h⟩
      replace h := h.2 q19
      refine g_tableOut (pc := 31) X dX12_of_31 (tgt := 110) (tsw_out (lo := 0) (m := 6) (by decide) (fun i hi => ?_)) (by decide) ?_
      · have hi : i = 0 ∨ i = 1 ∨ i = 2 ∨ i = 3 ∨ i = 4 ∨ i = 5 := by omega
        rcases hi with rfl | rfl | rfl | rfl | rfl | rfl
        · exact q9
        · exact q11
        · exact q13
        · exact q15
        · exact q17
        · exact q19
      refine g_aload_0 (pc := 110) X dX12_of_110 ?_
      refine g_callV_V (pc := 111) X Y dX12_of_111 miX12_everyone li_X12_187 (t_X12_everyone hR  h) rfl (by decide) rfl ⟨_, rfl⟩ rfl ⟨Nat.le_of_ble_eq_true rfl, Nat.le_of_ble_eq_true rfl⟩ (Nat.le_of_ble_eq_true rfl) (Nat.le_of_ble_eq_true rfl) rfl (by exact Nat.le_of_ble_eq_true rfl) (fun s21 hp => ?_)
      obtain ⟨hR, h⟩ := hp
      refine g_aload_0 (pc := 114) X dX12_of_114 ?_
      refine g_iload_1 (pc := 115) X dX12_of_115 ?_
      refine g_callV_V (pc := 116) X Y dX12_of_116 miX12_findPart li_X12_190 (t_X12_findPart hR  h) rfl (by decide) rfl ⟨_, rfl⟩ rfl ⟨Nat.le_of_ble_eq_true rfl, Nat.le_of_ble_eq_true rfl⟩ (Nat.le_of_ble_eq_true rfl) (Nat.le_of_ble_eq_true rfl) rfl (by exact Nat.le_of_ble_eq_true rfl) (fun s22 hp => ?_)
      obtain ⟨hR, h⟩ := hp
      refine g_iload_2 (pc := 119) X dX12_of_119 ?_
      refine g_bipush (pc := 120) X dX12_of_120 kbipush_6 ?_
      refine g_icmp_ne (pc := 122) X dX12_of_122 (tgt := 134) (by decide) (fun q23 => ?_) (fun q23 => ?_)
      · replace h := h.2 q23
        refine g_aload_0 (pc := 134) X dX12_of_134 ?_
        refine g_getI (pc := 135) X dX12_of_135 rfl (by decide) fl_X12_194 (Or.inl rfl) ?_
        exact g_ireturn (pc := 138) X Y dX12_of_138 (Nat.le_of_ble_eq_true rfl) (Nat.le_of_ble_eq_true rfl) ⟨_, rfl, hR, h⟩
      · replace h := h.1 q23
        refine g_aload_0 (pc := 125) X dX12_of_125 ?_
        refine g_getRf (pc := 126) X dX12_of_126 fl_X12_138 rfl (by decide) rfl hR rfl ?_
        refine g_iconst (pc := 129) X dX12_of_129 kiconst_0 ?_
        refine g_iaload_w (pc := 130) X dX12_of_130 rfl (by decide) h (fun x24 h => ?_)
        refine g_goto (pc := 131) X dX12_of_131 (tgt := 138) (by decide) ?_
        exact g_ireturn (pc := 138) X Y dX12_of_138 (Nat.le_of_ble_eq_true rfl) (Nat.le_of_ble_eq_true rfl) ⟨_, rfl, hR, h⟩
    · replace h := h.1 q8
      refine g_iconst (pc := 28) X dX12_of_28 kiconst_0 ?_
      exact g_ireturn (pc := 29) X Y dX12_of_29 (Nat.le_of_ble_eq_true rfl) (Nat.le_of_ble_eq_true rfl) ⟨_, rfl, hR, h⟩
def W_X12_like (p0 : Int32) (p1 : Int32) (p2 : Int32) (Q : Int32 → gSt → Prop) (σ : gSt) : Prop := fI σ 65 0 (nI 0) (fun s1 => W_X12_within p0 (nI 0) (nI 15) (fun x2 => ∀ J4 : Int32 → Prop, (∀ x3, (W_X12_may x3 (nI 1) (fun x5 s6 => ((x5 = 0 → (Q (nI 0) s6)) ∧ (¬ x5 = 0 → (((p0 = p1 → (Q ((-1 : Int32)) s6)) ∧ (¬ p0 = p1 → (rI s6 72 256 (((nI 16) * p0) + p1) (fun x9 => wI s6 72 256 (((nI 16) * p0) + p1) p2 (fun s10 => wI s10 72 256 (((nI 16) * p1) + p0) p2 (fun s11 => W_X12_untell (fun s12 => Q x9 s12) s11)))))))))) s1) → J4 x3) → ∀ J13 : Prop, ((J4 (nI 0)) → J13) → ((x2 = 0 → J13) ∧ (¬ x2 = 0 → (W_X12_within p1 (nI 0) (nI 15) (fun x15 => ((x15 = 0 → J13) ∧ (¬ x15 = 0 → (W_X12_within p2 (nI 0) (nI 100) (fun x17 => ((x17 = 0 → J13) ∧ (¬ x17 = 0 → (J4 (nI 1))))) s1)))) s1)))) s1)
set_option maxHeartbeats 4000000 in
theorem t_X12_like {o : gOm} {l : Launch} {b : Bool}   {σ : gSt} (hR : σ.2.2 = gRf b) {p0 : Int32} {p1 : Int32} {p2 : Int32} {Q : Int32 → gSt → Prop} (h : W_X12_like p0 p1 p2 Q σ) : Sp o l mX12_like 2 0 0 [.ref (ad o 65), .int p0, .int p1, .int p2] 116 116 σ (pI (fun x s => s.2.2 = gRf b ∧ Q x s)) := by
  unfold W_X12_like at h
  refine Sp.of (ls0 := [some (.ref (ad o 65)), some (.int p0), some (.int p1), some (.int p2), none]) miX12_like rfl (Nat.le_of_ble_eq_true rfl) rfl (fun γ hγ hnm X Y => ?_)
  subst hγ
  have X : gX o γ cX12_like 5 RX12 := X
  refine g_aload_0 (pc := 0) X dX12_like_0 ?_
  refine g_iconst (pc := 1) X dX12_like_1 kiconst_0 ?_
  refine g_putI_w (pc := 2) X dX12_like_2 fl_X12_1 rfl (by decide) rfl rfl hR h (fun s1 hR h => ?_)
  refine g_aload_0 (pc := 5) X dX12_like_5 ?_
  refine g_iload_1 (pc := 6) X dX12_like_6 ?_
  refine g_iconst (pc := 7) X dX12_like_7 kiconst_0 ?_
  refine g_bipush (pc := 8) X dX12_like_8 kbipush_15 ?_
  refine g_callS_I (pc := 10) X Y dX12_like_10 miX12_within li_X12_169 (t_X12_within hR  h) rfl ⟨Nat.le_of_ble_eq_true rfl, Nat.le_of_ble_eq_true rfl⟩ (Nat.le_of_ble_eq_true rfl) (Nat.le_of_ble_eq_true rfl) rfl (by exact Nat.le_of_ble_eq_true rfl) (fun x2 σ9 hp => ?_)
  obtain ⟨rfl, h⟩ := hp
  replace h := h (fun x3 => G o γ 0 0 116 s1 41 [some (.ref (ad o 65)), some (.int p0), some (.int p1), some (.int p2), none] [.int x3, .ref (ad o 65)]) (by
      intro x3 h
      refine g_iconst (pc := 41) X dX12_like_41 kiconst_1 ?_
      refine g_callV_I (pc := 42) X Y dX12_like_42 miX12_may li_X12_173 (t_X12_may hR  h) rfl (by decide) rfl ⟨_, rfl⟩ rfl ⟨Nat.le_of_ble_eq_true rfl, Nat.le_of_ble_eq_true rfl⟩ (Nat.le_of_ble_eq_true rfl) (Nat.le_of_ble_eq_true rfl) rfl (by exact Nat.le_of_ble_eq_true rfl) (fun x5 s6 hp => ?_)
      obtain ⟨hR, h⟩ := hp
      refine g_if_ne (pc := 45) X dX12_like_45 (tgt := 50) (by decide) (fun q7 => ?_) (fun q7 => ?_)
      · replace h := h.2 q7
        refine g_iload_1 (pc := 50) X dX12_like_50 ?_
        refine g_iload_2 (pc := 51) X dX12_like_51 ?_
        refine g_icmp_ne (pc := 52) X dX12_like_52 (tgt := 57) (by decide) (fun q8 => ?_) (fun q8 => ?_)
        · replace h := h.2 q8
          refine g_aload_0 (pc := 57) X dX12_like_57 ?_
          refine g_getRf (pc := 58) X dX12_like_58 fl_X12_32 rfl (by decide) rfl hR rfl ?_
          refine g_bipush (pc := 61) X dX12_like_61 kbipush_16 ?_
          refine g_iload_1 (pc := 63) X dX12_like_63 ?_
          refine g_imul (pc := 64) X dX12_like_64 ?_
          refine g_iload_2 (pc := 65) X dX12_like_65 ?_
          refine g_iadd (pc := 66) X dX12_like_66 ?_
          refine g_iaload_w (pc := 67) X dX12_like_67 rfl (by decide) h (fun x9 h => ?_)
          refine g_istore_4 (pc := 68) X dX12_like_68 (by decide) rfl ?_
          refine g_aload_0 (pc := 70) X dX12_like_70 ?_
          refine g_getRf (pc := 71) X dX12_like_71 fl_X12_32 rfl (by decide) rfl hR rfl ?_
          refine g_bipush (pc := 74) X dX12_like_74 kbipush_16 ?_
          refine g_iload_1 (pc := 76) X dX12_like_76 ?_
          refine g_imul (pc := 77) X dX12_like_77 ?_
          refine g_iload_2 (pc := 78) X dX12_like_78 ?_
          refine g_iadd (pc := 79) X dX12_like_79 ?_
          refine g_iload_3 (pc := 80) X dX12_like_80 ?_
          refine g_iastore_w (pc := 81) X dX12_like_81 rfl (by decide) hR h (fun s10 hR h => ?_)
          refine g_aload_0 (pc := 82) X dX12_like_82 ?_
          refine g_getRf (pc := 83) X dX12_like_83 fl_X12_32 rfl (by decide) rfl hR rfl ?_
          refine g_bipush (pc := 86) X dX12_like_86 kbipush_16 ?_
          refine g_iload_2 (pc := 88) X dX12_like_88 ?_
          refine g_imul (pc := 89) X dX12_like_89 ?_
          refine g_iload_1 (pc := 90) X dX12_like_90 ?_
          refine g_iadd (pc := 91) X dX12_like_91 ?_
          refine g_iload_3 (pc := 92) X dX12_like_92 ?_
          refine g_iastore_w (pc := 93) X dX12_like_93 rfl (by decide) hR h (fun s11 hR h => ?_)
          refine g_aload_0 (pc := 94) X dX12_like_94 ?_
          refine g_callV_V (pc := 95) X Y dX12_like_95 miX12_untell li_X12_180 (t_X12_untell hR  h) rfl (by decide) rfl ⟨_, rfl⟩ rfl ⟨Nat.le_of_ble_eq_true rfl, Nat.le_of_ble_eq_true rfl⟩ (Nat.le_of_ble_eq_true rfl) (Nat.le_of_ble_eq_true rfl) rfl (by exact Nat.le_of_ble_eq_true rfl) (fun s12 hp => ?_)
          obtain ⟨hR, h⟩ := hp
          refine g_iload_4 (pc := 98) X dX12_like_98 ?_
          exact g_ireturn (pc := 100) X Y dX12_like_100 (Nat.le_of_ble_eq_true rfl) (Nat.le_of_ble_eq_true rfl) ⟨_, rfl, hR, h⟩
        · replace h := h.1 q8
          refine g_iconst (pc := 55) X dX12_like_55 kiconst_m1 ?_
          exact g_ireturn (pc := 56) X Y dX12_like_56 (Nat.le_of_ble_eq_true rfl) (Nat.le_of_ble_eq_true rfl) ⟨_, rfl, hR, h⟩
      · replace h := h.1 q7
        refine g_iconst (pc := 48) X dX12_like_48 kiconst_0 ?_
        exact g_ireturn (pc := 49) X Y dX12_like_49 (Nat.le_of_ble_eq_true rfl) (Nat.le_of_ble_eq_true rfl) ⟨_, rfl, hR, h⟩)
  replace h := h (G o γ 0 0 116 s1 40 [some (.ref (ad o 65)), some (.int p0), some (.int p1), some (.int p2), none] [.ref (ad o 65)]) (by
      intro  h
      refine g_iconst (pc := 40) X dX12_like_40 kiconst_0 ?_
      exact h)
  refine g_if_eq (pc := 13) X dX12_like_13 (tgt := 40) (by decide) (fun q14 => ?_) (fun q14 => ?_)
  · replace h := h.1 q14
    exact h
  · replace h := h.2 q14
    refine g_iload_2 (pc := 16) X dX12_like_16 ?_
    refine g_iconst (pc := 17) X dX12_like_17 kiconst_0 ?_
    refine g_bipush (pc := 18) X dX12_like_18 kbipush_15 ?_
    refine g_callS_I (pc := 20) X Y dX12_like_20 miX12_within li_X12_169 (t_X12_within hR  h) rfl ⟨Nat.le_of_ble_eq_true rfl, Nat.le_of_ble_eq_true rfl⟩ (Nat.le_of_ble_eq_true rfl) (Nat.le_of_ble_eq_true rfl) rfl (by exact Nat.le_of_ble_eq_true rfl) (fun x15 σ9 hp => ?_)
    obtain ⟨rfl, h⟩ := hp
    refine g_if_eq (pc := 23) X dX12_like_23 (tgt := 40) (by decide) (fun q16 => ?_) (fun q16 => ?_)
    · replace h := h.1 q16
      exact h
    · replace h := h.2 q16
      refine g_iload_3 (pc := 26) X dX12_like_26 ?_
      refine g_iconst (pc := 27) X dX12_like_27 kiconst_0 ?_
      refine g_bipush (pc := 28) X dX12_like_28 kbipush_100 ?_
      refine g_callS_I (pc := 30) X Y dX12_like_30 miX12_within li_X12_169 (t_X12_within hR  h) rfl ⟨Nat.le_of_ble_eq_true rfl, Nat.le_of_ble_eq_true rfl⟩ (Nat.le_of_ble_eq_true rfl) (Nat.le_of_ble_eq_true rfl) rfl (by exact Nat.le_of_ble_eq_true rfl) (fun x17 σ9 hp => ?_)
      obtain ⟨rfl, h⟩ := hp
      refine g_if_eq (pc := 33) X dX12_like_33 (tgt := 40) (by decide) (fun q18 => ?_) (fun q18 => ?_)
      · replace h := h.1 q18
        exact h
      · replace h := h.2 q18
        refine g_iconst (pc := 36) X dX12_like_36 kiconst_1 ?_
        refine g_goto (pc := 37) X dX12_like_37 (tgt := 41) (by decide) ?_
        exact h
def L_X12_feed_23 (Q : Int32 → gSt → Prop) (c3 : Int32) (c4 : Int32) (c5 : Int32) (c6 : Int32) (c7 : Int32) (K : gSt → Prop) : Nat → Int32 → gSt → Prop
  | 0, _, _ => False
  | n23 + 1, v8, s9 => (((nI 20) ≤ v8 → (K s9)) ∧ (¬ (nI 20) ≤ v8 → (∀ J13 : Int32 → Prop, (∀ x12, (¬ (nI 4) = 0 ∧ wI s9 73 400 (s9.1 65 9) ((x12 >>> (((nI 24) - ((nI 8) * (v8 - v8 / (nI 4) * (nI 4)))) &&& 31)) &&& (nI 255)) (fun s14 => fI s14 65 9 ((s14.1 65 9) + (nI 1)) (fun s15 => L_X12_feed_23 Q c3 c4 c5 c6 c7 K n23 (v8 + nI 1) s15))) → J13 x12) → (((nI 4) ≤ v8 → ((((nI 8) ≤ v8 → ((((nI 12) ≤ v8 → ((((nI 16) ≤ v8 → (J13 c7)) ∧ (¬ (nI 16) ≤ v8 → (J13 c6))))) ∧ (¬ (nI 12) ≤ v8 → (J13 c5))))) ∧ (¬ (nI 8) ≤ v8 → (J13 c4))))) ∧ (¬ (nI 4) ≤ v8 → (J13 c3))))))
def W_X12_feed (p0 : Int32) (p1 : Int32) (p2 : Int32) (p3 : Int32) (p4 : Int32) (Q : Int32 → gSt → Prop) (σ : gSt) : Prop := fI σ 65 0 (nI 0) (fun s1 => ((((s1.1 65 9) + (nI 20)) ≤ (nI 400) → (∃ m23, L_X12_feed_23 Q p0 p1 p2 p3 p4 (fun s21 => Q (s21.1 65 9) s21) m23 (nI 0) s1)) ∧ (¬ ((s1.1 65 9) + (nI 20)) ≤ (nI 400) → (Q ((-1 : Int32)) s1))))
set_option maxHeartbeats 4000000 in
theorem t_X12_feed {o : gOm} {l : Launch} {b : Bool}   {σ : gSt} (hR : σ.2.2 = gRf b) {p0 : Int32} {p1 : Int32} {p2 : Int32} {p3 : Int32} {p4 : Int32} {Q : Int32 → gSt → Prop} (h : W_X12_feed p0 p1 p2 p3 p4 Q σ) : Sp o l mX12_feed 1 0 0 [.ref (ad o 65), .int p0, .int p1, .int p2, .int p3, .int p4] 116 116 σ (pI (fun x s => s.2.2 = gRf b ∧ Q x s)) := by
  unfold W_X12_feed at h
  refine Sp.of (ls0 := [some (.ref (ad o 65)), some (.int p0), some (.int p1), some (.int p2), some (.int p3), some (.int p4), none, none]) miX12_feed rfl (Nat.le_of_ble_eq_true rfl) rfl (fun γ hγ hnm X Y => ?_)
  subst hγ
  have X : gX o γ cX12_feed 8 RX12 := X
  refine g_aload_0 (pc := 0) X dX12_feed_0 ?_
  refine g_iconst (pc := 1) X dX12_feed_1 kiconst_0 ?_
  refine g_putI_w (pc := 2) X dX12_feed_2 fl_X12_1 rfl (by decide) rfl rfl hR h (fun s1 hR h => ?_)
  refine g_aload_0 (pc := 5) X dX12_feed_5 ?_
  refine g_getI (pc := 6) X dX12_feed_6 rfl (by decide) fl_X12_197 (Or.inl rfl) ?_
  refine g_bipush (pc := 9) X dX12_feed_9 kbipush_20 ?_
  refine g_iadd (pc := 11) X dX12_feed_11 ?_
  refine g_sipush (pc := 12) X dX12_feed_12 ksipush_400 ?_
  refine g_icmp_le (pc := 15) X dX12_feed_15 (tgt := 20) (by decide) (fun q2 => ?_) (fun q2 => ?_)
  · replace h := h.1 q2
    refine g_iconst (pc := 20) X dX12_feed_20 kiconst_0 ?_
    refine g_istore_6 (pc := 21) X dX12_feed_21 (by decide) rfl ?_
    obtain ⟨n20, h⟩ := h
    have hL : ∀ (c3 : Int32) (c4 : Int32) (c5 : Int32) (c6 : Int32) (c7 : Int32) (K : gSt → Prop) (_ : ∀  (s10 : gSt), s10.2.2 = gRf b → K s10 → G o γ 0 0 116 s10 120 [some (.ref (ad o 65)), some (.int c3), some (.int c4), some (.int c5), some (.int c6), some (.int c7), none, none] []) (n : Nat) (v8 : Int32) (s9 : gSt), s9.2.2 = gRf b → L_X12_feed_23 Q c3 c4 c5 c6 c7 K n v8 s9 → G o γ 0 0 116 s9 23 [some (.ref (ad o 65)), some (.int c3), some (.int c4), some (.int c5), some (.int c6), some (.int c7), some (.int v8), none] [] := by
      intro c3 c4 c5 c6 c7 K hK n
      induction n with
      | zero => intro v8 s9 hR h; exact False.elim h
      | succ n ih =>
        intro v8 s9 hR h
        rw [L_X12_feed_23] at h
        refine g_iload_6 (pc := 23) X dX12_feed_23 ?_
        refine g_bipush (pc := 25) X dX12_feed_25 kbipush_20 ?_
        refine g_icmp_ge (pc := 27) X dX12_feed_27 (tgt := 120) (by decide) (fun q11 => ?_) (fun q11 => ?_)
        · replace h := h.1 q11
          exact g_drop (by simp [lsub]) (hK s9 hR h)
        · replace h := h.2 q11
          refine g_iload_6 (pc := 30) X dX12_feed_30 ?_
          refine g_iconst (pc := 32) X dX12_feed_32 kiconst_4 ?_
          replace h := h (fun x12 => G o γ 0 0 116 s9 76 [some (.ref (ad o 65)), some (.int c3), some (.int c4), some (.int c5), some (.int c6), some (.int c7), some (.int v8), none] [.int x12]) (by
              intro x12 h
              refine g_istore_7 (pc := 76) X dX12_feed_76 (by decide) rfl ?_
              refine g_aload_0 (pc := 78) X dX12_feed_78 ?_
              refine g_getRf (pc := 79) X dX12_feed_79 fl_X12_38 rfl (by decide) rfl hR rfl ?_
              refine g_aload_0 (pc := 82) X dX12_feed_82 ?_
              refine g_getI (pc := 83) X dX12_feed_83 rfl (by decide) fl_X12_197 (Or.inl rfl) ?_
              refine g_iload_7 (pc := 86) X dX12_feed_86 ?_
              refine g_bipush (pc := 88) X dX12_feed_88 kbipush_24 ?_
              refine g_bipush (pc := 90) X dX12_feed_90 kbipush_8 ?_
              refine g_iload_6 (pc := 92) X dX12_feed_92 ?_
              refine g_iconst (pc := 94) X dX12_feed_94 kiconst_4 ?_
              obtain ⟨q, h⟩ := h
              refine g_irem (pc := 95) X dX12_feed_95 q ?_
              refine g_imul (pc := 96) X dX12_feed_96 ?_
              refine g_isub (pc := 97) X dX12_feed_97 ?_
              refine g_ishr (pc := 98) X dX12_feed_98 ?_
              refine g_sipush (pc := 99) X dX12_feed_99 ksipush_255 ?_
              refine g_iand (pc := 102) X dX12_feed_102 ?_
              refine g_iastore_w (pc := 103) X dX12_feed_103 rfl (by decide) hR h (fun s14 hR h => ?_)
              refine g_aload_0 (pc := 104) X dX12_feed_104 ?_
              refine g_dup (pc := 105) X dX12_feed_105 rfl ?_
              refine g_getI (pc := 106) X dX12_feed_106 rfl (by decide) fl_X12_197 (Or.inl rfl) ?_
              refine g_iconst (pc := 109) X dX12_feed_109 kiconst_1 ?_
              refine g_iadd (pc := 110) X dX12_feed_110 ?_
              refine g_putI_w (pc := 111) X dX12_feed_111 fl_X12_197 rfl (by decide) rfl rfl hR h (fun s15 hR h => ?_)
              refine g_iinc_6 (pc := 114) X dX12_feed_114 (v := v8 + nI 1) rfl (by decide) rfl ?_
              refine g_goto (pc := 117) X dX12_feed_117 (tgt := 23) (by decide) ?_
              exact g_drop (by simp [lsub]) (ih (v8 + nI 1) s15 hR h))
          refine g_icmp_ge (pc := 33) X dX12_feed_33 (tgt := 40) (by decide) (fun q16 => ?_) (fun q16 => ?_)
          · replace h := h.1 q16
            refine g_iload_6 (pc := 40) X dX12_feed_40 ?_
            refine g_bipush (pc := 42) X dX12_feed_42 kbipush_8 ?_
            refine g_icmp_ge (pc := 44) X dX12_feed_44 (tgt := 51) (by decide) (fun q17 => ?_) (fun q17 => ?_)
            · replace h := h.1 q17
              refine g_iload_6 (pc := 51) X dX12_feed_51 ?_
              refine g_bipush (pc := 53) X dX12_feed_53 kbipush_12 ?_
              refine g_icmp_ge (pc := 55) X dX12_feed_55 (tgt := 62) (by decide) (fun q18 => ?_) (fun q18 => ?_)
              · replace h := h.1 q18
                refine g_iload_6 (pc := 62) X dX12_feed_62 ?_
                refine g_bipush (pc := 64) X dX12_feed_64 kbipush_16 ?_
                refine g_icmp_ge (pc := 66) X dX12_feed_66 (tgt := 74) (by decide) (fun q19 => ?_) (fun q19 => ?_)
                · replace h := h.1 q19
                  refine g_iload_5 (pc := 74) X dX12_feed_74 ?_
                  exact h
                · replace h := h.2 q19
                  refine g_iload_4 (pc := 69) X dX12_feed_69 ?_
                  refine g_goto (pc := 71) X dX12_feed_71 (tgt := 76) (by decide) ?_
                  exact h
              · replace h := h.2 q18
                refine g_iload_3 (pc := 58) X dX12_feed_58 ?_
                refine g_goto (pc := 59) X dX12_feed_59 (tgt := 76) (by decide) ?_
                exact h
            · replace h := h.2 q17
              refine g_iload_2 (pc := 47) X dX12_feed_47 ?_
              refine g_goto (pc := 48) X dX12_feed_48 (tgt := 76) (by decide) ?_
              exact h
          · replace h := h.2 q16
            refine g_iload_1 (pc := 36) X dX12_feed_36 ?_
            refine g_goto (pc := 37) X dX12_feed_37 (tgt := 76) (by decide) ?_
            exact h
    refine hL p0 p1 p2 p3 p4 _ (fun s21 hR h => ?_) n20 (nI 0) s1 hR h
    · refine g_aload_0 (pc := 120) X dX12_feed_120 ?_
      refine g_getI (pc := 121) X dX12_feed_121 rfl (by decide) fl_X12_197 (Or.inl rfl) ?_
      exact g_ireturn (pc := 124) X Y dX12_feed_124 (Nat.le_of_ble_eq_true rfl) (Nat.le_of_ble_eq_true rfl) ⟨_, rfl, hR, h⟩
  · replace h := h.2 q2
    refine g_iconst (pc := 18) X dX12_feed_18 kiconst_m1 ?_
    exact g_ireturn (pc := 19) X Y dX12_feed_19 (Nat.le_of_ble_eq_true rfl) (Nat.le_of_ble_eq_true rfl) ⟨_, rfl, hR, h⟩
def W_X12_fine  (Q : Int32 → Prop) (σ : gSt) : Prop := (((σ.1 65 12) = ((-1 : Int32)) → (Q (nI 1))) ∧ (¬ (σ.1 65 12) = ((-1 : Int32)) → (Q (nI 0))))
set_option maxHeartbeats 4000000 in
theorem t_X12_fine {o : gOm} {l : Launch} {b : Bool}   {σ : gSt} (hR : σ.2.2 = gRf b)  {Q : Int32 → Prop} (h : W_X12_fine  Q σ) : Sp o l mX12_fine 1 0 0 [.ref (ad o 65)] 116 116 σ (pI (fun x s => σ = s ∧ Q x)) := by
  unfold W_X12_fine at h
  refine Sp.of (ls0 := [some (.ref (ad o 65))]) miX12_fine rfl (Nat.le_of_ble_eq_true rfl) rfl (fun γ hγ hnm X Y => ?_)
  subst hγ
  have X : gX o γ cX12_fine 1 RX12 := X
  refine g_aload_0 (pc := 0) X dX12_fine_0 ?_
  refine g_getI (pc := 1) X dX12_fine_1 rfl (by decide) fl_X12_200 (Or.inl rfl) ?_
  refine g_iconst (pc := 4) X dX12_fine_4 kiconst_m1 ?_
  refine g_icmp_ne (pc := 5) X dX12_fine_5 (tgt := 12) (by decide) (fun q1 => ?_) (fun q1 => ?_)
  · replace h := h.2 q1
    refine g_iconst (pc := 12) X dX12_fine_12 kiconst_0 ?_
    exact g_zreturn (pc := 13) X Y dX12_fine_13 (by first | exact Or.inl rfl | exact Or.inr rfl) (Nat.le_of_ble_eq_true rfl) (Nat.le_of_ble_eq_true rfl) ⟨_, rfl, rfl, h⟩
  · replace h := h.1 q1
    refine g_iconst (pc := 8) X dX12_fine_8 kiconst_1 ?_
    refine g_goto (pc := 9) X dX12_fine_9 (tgt := 13) (by decide) ?_
    exact g_zreturn (pc := 13) X Y dX12_fine_13 (by first | exact Or.inl rfl | exact Or.inr rfl) (Nat.le_of_ble_eq_true rfl) (Nat.le_of_ble_eq_true rfl) ⟨_, rfl, rfl, h⟩
def W_X12_wrong (p0 : Int32) (p1 : Int32) (Q : gSt → Prop) (σ : gSt) : Prop := (((σ.1 65 12) = ((-1 : Int32)) → (fI σ 65 12 p1 (fun s2 => fI s2 65 13 p0 (fun s3 => Q s3)))) ∧ (¬ (σ.1 65 12) = ((-1 : Int32)) → (Q σ)))
set_option maxHeartbeats 4000000 in
theorem t_X12_wrong {o : gOm} {l : Launch} {b : Bool}   {σ : gSt} (hR : σ.2.2 = gRf b) {p0 : Int32} {p1 : Int32} {Q : gSt → Prop} (h : W_X12_wrong p0 p1 Q σ) : Sp o l mX12_wrong 1 0 0 [.ref (ad o 65), .int p0, .int p1] 116 116 σ (pV (fun s => s.2.2 = gRf b ∧ Q s)) := by
  unfold W_X12_wrong at h
  refine Sp.of (ls0 := [some (.ref (ad o 65)), some (.int p0), some (.int p1)]) miX12_wrong rfl (Nat.le_of_ble_eq_true rfl) rfl (fun γ hγ hnm X Y => ?_)
  subst hγ
  have X : gX o γ cX12_wrong 3 RX12 := X
  refine g_aload_0 (pc := 0) X dX12_wrong_0 ?_
  refine g_getI (pc := 1) X dX12_wrong_1 rfl (by decide) fl_X12_200 (Or.inl rfl) ?_
  refine g_iconst (pc := 4) X dX12_wrong_4 kiconst_m1 ?_
  refine g_icmp_eq (pc := 5) X dX12_wrong_5 (tgt := 9) (by decide) (fun q1 => ?_) (fun q1 => ?_)
  · replace h := h.1 q1
    refine g_aload_0 (pc := 9) X dX12_wrong_9 ?_
    refine g_iload_2 (pc := 10) X dX12_wrong_10 ?_
    refine g_putI_w (pc := 11) X dX12_wrong_11 fl_X12_200 rfl (by decide) rfl rfl hR h (fun s2 hR h => ?_)
    refine g_aload_0 (pc := 14) X dX12_wrong_14 ?_
    refine g_iload_1 (pc := 15) X dX12_wrong_15 ?_
    refine g_putI_w (pc := 16) X dX12_wrong_16 fl_X12_203 rfl (by decide) rfl rfl hR h (fun s3 hR h => ?_)
    exact g_return (pc := 19) X Y dX12_wrong_19 (Nat.le_of_ble_eq_true rfl) (Nat.le_of_ble_eq_true rfl) ⟨rfl, hR, h⟩
  · replace h := h.2 q1
    exact g_return (pc := 8) X Y dX12_wrong_8 (Nat.le_of_ble_eq_true rfl) (Nat.le_of_ble_eq_true rfl) ⟨rfl, hR, h⟩
def L_X12_here_0 (Q : Int32 → gSt → Prop)  (K : gSt → Prop) : Nat → gSt → Prop
  | 0, _ => False
  | n0 + 1, s1 => (((s1.1 65 10) ≤ (s1.1 65 11) → (K s1)) ∧ (¬ (s1.1 65 10) ≤ (s1.1 65 11) → (rI s1 73 400 (s1.1 65 11) (fun x4 => ((x4 = (nI 32) → (fI s1 65 11 ((s1.1 65 11) + (nI 1)) (fun s6 => L_X12_here_0 Q K n0 s6))) ∧ (¬ x4 = (nI 32) → (K s1)))))))
def W_X12_here  (Q : Int32 → gSt → Prop) (σ : gSt) : Prop := ∃ m0, L_X12_here_0 Q (fun s8 => (((s8.1 65 10) ≤ (s8.1 65 11) → (Q (nI 0) s8)) ∧ (¬ (s8.1 65 10) ≤ (s8.1 65 11) → (rI s8 73 400 (s8.1 65 11) (fun x10 => Q x10 s8))))) m0 σ
set_option maxHeartbeats 4000000 in
theorem t_X12_here {o : gOm} {l : Launch} {b : Bool}   {σ : gSt} (hR : σ.2.2 = gRf b)  {Q : Int32 → gSt → Prop} (h : W_X12_here  Q σ) : Sp o l mX12_here 1 0 0 [.ref (ad o 65)] 116 116 σ (pI (fun x s => s.2.2 = gRf b ∧ Q x s)) := by
  unfold W_X12_here at h
  refine Sp.of (ls0 := [some (.ref (ad o 65))]) miX12_here rfl (Nat.le_of_ble_eq_true rfl) rfl (fun γ hγ hnm X Y => ?_)
  subst hγ
  have X : gX o γ cX12_here 1 RX12 := X
  obtain ⟨n7, h⟩ := h
  have hL : ∀  (K : gSt → Prop) (_ : ∀  (s2 : gSt), s2.2.2 = gRf b → K s2 → G o γ 0 0 116 s2 38 [some (.ref (ad o 65))] []) (n : Nat)  (s1 : gSt), s1.2.2 = gRf b → L_X12_here_0 Q K n s1 → G o γ 0 0 116 s1 0 [some (.ref (ad o 65))] [] := by
    intro K hK n
    induction n with
    | zero => intro s1 hR h; exact False.elim h
    | succ n ih =>
      intro s1 hR h
      rw [L_X12_here_0] at h
      refine g_aload_0 (pc := 0) X dX12_here_0 ?_
      refine g_getI (pc := 1) X dX12_here_1 rfl (by decide) fl_X12_206 (Or.inl rfl) ?_
      refine g_aload_0 (pc := 4) X dX12_here_4 ?_
      refine g_getI (pc := 5) X dX12_here_5 rfl (by decide) fl_X12_209 (Or.inl rfl) ?_
      refine g_icmp_ge (pc := 8) X dX12_here_8 (tgt := 38) (by decide) (fun q3 => ?_) (fun q3 => ?_)
      · replace h := h.1 q3
        exact hK s1 hR h
      · replace h := h.2 q3
        refine g_aload_0 (pc := 11) X dX12_here_11 ?_
        refine g_getRf (pc := 12) X dX12_here_12 fl_X12_38 rfl (by decide) rfl hR rfl ?_
        refine g_aload_0 (pc := 15) X dX12_here_15 ?_
        refine g_getI (pc := 16) X dX12_here_16 rfl (by decide) fl_X12_206 (Or.inl rfl) ?_
        refine g_iaload_w (pc := 19) X dX12_here_19 rfl (by decide) h (fun x4 h => ?_)
        refine g_bipush (pc := 20) X dX12_here_20 kbipush_32 ?_
        refine g_icmp_ne (pc := 22) X dX12_here_22 (tgt := 38) (by decide) (fun q5 => ?_) (fun q5 => ?_)
        · replace h := h.2 q5
          exact hK s1 hR h
        · replace h := h.1 q5
          refine g_aload_0 (pc := 25) X dX12_here_25 ?_
          refine g_dup (pc := 26) X dX12_here_26 rfl ?_
          refine g_getI (pc := 27) X dX12_here_27 rfl (by decide) fl_X12_206 (Or.inl rfl) ?_
          refine g_iconst (pc := 30) X dX12_here_30 kiconst_1 ?_
          refine g_iadd (pc := 31) X dX12_here_31 ?_
          refine g_putI_w (pc := 32) X dX12_here_32 fl_X12_206 rfl (by decide) rfl rfl hR h (fun s6 hR h => ?_)
          refine g_goto (pc := 35) X dX12_here_35 (tgt := 0) (by decide) ?_
          exact ih  s6 hR h
  refine hL  _ (fun s8 hR h => ?_) n7  σ hR h
  · refine g_aload_0 (pc := 38) X dX12_here_38 ?_
    refine g_getI (pc := 39) X dX12_here_39 rfl (by decide) fl_X12_206 (Or.inl rfl) ?_
    refine g_aload_0 (pc := 42) X dX12_here_42 ?_
    refine g_getI (pc := 43) X dX12_here_43 rfl (by decide) fl_X12_209 (Or.inl rfl) ?_
    refine g_icmp_ge (pc := 46) X dX12_here_46 (tgt := 61) (by decide) (fun q9 => ?_) (fun q9 => ?_)
    · replace h := h.1 q9
      refine g_iconst (pc := 61) X dX12_here_61 kiconst_0 ?_
      exact g_ireturn (pc := 62) X Y dX12_here_62 (Nat.le_of_ble_eq_true rfl) (Nat.le_of_ble_eq_true rfl) ⟨_, rfl, hR, h⟩
    · replace h := h.2 q9
      refine g_aload_0 (pc := 49) X dX12_here_49 ?_
      refine g_getRf (pc := 50) X dX12_here_50 fl_X12_38 rfl (by decide) rfl hR rfl ?_
      refine g_aload_0 (pc := 53) X dX12_here_53 ?_
      refine g_getI (pc := 54) X dX12_here_54 rfl (by decide) fl_X12_206 (Or.inl rfl) ?_
      refine g_iaload_w (pc := 57) X dX12_here_57 rfl (by decide) h (fun x10 h => ?_)
      refine g_goto (pc := 58) X dX12_here_58 (tgt := 62) (by decide) ?_
      exact g_ireturn (pc := 62) X Y dX12_here_62 (Nat.le_of_ble_eq_true rfl) (Nat.le_of_ble_eq_true rfl) ⟨_, rfl, hR, h⟩
def W_X12_isSmall (p0 : Int32) (Q : Int32 → Prop) (σ : gSt) : Prop := ((p0 < (nI 97) → (Q (nI 0))) ∧ (¬ p0 < (nI 97) → ((((nI 122) < p0 → (Q (nI 0))) ∧ (¬ (nI 122) < p0 → (Q (nI 1)))))))
set_option maxHeartbeats 4000000 in
theorem t_X12_isSmall {o : gOm} {l : Launch} {b : Bool}   {σ : gSt} (hR : σ.2.2 = gRf b) {p0 : Int32} {Q : Int32 → Prop} (h : W_X12_isSmall p0 Q σ) : Sp o l mX12_isSmall 1 0 0 [.int p0] 116 116 σ (pI (fun x s => σ = s ∧ Q x)) := by
  unfold W_X12_isSmall at h
  refine Sp.of (ls0 := [some (.int p0)]) miX12_isSmall rfl (Nat.le_of_ble_eq_true rfl) rfl (fun γ hγ hnm X Y => ?_)
  subst hγ
  have X : gX o γ cX12_isSmall 1 RX12 := X
  refine g_iload_0 (pc := 0) X dX12_isSmall_0 ?_
  refine g_bipush (pc := 1) X dX12_isSmall_1 kbipush_97 ?_
  refine g_icmp_lt (pc := 3) X dX12_isSmall_3 (tgt := 16) (by decide) (fun q1 => ?_) (fun q1 => ?_)
  · replace h := h.1 q1
    refine g_iconst (pc := 16) X dX12_isSmall_16 kiconst_0 ?_
    exact g_zreturn (pc := 17) X Y dX12_isSmall_17 (by first | exact Or.inl rfl | exact Or.inr rfl) (Nat.le_of_ble_eq_true rfl) (Nat.le_of_ble_eq_true rfl) ⟨_, rfl, rfl, h⟩
  · replace h := h.2 q1
    refine g_iload_0 (pc := 6) X dX12_isSmall_6 ?_
    refine g_bipush (pc := 7) X dX12_isSmall_7 kbipush_122 ?_
    refine g_icmp_gt (pc := 9) X dX12_isSmall_9 (tgt := 16) (by decide) (fun q2 => ?_) (fun q2 => ?_)
    · replace h := h.1 q2
      refine g_iconst (pc := 16) X dX12_isSmall_16 kiconst_0 ?_
      exact g_zreturn (pc := 17) X Y dX12_isSmall_17 (by first | exact Or.inl rfl | exact Or.inr rfl) (Nat.le_of_ble_eq_true rfl) (Nat.le_of_ble_eq_true rfl) ⟨_, rfl, rfl, h⟩
    · replace h := h.2 q2
      refine g_iconst (pc := 12) X dX12_isSmall_12 kiconst_1 ?_
      refine g_goto (pc := 13) X dX12_isSmall_13 (tgt := 17) (by decide) ?_
      exact g_zreturn (pc := 17) X Y dX12_isSmall_17 (by first | exact Or.inl rfl | exact Or.inr rfl) (Nat.le_of_ble_eq_true rfl) (Nat.le_of_ble_eq_true rfl) ⟨_, rfl, rfl, h⟩
def W_X12_isDigit (p0 : Int32) (Q : Int32 → Prop) (σ : gSt) : Prop := ((p0 < (nI 48) → (Q (nI 0))) ∧ (¬ p0 < (nI 48) → ((((nI 57) < p0 → (Q (nI 0))) ∧ (¬ (nI 57) < p0 → (Q (nI 1)))))))
set_option maxHeartbeats 4000000 in
theorem t_X12_isDigit {o : gOm} {l : Launch} {b : Bool}   {σ : gSt} (hR : σ.2.2 = gRf b) {p0 : Int32} {Q : Int32 → Prop} (h : W_X12_isDigit p0 Q σ) : Sp o l mX12_isDigit 1 0 0 [.int p0] 116 116 σ (pI (fun x s => σ = s ∧ Q x)) := by
  unfold W_X12_isDigit at h
  refine Sp.of (ls0 := [some (.int p0)]) miX12_isDigit rfl (Nat.le_of_ble_eq_true rfl) rfl (fun γ hγ hnm X Y => ?_)
  subst hγ
  have X : gX o γ cX12_isDigit 1 RX12 := X
  refine g_iload_0 (pc := 0) X dX12_isDigit_0 ?_
  refine g_bipush (pc := 1) X dX12_isDigit_1 kbipush_48 ?_
  refine g_icmp_lt (pc := 3) X dX12_isDigit_3 (tgt := 16) (by decide) (fun q1 => ?_) (fun q1 => ?_)
  · replace h := h.1 q1
    refine g_iconst (pc := 16) X dX12_isDigit_16 kiconst_0 ?_
    exact g_zreturn (pc := 17) X Y dX12_isDigit_17 (by first | exact Or.inl rfl | exact Or.inr rfl) (Nat.le_of_ble_eq_true rfl) (Nat.le_of_ble_eq_true rfl) ⟨_, rfl, rfl, h⟩
  · replace h := h.2 q1
    refine g_iload_0 (pc := 6) X dX12_isDigit_6 ?_
    refine g_bipush (pc := 7) X dX12_isDigit_7 kbipush_57 ?_
    refine g_icmp_gt (pc := 9) X dX12_isDigit_9 (tgt := 16) (by decide) (fun q2 => ?_) (fun q2 => ?_)
    · replace h := h.1 q2
      refine g_iconst (pc := 16) X dX12_isDigit_16 kiconst_0 ?_
      exact g_zreturn (pc := 17) X Y dX12_isDigit_17 (by first | exact Or.inl rfl | exact Or.inr rfl) (Nat.le_of_ble_eq_true rfl) (Nat.le_of_ble_eq_true rfl) ⟨_, rfl, rfl, h⟩
    · replace h := h.2 q2
      refine g_iconst (pc := 12) X dX12_isDigit_12 kiconst_1 ?_
      refine g_goto (pc := 13) X dX12_isDigit_13 (tgt := 17) (by decide) ?_
      exact g_zreturn (pc := 17) X Y dX12_isDigit_17 (by first | exact Or.inl rfl | exact Or.inr rfl) (Nat.le_of_ble_eq_true rfl) (Nat.le_of_ble_eq_true rfl) ⟨_, rfl, rfl, h⟩
def L_X12_word_15 (Q : Int64 → gSt → Prop)  (s2 : gSt) (K : Int64 → Int32 → Prop) : Nat → Int64 → Int32 → Int32 → Prop
  | 0, _, _, _ => False
  | n15 + 1, v3, v4, v5 => (((s2.1 65 10) ≤ v5 → (K v3 v4)) ∧ (¬ (s2.1 65 10) ≤ v5 → (rI s2 73 400 v5 (fun x9 => W_X12_isSmall x9 (fun x10 => ((x10 = 0 → (K v3 v4)) ∧ (¬ x10 = 0 → (∀ J13 : Int64 → Prop, (∀ x12, (L_X12_word_15 Q s2 K n15 x12 (v4 + nI 1) (v5 + nI 1)) → J13 x12) → (((nI 7) ≤ v4 → (J13 (lN 0))) ∧ (¬ (nI 7) ≤ v4 → (rI s2 73 400 v5 (fun x15 => J13 ((shlL v3 (nI 5)) ||| (i2l (x15 - (nI 96)))))))))))) s2))))
def W_X12_word  (Q : Int64 → gSt → Prop) (σ : gSt) : Prop := W_X12_here (fun x1 s2 => ∃ m15, L_X12_word_15 Q s2 (fun y17 y18 => ((y18 ≤ (nI 7) → (Q y17 s2)) ∧ (¬ y18 ≤ (nI 7) → (Q (lN 0) s2)))) m15 (lN 0) (nI 0) (s2.1 65 11)) σ
set_option maxHeartbeats 4000000 in
theorem t_X12_word {o : gOm} {l : Launch} {b : Bool}   {σ : gSt} (hR : σ.2.2 = gRf b)  {Q : Int64 → gSt → Prop} (h : W_X12_word  Q σ) : Sp o l mX12_word 2 0 0 [.ref (ad o 65)] 116 116 σ (pL (fun x s => s.2.2 = gRf b ∧ Q x s)) := by
  unfold W_X12_word at h
  refine Sp.of (ls0 := [some (.ref (ad o 65)), none, none, none, none]) miX12_word rfl (Nat.le_of_ble_eq_true rfl) rfl (fun γ hγ hnm X Y => ?_)
  subst hγ
  have X : gX o γ cX12_word 5 RX12 := X
  refine g_aload_0 (pc := 0) X dX12_word_0 ?_
  refine g_callV_I (pc := 1) X Y dX12_word_1 miX12_here li_X12_212 (t_X12_here hR  h) rfl (by decide) rfl ⟨_, rfl⟩ rfl ⟨Nat.le_of_ble_eq_true rfl, Nat.le_of_ble_eq_true rfl⟩ (Nat.le_of_ble_eq_true rfl) (Nat.le_of_ble_eq_true rfl) rfl (by exact Nat.le_of_ble_eq_true rfl) (fun x1 s2 hp => ?_)
  obtain ⟨hR, h⟩ := hp
  refine g_pop (pc := 4) X dX12_word_4 rfl ?_
  refine g_lconst (pc := 5) X dX12_word_5 (v := lN 0) rfl ?_
  refine g_lstore_1 (pc := 6) X dX12_word_6 (by decide) rfl ?_
  refine g_iconst (pc := 7) X dX12_word_7 kiconst_0 ?_
  refine g_istore_3 (pc := 8) X dX12_word_8 (by decide) rfl ?_
  refine g_aload_0 (pc := 9) X dX12_word_9 ?_
  refine g_getI (pc := 10) X dX12_word_10 rfl (by decide) fl_X12_206 (Or.inl rfl) ?_
  refine g_istore_4 (pc := 13) X dX12_word_13 (by decide) rfl ?_
  obtain ⟨n16, h⟩ := h
  have hL : ∀  (K : Int64 → Int32 → Prop) (_ : ∀ (y6 : Int64) (y7 : Int32), K y6 y7 → G o γ 0 0 116 s2 72 [some (.ref (ad o 65)), some (.long y6), none, some (.int y7), none] []) (n : Nat) (v3 : Int64) (v4 : Int32) (v5 : Int32), L_X12_word_15 Q s2 K n v3 v4 v5 → G o γ 0 0 116 s2 15 [some (.ref (ad o 65)), some (.long v3), none, some (.int v4), some (.int v5)] [] := by
    intro K hK n
    induction n with
    | zero => intro v3 v4 v5 h; exact False.elim h
    | succ n ih =>
      intro v3 v4 v5 h
      rw [L_X12_word_15] at h
      refine g_iload_4 (pc := 15) X dX12_word_15 ?_
      refine g_aload_0 (pc := 17) X dX12_word_17 ?_
      refine g_getI (pc := 18) X dX12_word_18 rfl (by decide) fl_X12_209 (Or.inl rfl) ?_
      refine g_icmp_ge (pc := 21) X dX12_word_21 (tgt := 72) (by decide) (fun q8 => ?_) (fun q8 => ?_)
      · replace h := h.1 q8
        exact g_drop (by simp [lsub]) (hK v3 v4 h)
      · replace h := h.2 q8
        refine g_aload_0 (pc := 24) X dX12_word_24 ?_
        refine g_getRf (pc := 25) X dX12_word_25 fl_X12_38 rfl (by decide) rfl hR rfl ?_
        refine g_iload_4 (pc := 28) X dX12_word_28 ?_
        refine g_iaload_w (pc := 30) X dX12_word_30 rfl (by decide) h (fun x9 h => ?_)
        refine g_callS_I (pc := 31) X Y dX12_word_31 miX12_isSmall li_X12_216 (t_X12_isSmall hR  h) rfl ⟨Nat.le_of_ble_eq_true rfl, Nat.le_of_ble_eq_true rfl⟩ (Nat.le_of_ble_eq_true rfl) (Nat.le_of_ble_eq_true rfl) rfl (by exact Nat.le_of_ble_eq_true rfl) (fun x10 σ9 hp => ?_)
        obtain ⟨rfl, h⟩ := hp
        refine g_if_eq (pc := 34) X dX12_word_34 (tgt := 72) (by decide) (fun q11 => ?_) (fun q11 => ?_)
        · replace h := h.1 q11
          exact g_drop (by simp [lsub]) (hK v3 v4 h)
        · replace h := h.2 q11
          refine g_iload_3 (pc := 37) X dX12_word_37 ?_
          refine g_bipush (pc := 38) X dX12_word_38 kbipush_7 ?_
          replace h := h (fun x12 => G o γ 0 0 116 s2 62 [some (.ref (ad o 65)), none, none, some (.int v4), some (.int v5)] [.long x12]) (by
              intro x12 h
              refine g_lstore_1 (pc := 62) X dX12_word_62 (by decide) rfl ?_
              refine g_iinc_3 (pc := 63) X dX12_word_63 (v := v4 + nI 1) rfl (by decide) rfl ?_
              refine g_iinc_4 (pc := 66) X dX12_word_66 (v := v5 + nI 1) rfl (by decide) rfl ?_
              refine g_goto (pc := 69) X dX12_word_69 (tgt := 15) (by decide) ?_
              exact ih x12 (v4 + nI 1) (v5 + nI 1) h)
          refine g_icmp_ge (pc := 40) X dX12_word_40 (tgt := 61) (by decide) (fun q14 => ?_) (fun q14 => ?_)
          · replace h := h.1 q14
            refine g_lconst (pc := 61) X dX12_word_61 (v := lN 0) rfl ?_
            exact g_drop (by simp [lsub]) (h)
          · replace h := h.2 q14
            refine g_lload_1 (pc := 43) X dX12_word_43 ?_
            refine g_iconst (pc := 44) X dX12_word_44 kiconst_5 ?_
            refine g_lshl (pc := 45) X dX12_word_45 ?_
            refine g_aload_0 (pc := 46) X dX12_word_46 ?_
            refine g_getRf (pc := 47) X dX12_word_47 fl_X12_38 rfl (by decide) rfl hR rfl ?_
            refine g_iload_4 (pc := 50) X dX12_word_50 ?_
            refine g_iaload_w (pc := 52) X dX12_word_52 rfl (by decide) h (fun x15 h => ?_)
            refine g_bipush (pc := 53) X dX12_word_53 kbipush_96 ?_
            refine g_isub (pc := 55) X dX12_word_55 ?_
            refine g_i2l (pc := 56) X dX12_word_56 ?_
            refine g_lor (pc := 57) X dX12_word_57 ?_
            refine g_goto (pc := 58) X dX12_word_58 (tgt := 62) (by decide) ?_
            exact g_drop (by simp [lsub]) (h)
  refine hL  _ (fun y17 y18 h => ?_) n16 (lN 0) (nI 0) (s2.1 65 11) h
  · refine g_iload_3 (pc := 72) X dX12_word_72 ?_
    refine g_bipush (pc := 73) X dX12_word_73 kbipush_7 ?_
    refine g_icmp_le (pc := 75) X dX12_word_75 (tgt := 82) (by decide) (fun q19 => ?_) (fun q19 => ?_)
    · replace h := h.1 q19
      refine g_lload_1 (pc := 82) X dX12_word_82 ?_
      exact g_lreturn (pc := 83) X Y dX12_word_83 (Nat.le_of_ble_eq_true rfl) (Nat.le_of_ble_eq_true rfl) ⟨_, rfl, hR, h⟩
    · replace h := h.2 q19
      refine g_lconst (pc := 78) X dX12_word_78 (v := lN 0) rfl ?_
      refine g_goto (pc := 79) X dX12_word_79 (tgt := 83) (by decide) ?_
      exact g_lreturn (pc := 83) X Y dX12_word_83 (Nat.le_of_ble_eq_true rfl) (Nat.le_of_ble_eq_true rfl) ⟨_, rfl, hR, h⟩
def L_X12_pass_0 (Q : gSt → Prop)  (K : gSt → Prop) : Nat → gSt → Prop
  | 0, _ => False
  | n0 + 1, s1 => (((s1.1 65 10) ≤ (s1.1 65 11) → (K s1)) ∧ (¬ (s1.1 65 10) ≤ (s1.1 65 11) → (rI s1 73 400 (s1.1 65 11) (fun x4 => W_X12_isSmall x4 (fun x5 => ((x5 = 0 → (K s1)) ∧ (¬ x5 = 0 → (fI s1 65 11 ((s1.1 65 11) + (nI 1)) (fun s7 => L_X12_pass_0 Q K n0 s7))))) s1))))
def W_X12_pass  (Q : gSt → Prop) (σ : gSt) : Prop := ∃ m0, L_X12_pass_0 Q (fun s9 => Q s9) m0 σ
set_option maxHeartbeats 4000000 in
theorem t_X12_pass {o : gOm} {l : Launch} {b : Bool}   {σ : gSt} (hR : σ.2.2 = gRf b)  {Q : gSt → Prop} (h : W_X12_pass  Q σ) : Sp o l mX12_pass 2 0 0 [.ref (ad o 65)] 116 116 σ (pV (fun s => s.2.2 = gRf b ∧ Q s)) := by
  unfold W_X12_pass at h
  refine Sp.of (ls0 := [some (.ref (ad o 65))]) miX12_pass rfl (Nat.le_of_ble_eq_true rfl) rfl (fun γ hγ hnm X Y => ?_)
  subst hγ
  have X : gX o γ cX12_pass 1 RX12 := X
  obtain ⟨n8, h⟩ := h
  have hL : ∀  (K : gSt → Prop) (_ : ∀  (s2 : gSt), s2.2.2 = gRf b → K s2 → G o γ 0 0 116 s2 39 [some (.ref (ad o 65))] []) (n : Nat)  (s1 : gSt), s1.2.2 = gRf b → L_X12_pass_0 Q K n s1 → G o γ 0 0 116 s1 0 [some (.ref (ad o 65))] [] := by
    intro K hK n
    induction n with
    | zero => intro s1 hR h; exact False.elim h
    | succ n ih =>
      intro s1 hR h
      rw [L_X12_pass_0] at h
      refine g_aload_0 (pc := 0) X dX12_pass_0 ?_
      refine g_getI (pc := 1) X dX12_pass_1 rfl (by decide) fl_X12_206 (Or.inl rfl) ?_
      refine g_aload_0 (pc := 4) X dX12_pass_4 ?_
      refine g_getI (pc := 5) X dX12_pass_5 rfl (by decide) fl_X12_209 (Or.inl rfl) ?_
      refine g_icmp_ge (pc := 8) X dX12_pass_8 (tgt := 39) (by decide) (fun q3 => ?_) (fun q3 => ?_)
      · replace h := h.1 q3
        exact hK s1 hR h
      · replace h := h.2 q3
        refine g_aload_0 (pc := 11) X dX12_pass_11 ?_
        refine g_getRf (pc := 12) X dX12_pass_12 fl_X12_38 rfl (by decide) rfl hR rfl ?_
        refine g_aload_0 (pc := 15) X dX12_pass_15 ?_
        refine g_getI (pc := 16) X dX12_pass_16 rfl (by decide) fl_X12_206 (Or.inl rfl) ?_
        refine g_iaload_w (pc := 19) X dX12_pass_19 rfl (by decide) h (fun x4 h => ?_)
        refine g_callS_I (pc := 20) X Y dX12_pass_20 miX12_isSmall li_X12_216 (t_X12_isSmall hR  h) rfl ⟨Nat.le_of_ble_eq_true rfl, Nat.le_of_ble_eq_true rfl⟩ (Nat.le_of_ble_eq_true rfl) (Nat.le_of_ble_eq_true rfl) rfl (by exact Nat.le_of_ble_eq_true rfl) (fun x5 σ9 hp => ?_)
        obtain ⟨rfl, h⟩ := hp
        refine g_if_eq (pc := 23) X dX12_pass_23 (tgt := 39) (by decide) (fun q6 => ?_) (fun q6 => ?_)
        · replace h := h.1 q6
          exact hK s1 hR h
        · replace h := h.2 q6
          refine g_aload_0 (pc := 26) X dX12_pass_26 ?_
          refine g_dup (pc := 27) X dX12_pass_27 rfl ?_
          refine g_getI (pc := 28) X dX12_pass_28 rfl (by decide) fl_X12_206 (Or.inl rfl) ?_
          refine g_iconst (pc := 31) X dX12_pass_31 kiconst_1 ?_
          refine g_iadd (pc := 32) X dX12_pass_32 ?_
          refine g_putI_w (pc := 33) X dX12_pass_33 fl_X12_206 rfl (by decide) rfl rfl hR h (fun s7 hR h => ?_)
          refine g_goto (pc := 36) X dX12_pass_36 (tgt := 0) (by decide) ?_
          exact ih  s7 hR h
  refine hL  _ (fun s9 hR h => ?_) n8  σ hR h
  · exact g_return (pc := 39) X Y dX12_pass_39 (Nat.le_of_ble_eq_true rfl) (Nat.le_of_ble_eq_true rfl) ⟨rfl, hR, h⟩
