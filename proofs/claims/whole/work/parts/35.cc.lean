def L_X10_question_41 (Q : Int32 → Prop) (c7 : Int64) (c8 : Int32) (σ : gSt) (K : Int32 → Int32 → Prop) : Nat → Int32 → Int32 → Int32 → Prop
  | 0, _, _, _ => False
  | n41 + 1, v9, v10, v11 => (((σ.1 50 0) ≤ v11 → (K v9 v10)) ∧ (¬ (σ.1 50 0) ≤ v11 → (W_X10_pairBit c8 v11 (fun x15 => (((c7 &&& x15) = (lN 0) → (L_X10_question_41 Q c7 c8 σ K n41 v9 v10 (v11 + nI 1))) ∧ (¬ (c7 &&& x15) = (lN 0) → (W_X10_freeLeft x15 x15 (fun x17 => W_X10_freeLeft x15 (lN 0) (fun x18 => ((v9 ≤ (mxI x17 x18) → (L_X10_question_41 Q c7 c8 σ K n41 v9 v10 (v11 + nI 1))) ∧ (¬ v9 ≤ (mxI x17 x18) → (rI σ 51 10 c8 (fun x20 => rI σ 51 10 v11 (fun x21 => L_X10_question_41 Q c7 c8 σ K n41 (mxI x17 x18) (((nI 32) * x20) + x21) (v11 + nI 1))))))) σ) σ)))) σ)))
def L_X10_question_23 (Q : Int32 → Prop) (c1 : Int64) (σ : gSt) (K : Int32 → Prop) : Nat → Int32 → Int32 → Int32 → Prop
  | 0, _, _, _ => False
  | n23 + 1, v2, v3, v4 => (((σ.1 50 0) ≤ v4 → (K v3)) ∧ (¬ (σ.1 50 0) ≤ v4 → (∃ m41, L_X10_question_41 Q c1 v4 σ (fun y23 y24 => L_X10_question_23 Q c1 σ K n23 y23 y24 (v4 + nI 1)) m41 v2 v3 (v4 + (nI 1)))))
def W_X10_question  (Q : Int32 → Prop) (σ : gSt) : Prop := ∃ m23, L_X10_question_23 Q ((σ.2.1 56 15) &&& ((σ.2.1 56 14) ^^^ ((-1 : Int64)))) σ (fun y26 => Q y26) m23 ((1073741823 : Int32)) ((-1 : Int32)) (nI 0)
set_option maxHeartbeats 4000000 in
theorem t_X10_question {o : gOm} {l : Launch} {b : Bool}   {σ : gSt} (hR : σ.2.2 = gRf b)  {Q : Int32 → Prop} (h : W_X10_question  Q σ) : Sp o l mX10_question 3 0 0 [.ref (ad o 56)] 116 116 σ (pI (fun x s => σ = s ∧ Q x)) := by
  unfold W_X10_question at h
  refine Sp.of (ls0 := [some (.ref (ad o 56)), none, none, none, none, none, none, none, none, none]) miX10_question rfl (Nat.le_of_ble_eq_true rfl) rfl (fun γ hγ hnm X Y => ?_)
  subst hγ
  have X : gX o γ cX10_question 10 RX10 := X
  refine g_aload_0 (pc := 0) X dX10_question_0 ?_
  refine g_getL (pc := 1) X dX10_question_1 rfl (by decide) fl_X10_70 rfl ?_
  refine g_aload_0 (pc := 4) X dX10_question_4 ?_
  refine g_getL (pc := 5) X dX10_question_5 rfl (by decide) fl_X10_66 rfl ?_
  refine g_ldc2 (pc := 8) X dX10_question_8 ct_X10_64 ?_
  refine g_lxor (pc := 11) X dX10_question_11 ?_
  refine g_land (pc := 12) X dX10_question_12 ?_
  refine g_lstore_1 (pc := 13) X dX10_question_13 (by decide) rfl ?_
  refine g_ldc (pc := 14) X dX10_question_14 ct_X10_39 ?_
  refine g_istore_3 (pc := 16) X dX10_question_16 (by decide) rfl ?_
  refine g_iconst (pc := 17) X dX10_question_17 kiconst_m1 ?_
  refine g_istore_4 (pc := 18) X dX10_question_18 (by decide) rfl ?_
  refine g_iconst (pc := 20) X dX10_question_20 kiconst_0 ?_
  refine g_istore_5 (pc := 21) X dX10_question_21 (by decide) rfl ?_
  obtain ⟨n25, h⟩ := h
  have hL : ∀ (c1 : Int64) (K : Int32 → Prop) (_ : ∀ (y5 : Int32), K y5 → G o γ 0 0 116 σ 138 [some (.ref (ad o 56)), some (.long c1), none, none, some (.int y5), none, none, none, none, none] []) (n : Nat) (v2 : Int32) (v3 : Int32) (v4 : Int32), L_X10_question_23 Q c1 σ K n v2 v3 v4 → G o γ 0 0 116 σ 23 [some (.ref (ad o 56)), some (.long c1), none, some (.int v2), some (.int v3), some (.int v4), none, none, none, none] [] := by
    intro c1 K hK n
    induction n with
    | zero => intro v2 v3 v4 h; exact False.elim h
    | succ n ih =>
      intro v2 v3 v4 h
      rw [L_X10_question_23] at h
      refine g_iload_5 (pc := 23) X dX10_question_23 ?_
      refine g_aload_0 (pc := 25) X dX10_question_25 ?_
      refine g_getRf (pc := 26) X dX10_question_26 fl_X10_31 rfl (by decide) rfl hR rfl ?_
      refine g_getI (pc := 29) X dX10_question_29 rfl (by decide) fl_X10_46 (Or.inl rfl) ?_
      refine g_icmp_ge (pc := 32) X dX10_question_32 (tgt := 138) (by decide) (fun q6 => ?_) (fun q6 => ?_)
      · replace h := h.1 q6
        exact g_drop (by simp [lsub]) (hK v3 h)
      · replace h := h.2 q6
        refine g_iload_5 (pc := 35) X dX10_question_35 ?_
        refine g_iconst (pc := 37) X dX10_question_37 kiconst_1 ?_
        refine g_iadd (pc := 38) X dX10_question_38 ?_
        refine g_istore_6 (pc := 39) X dX10_question_39 (by decide) rfl ?_
        obtain ⟨n22, h⟩ := h
        have hL : ∀ (c7 : Int64) (c8 : Int32) (K : Int32 → Int32 → Prop) (_ : ∀ (y12 : Int32) (y13 : Int32), K y12 y13 → G o γ 0 0 116 σ 132 [some (.ref (ad o 56)), some (.long c7), none, some (.int y12), some (.int y13), some (.int c8), none, none, none, none] []) (n : Nat) (v9 : Int32) (v10 : Int32) (v11 : Int32), L_X10_question_41 Q c7 c8 σ K n v9 v10 v11 → G o γ 0 0 116 σ 41 [some (.ref (ad o 56)), some (.long c7), none, some (.int v9), some (.int v10), some (.int c8), some (.int v11), none, none, none] [] := by
          intro c7 c8 K hK n
          induction n with
          | zero => intro v9 v10 v11 h; exact False.elim h
          | succ n ih =>
            intro v9 v10 v11 h
            rw [L_X10_question_41] at h
            refine g_iload_6 (pc := 41) X dX10_question_41 ?_
            refine g_aload_0 (pc := 43) X dX10_question_43 ?_
            refine g_getRf (pc := 44) X dX10_question_44 fl_X10_31 rfl (by decide) rfl hR rfl ?_
            refine g_getI (pc := 47) X dX10_question_47 rfl (by decide) fl_X10_46 (Or.inl rfl) ?_
            refine g_icmp_ge (pc := 50) X dX10_question_50 (tgt := 132) (by decide) (fun q14 => ?_) (fun q14 => ?_)
            · replace h := h.1 q14
              exact g_drop (by simp [lsub]) (hK v9 v10 h)
            · replace h := h.2 q14
              refine g_iload_5 (pc := 53) X dX10_question_53 ?_
              refine g_iload_6 (pc := 55) X dX10_question_55 ?_
              refine g_callS_L (pc := 57) X Y dX10_question_57 miX10_pairBit li_X10_135 (t_X10_pairBit hR  h) rfl ⟨Nat.le_of_ble_eq_true rfl, Nat.le_of_ble_eq_true rfl⟩ (Nat.le_of_ble_eq_true rfl) (Nat.le_of_ble_eq_true rfl) rfl (by exact Nat.le_of_ble_eq_true rfl) (fun x15 σ9 hp => ?_)
              obtain ⟨rfl, h⟩ := hp
              refine g_lstore_7 (pc := 60) X dX10_question_60 (by decide) rfl ?_
              refine g_lload_1 (pc := 62) X dX10_question_62 ?_
              refine g_lload_7 (pc := 63) X dX10_question_63 ?_
              refine g_land (pc := 65) X dX10_question_65 ?_
              refine g_lconst (pc := 66) X dX10_question_66 (v := lN 0) rfl ?_
              refine g_lcmp_eq (pc := 67) X dX10_question_67 dX10_question_68 (tgt := 126) (by decide) (fun q16 => ?_) (fun q16 => ?_)
              · replace h := h.1 q16
                refine g_iinc_6 (pc := 126) X dX10_question_126 (v := v11 + nI 1) rfl (by decide) rfl ?_
                refine g_goto (pc := 129) X dX10_question_129 (tgt := 41) (by decide) ?_
                exact g_drop (by simp [lsub]) (ih v9 v10 (v11 + nI 1) h)
              · replace h := h.2 q16
                refine g_aload_0 (pc := 71) X dX10_question_71 ?_
                refine g_lload_7 (pc := 72) X dX10_question_72 ?_
                refine g_lload_7 (pc := 74) X dX10_question_74 ?_
                refine g_callV_I (pc := 76) X Y dX10_question_76 miX10_freeLeft li_X10_139 (t_X10_freeLeft hR  h) rfl (by decide) rfl ⟨_, rfl⟩ rfl ⟨Nat.le_of_ble_eq_true rfl, Nat.le_of_ble_eq_true rfl⟩ (Nat.le_of_ble_eq_true rfl) (Nat.le_of_ble_eq_true rfl) rfl (by exact Nat.le_of_ble_eq_true rfl) (fun x17 σ9 hp => ?_)
                obtain ⟨rfl, h⟩ := hp
                refine g_aload_0 (pc := 79) X dX10_question_79 ?_
                refine g_lload_7 (pc := 80) X dX10_question_80 ?_
                refine g_lconst (pc := 82) X dX10_question_82 (v := lN 0) rfl ?_
                refine g_callV_I (pc := 83) X Y dX10_question_83 miX10_freeLeft li_X10_139 (t_X10_freeLeft hR  h) rfl (by decide) rfl ⟨_, rfl⟩ rfl ⟨Nat.le_of_ble_eq_true rfl, Nat.le_of_ble_eq_true rfl⟩ (Nat.le_of_ble_eq_true rfl) (Nat.le_of_ble_eq_true rfl) rfl (by exact Nat.le_of_ble_eq_true rfl) (fun x18 σ9 hp => ?_)
                obtain ⟨rfl, h⟩ := hp
                refine g_mmax_w (pc := 86) X Y dX10_question_86 li_X10_112 (by decide) (Nat.le_refl _) (Nat.le_refl _) (by exact Nat.le_of_ble_eq_true rfl) ?_
                refine g_istore_9 (pc := 89) X dX10_question_89 (by decide) rfl ?_
                refine g_iload_9 (pc := 91) X dX10_question_91 ?_
                refine g_iload_3 (pc := 93) X dX10_question_93 ?_
                refine g_icmp_ge (pc := 94) X dX10_question_94 (tgt := 126) (by decide) (fun q19 => ?_) (fun q19 => ?_)
                · replace h := h.1 q19
                  refine g_iinc_6 (pc := 126) X dX10_question_126 (v := v11 + nI 1) rfl (by decide) rfl ?_
                  refine g_goto (pc := 129) X dX10_question_129 (tgt := 41) (by decide) ?_
                  exact g_drop (by simp [lsub]) (ih v9 v10 (v11 + nI 1) h)
                · replace h := h.2 q19
                  refine g_iload_9 (pc := 97) X dX10_question_97 ?_
                  refine g_istore_3 (pc := 99) X dX10_question_99 (by decide) rfl ?_
                  refine g_bipush (pc := 100) X dX10_question_100 kbipush_32 ?_
                  refine g_aload_0 (pc := 102) X dX10_question_102 ?_
                  refine g_getRf (pc := 103) X dX10_question_103 fl_X10_31 rfl (by decide) rfl hR rfl ?_
                  refine g_getRf (pc := 106) X dX10_question_106 fl_X10_129 rfl (by decide) rfl hR rfl ?_
                  refine g_iload_5 (pc := 109) X dX10_question_109 ?_
                  refine g_iaload_w (pc := 111) X dX10_question_111 rfl (by decide) h (fun x20 h => ?_)
                  refine g_imul (pc := 112) X dX10_question_112 ?_
                  refine g_aload_0 (pc := 113) X dX10_question_113 ?_
                  refine g_getRf (pc := 114) X dX10_question_114 fl_X10_31 rfl (by decide) rfl hR rfl ?_
                  refine g_getRf (pc := 117) X dX10_question_117 fl_X10_129 rfl (by decide) rfl hR rfl ?_
                  refine g_iload_6 (pc := 120) X dX10_question_120 ?_
                  refine g_iaload_w (pc := 122) X dX10_question_122 rfl (by decide) h (fun x21 h => ?_)
                  refine g_iadd (pc := 123) X dX10_question_123 ?_
                  refine g_istore_4 (pc := 124) X dX10_question_124 (by decide) rfl ?_
                  refine g_iinc_6 (pc := 126) X dX10_question_126 (v := v11 + nI 1) rfl (by decide) rfl ?_
                  refine g_goto (pc := 129) X dX10_question_129 (tgt := 41) (by decide) ?_
                  exact g_drop (by simp [lsub]) (ih (mxI x17 x18) (((nI 32) * x20) + x21) (v11 + nI 1) h)
        refine hL c1 v4 _ (fun y23 y24 h => ?_) n22 v2 v3 (v4 + (nI 1)) h
        · refine g_iinc_5 (pc := 132) X dX10_question_132 (v := v4 + nI 1) rfl (by decide) rfl ?_
          refine g_goto (pc := 135) X dX10_question_135 (tgt := 23) (by decide) ?_
          exact ih y23 y24 (v4 + nI 1) h
  refine hL ((σ.2.1 56 15) &&& ((σ.2.1 56 14) ^^^ ((-1 : Int64)))) _ (fun y26 h => ?_) n25 ((1073741823 : Int32)) ((-1 : Int32)) (nI 0) h
  · refine g_iload_4 (pc := 138) X dX10_question_138 ?_
    exact g_ireturn (pc := 140) X Y dX10_question_140 (Nat.le_of_ble_eq_true rfl) (Nat.le_of_ble_eq_true rfl) ⟨_, rfl, rfl, h⟩
