def W_X12_swap (p0 : Int32) (p1 : Int32) (Q : Int32 → gSt → Prop) (σ : gSt) : Prop := fI σ 65 0 (nI 0) (fun s1 => W_X12_isEntry p0 (fun x2 s3 => ((x2 = 0 → (Q (nI 0) s3)) ∧ (¬ x2 = 0 → (W_X12_isEntry p1 (fun x5 s6 => ((x5 = 0 → (Q (nI 0) s6)) ∧ (¬ x5 = 0 → (rI s6 71 30 p0 (fun x8 => rI s6 71 30 p1 (fun x9 => ((x8 = x9 → (Q ((-1 : Int32)) s6)) ∧ (¬ x8 = x9 → (rI s6 71 30 p0 (fun x11 => rI s6 71 30 p1 (fun x12 => wI s6 71 30 p0 x12 (fun s13 => wI s13 71 30 p1 x11 (fun s14 => W_X12_number 71 (fun s15 => Q (nI 1) s15) s14))))))))))))) s3)))) s1)
set_option maxHeartbeats 4000000 in
theorem t_X12_swap {o : gOm} {l : Launch} {b : Bool}   {σ : gSt} (hR : σ.2.2 = gRf b) {p0 : Int32} {p1 : Int32} {Q : Int32 → gSt → Prop} (h : W_X12_swap p0 p1 Q σ) : Sp o l mX12_swap 3 0 0 [.ref (ad o 65), .int p0, .int p1] 116 116 σ (pI (fun x s => s.2.2 = gRf b ∧ Q x s)) := by
  unfold W_X12_swap at h
  refine Sp.of (ls0 := [some (.ref (ad o 65)), some (.int p0), some (.int p1), none]) miX12_swap rfl (Nat.le_of_ble_eq_true rfl) rfl (fun γ hγ hnm X Y => ?_)
  subst hγ
  have X : gX o γ cX12_swap 4 RX12 := X
  refine g_aload_0 (pc := 0) X dX12_swap_0 ?_
  refine g_iconst (pc := 1) X dX12_swap_1 kiconst_0 ?_
  refine g_putI_w (pc := 2) X dX12_swap_2 fl_X12_1 rfl (by decide) rfl rfl hR h (fun s1 hR h => ?_)
  refine g_aload_0 (pc := 5) X dX12_swap_5 ?_
  refine g_iload_1 (pc := 6) X dX12_swap_6 ?_
  refine g_callV_I (pc := 7) X Y dX12_swap_7 miX12_isEntry li_X12_183 (t_X12_isEntry hR  h) rfl (by decide) rfl ⟨_, rfl⟩ rfl ⟨Nat.le_of_ble_eq_true rfl, Nat.le_of_ble_eq_true rfl⟩ (Nat.le_of_ble_eq_true rfl) (Nat.le_of_ble_eq_true rfl) rfl (by exact Nat.le_of_ble_eq_true rfl) (fun x2 s3 hp => ?_)
  obtain ⟨hR, h⟩ := hp
  refine g_if_eq (pc := 10) X dX12_swap_10 (tgt := 21) (by decide) (fun q4 => ?_) (fun q4 => ?_)
  · replace h := h.1 q4
    refine g_iconst (pc := 21) X dX12_swap_21 kiconst_0 ?_
    exact g_ireturn (pc := 22) X Y dX12_swap_22 (Nat.le_of_ble_eq_true rfl) (Nat.le_of_ble_eq_true rfl) ⟨_, rfl, hR, h⟩
  · replace h := h.2 q4
    refine g_aload_0 (pc := 13) X dX12_swap_13 ?_
    refine g_iload_2 (pc := 14) X dX12_swap_14 ?_
    refine g_callV_I (pc := 15) X Y dX12_swap_15 miX12_isEntry li_X12_183 (t_X12_isEntry hR  h) rfl (by decide) rfl ⟨_, rfl⟩ rfl ⟨Nat.le_of_ble_eq_true rfl, Nat.le_of_ble_eq_true rfl⟩ (Nat.le_of_ble_eq_true rfl) (Nat.le_of_ble_eq_true rfl) rfl (by exact Nat.le_of_ble_eq_true rfl) (fun x5 s6 hp => ?_)
    obtain ⟨hR, h⟩ := hp
    refine g_if_ne (pc := 18) X dX12_swap_18 (tgt := 23) (by decide) (fun q7 => ?_) (fun q7 => ?_)
    · replace h := h.2 q7
      refine g_aload_0 (pc := 23) X dX12_swap_23 ?_
      refine g_getRf (pc := 24) X dX12_swap_24 fl_X12_29 rfl (by decide) rfl hR rfl ?_
      refine g_iload_1 (pc := 27) X dX12_swap_27 ?_
      refine g_iaload_w (pc := 28) X dX12_swap_28 rfl (by decide) h (fun x8 h => ?_)
      refine g_aload_0 (pc := 29) X dX12_swap_29 ?_
      refine g_getRf (pc := 30) X dX12_swap_30 fl_X12_29 rfl (by decide) rfl hR rfl ?_
      refine g_iload_2 (pc := 33) X dX12_swap_33 ?_
      refine g_iaload_w (pc := 34) X dX12_swap_34 rfl (by decide) h (fun x9 h => ?_)
      refine g_icmp_ne (pc := 35) X dX12_swap_35 (tgt := 40) (by decide) (fun q10 => ?_) (fun q10 => ?_)
      · replace h := h.2 q10
        refine g_aload_0 (pc := 40) X dX12_swap_40 ?_
        refine g_getRf (pc := 41) X dX12_swap_41 fl_X12_29 rfl (by decide) rfl hR rfl ?_
        refine g_iload_1 (pc := 44) X dX12_swap_44 ?_
        refine g_iaload_w (pc := 45) X dX12_swap_45 rfl (by decide) h (fun x11 h => ?_)
        refine g_istore_3 (pc := 46) X dX12_swap_46 (by decide) rfl ?_
        refine g_aload_0 (pc := 47) X dX12_swap_47 ?_
        refine g_getRf (pc := 48) X dX12_swap_48 fl_X12_29 rfl (by decide) rfl hR rfl ?_
        refine g_iload_1 (pc := 51) X dX12_swap_51 ?_
        refine g_aload_0 (pc := 52) X dX12_swap_52 ?_
        refine g_getRf (pc := 53) X dX12_swap_53 fl_X12_29 rfl (by decide) rfl hR rfl ?_
        refine g_iload_2 (pc := 56) X dX12_swap_56 ?_
        refine g_iaload_w (pc := 57) X dX12_swap_57 rfl (by decide) h (fun x12 h => ?_)
        refine g_iastore_w (pc := 58) X dX12_swap_58 rfl (by decide) hR h (fun s13 hR h => ?_)
        refine g_aload_0 (pc := 59) X dX12_swap_59 ?_
        refine g_getRf (pc := 60) X dX12_swap_60 fl_X12_29 rfl (by decide) rfl hR rfl ?_
        refine g_iload_2 (pc := 63) X dX12_swap_63 ?_
        refine g_iload_3 (pc := 64) X dX12_swap_64 ?_
        refine g_iastore_w (pc := 65) X dX12_swap_65 rfl (by decide) hR h (fun s14 hR h => ?_)
        refine g_aload_0 (pc := 66) X dX12_swap_66 ?_
        refine g_aload_0 (pc := 67) X dX12_swap_67 ?_
        refine g_getRf (pc := 68) X dX12_swap_68 fl_X12_29 rfl (by decide) rfl hR rfl ?_
        refine g_callV_V (pc := 71) X Y dX12_swap_71 miX12_number li_X12_371 (t_X12_number hR (by decide) (by decide) h) rfl (by decide) rfl ⟨_, rfl⟩ rfl ⟨Nat.le_of_ble_eq_true rfl, Nat.le_of_ble_eq_true rfl⟩ (Nat.le_of_ble_eq_true rfl) (Nat.le_of_ble_eq_true rfl) rfl (by exact Nat.le_of_ble_eq_true rfl) (fun s15 hp => ?_)
        obtain ⟨hR, h⟩ := hp
        refine g_iconst (pc := 74) X dX12_swap_74 kiconst_1 ?_
        exact g_ireturn (pc := 75) X Y dX12_swap_75 (Nat.le_of_ble_eq_true rfl) (Nat.le_of_ble_eq_true rfl) ⟨_, rfl, hR, h⟩
      · replace h := h.1 q10
        refine g_iconst (pc := 38) X dX12_swap_38 kiconst_m1 ?_
        exact g_ireturn (pc := 39) X Y dX12_swap_39 (Nat.le_of_ble_eq_true rfl) (Nat.le_of_ble_eq_true rfl) ⟨_, rfl, hR, h⟩
    · replace h := h.1 q7
      refine g_iconst (pc := 21) X dX12_swap_21 kiconst_0 ?_
      exact g_ireturn (pc := 22) X Y dX12_swap_22 (Nat.le_of_ble_eq_true rfl) (Nat.le_of_ble_eq_true rfl) ⟨_, rfl, hR, h⟩
def W_X12_cost  (Q : Int64 → gSt → Prop) (σ : gSt) : Prop := fI σ 65 0 (nI 0) (fun s1 => W_X12_weighs (fun s2 => W_X12_costOf 71 (fun x3 => Q x3 s2) s2) s1)
set_option maxHeartbeats 4000000 in
theorem t_X12_cost {o : gOm} {l : Launch} {b : Bool}   {σ : gSt} (hR : σ.2.2 = gRf b)  {Q : Int64 → gSt → Prop} (h : W_X12_cost  Q σ) : Sp o l mX12_cost 8 0 0 [.ref (ad o 65)] 116 116 σ (pL (fun x s => s.2.2 = gRf b ∧ Q x s)) := by
  unfold W_X12_cost at h
  refine Sp.of (ls0 := [some (.ref (ad o 65))]) miX12_cost rfl (Nat.le_of_ble_eq_true rfl) rfl (fun γ hγ hnm X Y => ?_)
  subst hγ
  have X : gX o γ cX12_cost 1 RX12 := X
  refine g_aload_0 (pc := 0) X dX12_cost_0 ?_
  refine g_iconst (pc := 1) X dX12_cost_1 kiconst_0 ?_
  refine g_putI_w (pc := 2) X dX12_cost_2 fl_X12_1 rfl (by decide) rfl rfl hR h (fun s1 hR h => ?_)
  refine g_aload_0 (pc := 5) X dX12_cost_5 ?_
  refine g_callV_V (pc := 6) X Y dX12_cost_6 miX12_weighs li_X12_385 (t_X12_weighs hR  h) rfl (by decide) rfl ⟨_, rfl⟩ rfl ⟨Nat.le_of_ble_eq_true rfl, Nat.le_of_ble_eq_true rfl⟩ (Nat.le_of_ble_eq_true rfl) (Nat.le_of_ble_eq_true rfl) rfl (by exact Nat.le_of_ble_eq_true rfl) (fun s2 hp => ?_)
  obtain ⟨hR, h⟩ := hp
  refine g_aload_0 (pc := 9) X dX12_cost_9 ?_
  refine g_aload_0 (pc := 10) X dX12_cost_10 ?_
  refine g_getRf (pc := 11) X dX12_cost_11 fl_X12_29 rfl (by decide) rfl hR rfl ?_
  refine g_callV_L (pc := 14) X Y dX12_cost_14 miX12_costOf li_X12_388 (t_X12_costOf hR (by decide) (by decide) h) rfl (by decide) rfl ⟨_, rfl⟩ rfl ⟨Nat.le_of_ble_eq_true rfl, Nat.le_of_ble_eq_true rfl⟩ (Nat.le_of_ble_eq_true rfl) (Nat.le_of_ble_eq_true rfl) rfl (by exact Nat.le_of_ble_eq_true rfl) (fun x3 σ9 hp => ?_)
  obtain ⟨rfl, h⟩ := hp
  exact g_lreturn (pc := 17) X Y dX12_cost_17 (Nat.le_of_ble_eq_true rfl) (Nat.le_of_ble_eq_true rfl) ⟨_, rfl, hR, h⟩
def W_X12_barred  (Q : Int32 → gSt → Prop) (σ : gSt) : Prop := fI σ 65 0 (nI 0) (fun s1 => W_X12_weighs (fun s2 => W_X12_barredIn 71 (fun x3 => Q x3 s2) s2) s1)
set_option maxHeartbeats 4000000 in
theorem t_X12_barred {o : gOm} {l : Launch} {b : Bool}   {σ : gSt} (hR : σ.2.2 = gRf b)  {Q : Int32 → gSt → Prop} (h : W_X12_barred  Q σ) : Sp o l mX12_barred 8 0 0 [.ref (ad o 65)] 116 116 σ (pI (fun x s => s.2.2 = gRf b ∧ Q x s)) := by
  unfold W_X12_barred at h
  refine Sp.of (ls0 := [some (.ref (ad o 65))]) miX12_barred rfl (Nat.le_of_ble_eq_true rfl) rfl (fun γ hγ hnm X Y => ?_)
  subst hγ
  have X : gX o γ cX12_barred 1 RX12 := X
  refine g_aload_0 (pc := 0) X dX12_barred_0 ?_
  refine g_iconst (pc := 1) X dX12_barred_1 kiconst_0 ?_
  refine g_putI_w (pc := 2) X dX12_barred_2 fl_X12_1 rfl (by decide) rfl rfl hR h (fun s1 hR h => ?_)
  refine g_aload_0 (pc := 5) X dX12_barred_5 ?_
  refine g_callV_V (pc := 6) X Y dX12_barred_6 miX12_weighs li_X12_385 (t_X12_weighs hR  h) rfl (by decide) rfl ⟨_, rfl⟩ rfl ⟨Nat.le_of_ble_eq_true rfl, Nat.le_of_ble_eq_true rfl⟩ (Nat.le_of_ble_eq_true rfl) (Nat.le_of_ble_eq_true rfl) rfl (by exact Nat.le_of_ble_eq_true rfl) (fun s2 hp => ?_)
  obtain ⟨hR, h⟩ := hp
  refine g_aload_0 (pc := 9) X dX12_barred_9 ?_
  refine g_aload_0 (pc := 10) X dX12_barred_10 ?_
  refine g_getRf (pc := 11) X dX12_barred_11 fl_X12_29 rfl (by decide) rfl hR rfl ?_
  refine g_callV_I (pc := 14) X Y dX12_barred_14 miX12_barredIn li_X12_392 (t_X12_barredIn hR (by decide) (by decide) h) rfl (by decide) rfl ⟨_, rfl⟩ rfl ⟨Nat.le_of_ble_eq_true rfl, Nat.le_of_ble_eq_true rfl⟩ (Nat.le_of_ble_eq_true rfl) (Nat.le_of_ble_eq_true rfl) rfl (by exact Nat.le_of_ble_eq_true rfl) (fun x3 σ9 hp => ?_)
  obtain ⟨rfl, h⟩ := hp
  exact g_ireturn (pc := 17) X Y dX12_barred_17 (Nat.le_of_ble_eq_true rfl) (Nat.le_of_ble_eq_true rfl) ⟨_, rfl, hR, h⟩
def L_X12_tries_63 (Q : gSt → Prop)  (K : gSt → Prop) : Nat → Int32 → gSt → Prop
  | 0, _, _ => False
  | n63 + 1, v10, s11 => (((s11.1 65 1) ≤ v10 → (K s11)) ∧ (¬ (s11.1 65 1) ≤ v10 → (rI s11 97 30 v10 (fun x14 => wI s11 99 30 v10 x14 (fun s15 => L_X12_tries_63 Q K n63 (v10 + nI 1) s15)))))
def W_X12_tries (p0 : Int32) (p1 : Int32) (p2 : Int32) (Q : gSt → Prop) (σ : gSt) : Prop := W_X12_barredIn 97 (fun x1 => ((x1 = ((-1 : Int32)) → (W_X12_costOf 97 (fun x3 => ((x3 < (σ.2.1 65 51) → (fZ σ 65 50 (nI 1) (fun s5 => fL s5 65 51 x3 (fun s6 => fI s6 65 52 p0 (fun s7 => fI s7 65 53 p1 (fun s8 => fI s8 65 54 p2 (fun s9 => ∃ m63, L_X12_tries_63 Q (fun s17 => Q s17) m63 (nI 0) s9))))))) ∧ (¬ x3 < (σ.2.1 65 51) → (Q σ)))) σ)) ∧ (¬ x1 = ((-1 : Int32)) → (Q σ)))) σ
set_option maxHeartbeats 4000000 in
theorem t_X12_tries {o : gOm} {l : Launch} {b : Bool}   {σ : gSt} (hR : σ.2.2 = gRf b) {p0 : Int32} {p1 : Int32} {p2 : Int32} {Q : gSt → Prop} (h : W_X12_tries p0 p1 p2 Q σ) : Sp o l mX12_tries 2 0 0 [.ref (ad o 65), .int p0, .int p1, .int p2] 116 116 σ (pV (fun s => s.2.2 = gRf b ∧ Q s)) := by
  unfold W_X12_tries at h
  refine Sp.of (ls0 := [some (.ref (ad o 65)), some (.int p0), some (.int p1), some (.int p2), none, none, none]) miX12_tries rfl (Nat.le_of_ble_eq_true rfl) rfl (fun γ hγ hnm X Y => ?_)
  subst hγ
  have X : gX o γ cX12_tries 7 RX12 := X
  refine g_aload_0 (pc := 0) X dX12_tries_0 ?_
  refine g_aload_0 (pc := 1) X dX12_tries_1 ?_
  refine g_getRf (pc := 2) X dX12_tries_2 fl_X12_114 rfl (by decide) rfl hR rfl ?_
  refine g_callV_I (pc := 5) X Y dX12_tries_5 miX12_barredIn li_X12_392 (t_X12_barredIn hR (by decide) (by decide) h) rfl (by decide) rfl ⟨_, rfl⟩ rfl ⟨Nat.le_of_ble_eq_true rfl, Nat.le_of_ble_eq_true rfl⟩ (Nat.le_of_ble_eq_true rfl) (Nat.le_of_ble_eq_true rfl) rfl (by exact Nat.le_of_ble_eq_true rfl) (fun x1 σ9 hp => ?_)
  obtain ⟨rfl, h⟩ := hp
  refine g_iconst (pc := 8) X dX12_tries_8 kiconst_m1 ?_
  refine g_icmp_eq (pc := 9) X dX12_tries_9 (tgt := 13) (by decide) (fun q2 => ?_) (fun q2 => ?_)
  · replace h := h.1 q2
    refine g_aload_0 (pc := 13) X dX12_tries_13 ?_
    refine g_aload_0 (pc := 14) X dX12_tries_14 ?_
    refine g_getRf (pc := 15) X dX12_tries_15 fl_X12_114 rfl (by decide) rfl hR rfl ?_
    refine g_callV_L (pc := 18) X Y dX12_tries_18 miX12_costOf li_X12_388 (t_X12_costOf hR (by decide) (by decide) h) rfl (by decide) rfl ⟨_, rfl⟩ rfl ⟨Nat.le_of_ble_eq_true rfl, Nat.le_of_ble_eq_true rfl⟩ (Nat.le_of_ble_eq_true rfl) (Nat.le_of_ble_eq_true rfl) rfl (by exact Nat.le_of_ble_eq_true rfl) (fun x3 σ9 hp => ?_)
    obtain ⟨rfl, h⟩ := hp
    refine g_lstore_4 (pc := 21) X dX12_tries_21 (by decide) rfl ?_
    refine g_lload_4 (pc := 23) X dX12_tries_23 ?_
    refine g_aload_0 (pc := 25) X dX12_tries_25 ?_
    refine g_getL (pc := 26) X dX12_tries_26 rfl (by decide) fl_X12_396 rfl ?_
    refine g_lcmp_lt (pc := 29) X dX12_tries_29 dX12_tries_30 (tgt := 34) (by decide) (fun q4 => ?_) (fun q4 => ?_)
    · replace h := h.1 q4
      refine g_aload_0 (pc := 34) X dX12_tries_34 ?_
      refine g_iconst (pc := 35) X dX12_tries_35 kiconst_1 ?_
      refine g_putZ_w (pc := 36) X dX12_tries_36 fl_X12_400 rfl (by decide) rfl rfl hR h (fun s5 hR h => ?_)
      refine g_aload_0 (pc := 39) X dX12_tries_39 ?_
      refine g_lload_4 (pc := 40) X dX12_tries_40 ?_
      refine g_putL_w (pc := 42) X dX12_tries_42 fl_X12_396 rfl (by decide) rfl rfl hR h (fun s6 hR h => ?_)
      refine g_aload_0 (pc := 45) X dX12_tries_45 ?_
      refine g_iload_1 (pc := 46) X dX12_tries_46 ?_
      refine g_putI_w (pc := 47) X dX12_tries_47 fl_X12_404 rfl (by decide) rfl rfl hR h (fun s7 hR h => ?_)
      refine g_aload_0 (pc := 50) X dX12_tries_50 ?_
      refine g_iload_2 (pc := 51) X dX12_tries_51 ?_
      refine g_putI_w (pc := 52) X dX12_tries_52 fl_X12_407 rfl (by decide) rfl rfl hR h (fun s8 hR h => ?_)
      refine g_aload_0 (pc := 55) X dX12_tries_55 ?_
      refine g_iload_3 (pc := 56) X dX12_tries_56 ?_
      refine g_putI_w (pc := 57) X dX12_tries_57 fl_X12_410 rfl (by decide) rfl rfl hR h (fun s9 hR h => ?_)
      refine g_iconst (pc := 60) X dX12_tries_60 kiconst_0 ?_
      refine g_istore_6 (pc := 61) X dX12_tries_61 (by decide) rfl ?_
      obtain ⟨n16, h⟩ := h
      have hL : ∀  (K : gSt → Prop) (_ : ∀  (s12 : gSt), s12.2.2 = gRf b → K s12 → G o γ 0 0 116 s12 92 [some (.ref (ad o 65)), none, none, none, none, none, none] []) (n : Nat) (v10 : Int32) (s11 : gSt), s11.2.2 = gRf b → L_X12_tries_63 Q K n v10 s11 → G o γ 0 0 116 s11 63 [some (.ref (ad o 65)), none, none, none, none, none, some (.int v10)] [] := by
        intro K hK n
        induction n with
        | zero => intro v10 s11 hR h; exact False.elim h
        | succ n ih =>
          intro v10 s11 hR h
          rw [L_X12_tries_63] at h
          refine g_iload_6 (pc := 63) X dX12_tries_63 ?_
          refine g_aload_0 (pc := 65) X dX12_tries_65 ?_
          refine g_getI (pc := 66) X dX12_tries_66 rfl (by decide) fl_X12_177 (Or.inl rfl) ?_
          refine g_icmp_ge (pc := 69) X dX12_tries_69 (tgt := 92) (by decide) (fun q13 => ?_) (fun q13 => ?_)
          · replace h := h.1 q13
            exact g_drop (by simp [lsub]) (hK s11 hR h)
          · replace h := h.2 q13
            refine g_aload_0 (pc := 72) X dX12_tries_72 ?_
            refine g_getRf (pc := 73) X dX12_tries_73 fl_X12_120 rfl (by decide) rfl hR rfl ?_
            refine g_iload_6 (pc := 76) X dX12_tries_76 ?_
            refine g_aload_0 (pc := 78) X dX12_tries_78 ?_
            refine g_getRf (pc := 79) X dX12_tries_79 fl_X12_114 rfl (by decide) rfl hR rfl ?_
            refine g_iload_6 (pc := 82) X dX12_tries_82 ?_
            refine g_iaload_w (pc := 84) X dX12_tries_84 rfl (by decide) h (fun x14 h => ?_)
            refine g_iastore_w (pc := 85) X dX12_tries_85 rfl (by decide) hR h (fun s15 hR h => ?_)
            refine g_iinc_6 (pc := 86) X dX12_tries_86 (v := v10 + nI 1) rfl (by decide) rfl ?_
            refine g_goto (pc := 89) X dX12_tries_89 (tgt := 63) (by decide) ?_
            exact ih (v10 + nI 1) s15 hR h
      refine g_drop (by simp [lsub]) (hL  _ (fun s17 hR h => ?_) n16 (nI 0) s9 hR h)
      · exact g_return (pc := 92) X Y dX12_tries_92 (Nat.le_of_ble_eq_true rfl) (Nat.le_of_ble_eq_true rfl) ⟨rfl, hR, h⟩
    · replace h := h.2 q4
      exact g_return (pc := 33) X Y dX12_tries_33 (Nat.le_of_ble_eq_true rfl) (Nat.le_of_ble_eq_true rfl) ⟨rfl, hR, h⟩
  · replace h := h.2 q2
    exact g_return (pc := 12) X Y dX12_tries_12 (Nat.le_of_ble_eq_true rfl) (Nat.le_of_ble_eq_true rfl) ⟨rfl, hR, h⟩
def L_X12_findBetter_29 (Q : Int32 → gSt → Prop) (c8 : Int32) (K : gSt → Prop) : Nat → Int32 → gSt → Prop
  | 0, _, _ => False
  | n29 + 1, v9, s10 => (((s10.1 65 1) ≤ v9 → (K s10)) ∧ (¬ (s10.1 65 1) ≤ v9 → (rI s10 71 30 v9 (fun x13 => ((x13 = v9 → (rI s10 71 30 c8 (fun x15 => ((v9 = x15 → (L_X12_findBetter_29 Q c8 K n29 (v9 + nI 1) s10)) ∧ (¬ v9 = x15 → (W_X12_copyHand 97 (fun s17 => wI s17 97 30 c8 v9 (fun s18 => W_X12_tries (nI 0) c8 v9 (fun s19 => L_X12_findBetter_29 Q c8 K n29 (v9 + nI 1) s19) s18)) s10)))))) ∧ (¬ x13 = v9 → (L_X12_findBetter_29 Q c8 K n29 (v9 + nI 1) s10)))))))
def L_X12_findBetter_19 (Q : Int32 → gSt → Prop)  (K : gSt → Prop) : Nat → Int32 → gSt → Prop
  | 0, _, _ => False
  | n19 + 1, v4, s5 => (((s5.1 65 1) ≤ v4 → (K s5)) ∧ (¬ (s5.1 65 1) ≤ v4 → (∃ m29, L_X12_findBetter_29 Q v4 (fun s21 => rI s21 71 30 v4 (fun x22 => W_X12_sizeOf x22 (fun x23 => ((x23 = (nI 1) → (L_X12_findBetter_19 Q K n19 (v4 + nI 1) s21)) ∧ (¬ x23 = (nI 1) → (W_X12_copyHand 97 (fun s25 => W_X12_fresh v4 (fun x26 => wI s25 97 30 v4 x26 (fun s27 => W_X12_tries (nI 0) v4 ((-1 : Int32)) (fun s28 => L_X12_findBetter_19 Q K n19 (v4 + nI 1) s28) s27)) s25) s21)))) s21)) m29 (nI 0) s5)))
def L_X12_findBetter_150 (Q : Int32 → gSt → Prop) (c35 : Int32) (K : gSt → Prop) : Nat → Int32 → gSt → Prop
  | 0, _, _ => False
  | n150 + 1, v36, s37 => (((s37.1 65 1) ≤ v36 → (K s37)) ∧ (¬ (s37.1 65 1) ≤ v36 → (rI s37 71 30 c35 (fun x40 => ((x40 = c35 → (rI s37 71 30 v36 (fun x42 => ((x42 = v36 → (W_X12_copyHand 97 (fun s44 => W_X12_joins 97 c35 v36 (fun s45 => W_X12_tries (nI 1) c35 v36 (fun s46 => L_X12_findBetter_150 Q c35 K n150 (v36 + nI 1) s46) s45) s44) s37)) ∧ (¬ x42 = v36 → (L_X12_findBetter_150 Q c35 K n150 (v36 + nI 1) s37)))))) ∧ (¬ x40 = c35 → (L_X12_findBetter_150 Q c35 K n150 (v36 + nI 1) s37)))))))
def L_X12_findBetter_138 (Q : Int32 → gSt → Prop)  (K : gSt → Prop) : Nat → Int32 → gSt → Prop
  | 0, _, _ => False
  | n138 + 1, v31, s32 => (((s32.1 65 1) ≤ v31 → (K s32)) ∧ (¬ (s32.1 65 1) ≤ v31 → (∃ m150, L_X12_findBetter_150 Q v31 (fun s48 => L_X12_findBetter_138 Q K n138 (v31 + nI 1) s48) m150 (v31 + (nI 1)) s32)))
def L_X12_findBetter_232 (Q : Int32 → gSt → Prop) (c55 : Int32) (K : gSt → Prop) : Nat → Int32 → gSt → Prop
  | 0, _, _ => False
  | n232 + 1, v56, s57 => (((s57.1 65 1) ≤ v56 → (K s57)) ∧ (¬ (s57.1 65 1) ≤ v56 → (rI s57 71 30 c55 (fun x60 => rI s57 71 30 v56 (fun x61 => ((x60 = x61 → (L_X12_findBetter_232 Q c55 K n232 (v56 + nI 1) s57)) ∧ (¬ x60 = x61 → (W_X12_copyHand 97 (fun s63 => rI s63 71 30 v56 (fun x64 => wI s63 97 30 c55 x64 (fun s65 => rI s65 71 30 c55 (fun x66 => wI s65 97 30 v56 x66 (fun s67 => W_X12_tries (nI 2) c55 v56 (fun s68 => L_X12_findBetter_232 Q c55 K n232 (v56 + nI 1) s68) s67))))) s57))))))))
def L_X12_findBetter_220 (Q : Int32 → gSt → Prop)  (K : gSt → Prop) : Nat → Int32 → gSt → Prop
  | 0, _, _ => False
  | n220 + 1, v51, s52 => (((s52.1 65 1) ≤ v51 → (K s52)) ∧ (¬ (s52.1 65 1) ≤ v51 → (∃ m232, L_X12_findBetter_232 Q v51 (fun s70 => L_X12_findBetter_220 Q K n220 (v51 + nI 1) s70) m232 (v51 + (nI 1)) s52)))
def W_X12_findBetter  (Q : Int32 → gSt → Prop) (σ : gSt) : Prop := fZ σ 65 50 (nI 0) (fun s1 => W_X12_costOf 71 (fun x2 => fL s1 65 51 x2 (fun s3 => ∃ m19, L_X12_findBetter_19 Q (fun s30 => ∃ m138, L_X12_findBetter_138 Q (fun s50 => ∃ m220, L_X12_findBetter_220 Q (fun s72 => (((s72.1 65 50) = 0 ∨ (s72.1 65 50) = 1) ∧ Q (s72.1 65 50) s72)) m220 (nI 0) s50) m138 (nI 0) s30) m19 (nI 0) s3)) s1)
set_option maxHeartbeats 4000000 in
theorem t_X12_findBetter {o : gOm} {l : Launch} {b : Bool}   {σ : gSt} (hR : σ.2.2 = gRf b)  {Q : Int32 → gSt → Prop} (h : W_X12_findBetter  Q σ) : Sp o l mX12_findBetter 3 0 0 [.ref (ad o 65)] 116 116 σ (pI (fun x s => s.2.2 = gRf b ∧ Q x s)) := by
  unfold W_X12_findBetter at h
  refine Sp.of (ls0 := [some (.ref (ad o 65)), none, none]) miX12_findBetter rfl (Nat.le_of_ble_eq_true rfl) rfl (fun γ hγ hnm X Y => ?_)
  subst hγ
  have X : gX o γ cX12_findBetter 3 RX12 := X
  refine g_aload_0 (pc := 0) X dX12_findBetter_0 ?_
  refine g_iconst (pc := 1) X dX12_findBetter_1 kiconst_0 ?_
  refine g_putZ_w (pc := 2) X dX12_findBetter_2 fl_X12_400 rfl (by decide) rfl rfl hR h (fun s1 hR h => ?_)
  refine g_aload_0 (pc := 5) X dX12_findBetter_5 ?_
  refine g_aload_0 (pc := 6) X dX12_findBetter_6 ?_
  refine g_aload_0 (pc := 7) X dX12_findBetter_7 ?_
  refine g_getRf (pc := 8) X dX12_findBetter_8 fl_X12_29 rfl (by decide) rfl hR rfl ?_
  refine g_callV_L (pc := 11) X Y dX12_findBetter_11 miX12_costOf li_X12_388 (t_X12_costOf hR (by decide) (by decide) h) rfl (by decide) rfl ⟨_, rfl⟩ rfl ⟨Nat.le_of_ble_eq_true rfl, Nat.le_of_ble_eq_true rfl⟩ (Nat.le_of_ble_eq_true rfl) (Nat.le_of_ble_eq_true rfl) rfl (by exact Nat.le_of_ble_eq_true rfl) (fun x2 σ9 hp => ?_)
  obtain ⟨rfl, h⟩ := hp
  refine g_putL_w (pc := 14) X dX12_findBetter_14 fl_X12_396 rfl (by decide) rfl rfl hR h (fun s3 hR h => ?_)
  refine g_iconst (pc := 17) X dX12_findBetter_17 kiconst_0 ?_
  refine g_istore_1 (pc := 18) X dX12_findBetter_18 (by decide) rfl ?_
  obtain ⟨n29, h⟩ := h
  have hL : ∀  (K : gSt → Prop) (_ : ∀  (s6 : gSt), s6.2.2 = gRf b → K s6 → G o γ 0 0 116 s6 136 [some (.ref (ad o 65)), none, none] []) (n : Nat) (v4 : Int32) (s5 : gSt), s5.2.2 = gRf b → L_X12_findBetter_19 Q K n v4 s5 → G o γ 0 0 116 s5 19 [some (.ref (ad o 65)), some (.int v4), none] [] := by
    intro K hK n
    induction n with
    | zero => intro v4 s5 hR h; exact False.elim h
    | succ n ih =>
      intro v4 s5 hR h
      rw [L_X12_findBetter_19] at h
      refine g_iload_1 (pc := 19) X dX12_findBetter_19 ?_
      refine g_aload_0 (pc := 20) X dX12_findBetter_20 ?_
      refine g_getI (pc := 21) X dX12_findBetter_21 rfl (by decide) fl_X12_177 (Or.inl rfl) ?_
      refine g_icmp_ge (pc := 24) X dX12_findBetter_24 (tgt := 136) (by decide) (fun q7 => ?_) (fun q7 => ?_)
      · replace h := h.1 q7
        exact g_drop (by simp [lsub]) (hK s5 hR h)
      · replace h := h.2 q7
        refine g_iconst (pc := 27) X dX12_findBetter_27 kiconst_0 ?_
        refine g_istore_2 (pc := 28) X dX12_findBetter_28 (by decide) rfl ?_
        obtain ⟨n20, h⟩ := h
        have hL : ∀ (c8 : Int32) (K : gSt → Prop) (_ : ∀  (s11 : gSt), s11.2.2 = gRf b → K s11 → G o γ 0 0 116 s11 88 [some (.ref (ad o 65)), some (.int c8), none] []) (n : Nat) (v9 : Int32) (s10 : gSt), s10.2.2 = gRf b → L_X12_findBetter_29 Q c8 K n v9 s10 → G o γ 0 0 116 s10 29 [some (.ref (ad o 65)), some (.int c8), some (.int v9)] [] := by
          intro c8 K hK n
          induction n with
          | zero => intro v9 s10 hR h; exact False.elim h
          | succ n ih =>
            intro v9 s10 hR h
            rw [L_X12_findBetter_29] at h
            refine g_iload_2 (pc := 29) X dX12_findBetter_29 ?_
            refine g_aload_0 (pc := 30) X dX12_findBetter_30 ?_
            refine g_getI (pc := 31) X dX12_findBetter_31 rfl (by decide) fl_X12_177 (Or.inl rfl) ?_
            refine g_icmp_ge (pc := 34) X dX12_findBetter_34 (tgt := 88) (by decide) (fun q12 => ?_) (fun q12 => ?_)
            · replace h := h.1 q12
              exact g_drop (by simp [lsub]) (hK s10 hR h)
            · replace h := h.2 q12
              refine g_aload_0 (pc := 37) X dX12_findBetter_37 ?_
              refine g_getRf (pc := 38) X dX12_findBetter_38 fl_X12_29 rfl (by decide) rfl hR rfl ?_
              refine g_iload_2 (pc := 41) X dX12_findBetter_41 ?_
              refine g_iaload_w (pc := 42) X dX12_findBetter_42 rfl (by decide) h (fun x13 h => ?_)
              refine g_iload_2 (pc := 43) X dX12_findBetter_43 ?_
              refine g_icmp_ne (pc := 44) X dX12_findBetter_44 (tgt := 82) (by decide) (fun q14 => ?_) (fun q14 => ?_)
              · replace h := h.2 q14
                refine g_iinc_2 (pc := 82) X dX12_findBetter_82 (v := v9 + nI 1) rfl (by decide) rfl ?_
                refine g_goto (pc := 85) X dX12_findBetter_85 (tgt := 29) (by decide) ?_
                exact ih (v9 + nI 1) s10 hR h
              · replace h := h.1 q14
                refine g_iload_2 (pc := 47) X dX12_findBetter_47 ?_
                refine g_aload_0 (pc := 48) X dX12_findBetter_48 ?_
                refine g_getRf (pc := 49) X dX12_findBetter_49 fl_X12_29 rfl (by decide) rfl hR rfl ?_
                refine g_iload_1 (pc := 52) X dX12_findBetter_52 ?_
                refine g_iaload_w (pc := 53) X dX12_findBetter_53 rfl (by decide) h (fun x15 h => ?_)
                refine g_icmp_ne (pc := 54) X dX12_findBetter_54 (tgt := 60) (by decide) (fun q16 => ?_) (fun q16 => ?_)
                · replace h := h.2 q16
                  refine g_aload_0 (pc := 60) X dX12_findBetter_60 ?_
                  refine g_aload_0 (pc := 61) X dX12_findBetter_61 ?_
                  refine g_getRf (pc := 62) X dX12_findBetter_62 fl_X12_114 rfl (by decide) rfl hR rfl ?_
                  refine g_callV_V (pc := 65) X Y dX12_findBetter_65 miX12_copyHand li_X12_413 (t_X12_copyHand hR (by decide) (by decide) h) rfl (by decide) rfl ⟨_, rfl⟩ rfl ⟨Nat.le_of_ble_eq_true rfl, Nat.le_of_ble_eq_true rfl⟩ (Nat.le_of_ble_eq_true rfl) (Nat.le_of_ble_eq_true rfl) rfl (by exact Nat.le_of_ble_eq_true rfl) (fun s17 hp => ?_)
                  obtain ⟨hR, h⟩ := hp
                  refine g_aload_0 (pc := 68) X dX12_findBetter_68 ?_
                  refine g_getRf (pc := 69) X dX12_findBetter_69 fl_X12_114 rfl (by decide) rfl hR rfl ?_
                  refine g_iload_1 (pc := 72) X dX12_findBetter_72 ?_
                  refine g_iload_2 (pc := 73) X dX12_findBetter_73 ?_
                  refine g_iastore_w (pc := 74) X dX12_findBetter_74 rfl (by decide) hR h (fun s18 hR h => ?_)
                  refine g_aload_0 (pc := 75) X dX12_findBetter_75 ?_
                  refine g_iconst (pc := 76) X dX12_findBetter_76 kiconst_0 ?_
                  refine g_iload_1 (pc := 77) X dX12_findBetter_77 ?_
                  refine g_iload_2 (pc := 78) X dX12_findBetter_78 ?_
                  refine g_callV_V (pc := 79) X Y dX12_findBetter_79 miX12_tries li_X12_416 (t_X12_tries hR  h) rfl (by decide) rfl ⟨_, rfl⟩ rfl ⟨Nat.le_of_ble_eq_true rfl, Nat.le_of_ble_eq_true rfl⟩ (Nat.le_of_ble_eq_true rfl) (Nat.le_of_ble_eq_true rfl) rfl (by exact Nat.le_of_ble_eq_true rfl) (fun s19 hp => ?_)
                  obtain ⟨hR, h⟩ := hp
                  refine g_iinc_2 (pc := 82) X dX12_findBetter_82 (v := v9 + nI 1) rfl (by decide) rfl ?_
                  refine g_goto (pc := 85) X dX12_findBetter_85 (tgt := 29) (by decide) ?_
                  exact ih (v9 + nI 1) s19 hR h
                · replace h := h.1 q16
                  refine g_goto (pc := 57) X dX12_findBetter_57 (tgt := 82) (by decide) ?_
                  refine g_iinc_2 (pc := 82) X dX12_findBetter_82 (v := v9 + nI 1) rfl (by decide) rfl ?_
                  refine g_goto (pc := 85) X dX12_findBetter_85 (tgt := 29) (by decide) ?_
                  exact ih (v9 + nI 1) s10 hR h
        refine hL v4 _ (fun s21 hR h => ?_) n20 (nI 0) s5 hR h
        · refine g_aload_0 (pc := 88) X dX12_findBetter_88 ?_
          refine g_aload_0 (pc := 89) X dX12_findBetter_89 ?_
          refine g_getRf (pc := 90) X dX12_findBetter_90 fl_X12_29 rfl (by decide) rfl hR rfl ?_
          refine g_iload_1 (pc := 93) X dX12_findBetter_93 ?_
          refine g_iaload_w (pc := 94) X dX12_findBetter_94 rfl (by decide) h (fun x22 h => ?_)
          refine g_callV_I (pc := 95) X Y dX12_findBetter_95 miX12_sizeOf li_X12_375 (t_X12_sizeOf hR  h) rfl (by decide) rfl ⟨_, rfl⟩ rfl ⟨Nat.le_of_ble_eq_true rfl, Nat.le_of_ble_eq_true rfl⟩ (Nat.le_of_ble_eq_true rfl) (Nat.le_of_ble_eq_true rfl) rfl (by exact Nat.le_of_ble_eq_true rfl) (fun x23 σ9 hp => ?_)
          obtain ⟨rfl, h⟩ := hp
          refine g_iconst (pc := 98) X dX12_findBetter_98 kiconst_1 ?_
          refine g_icmp_ne (pc := 99) X dX12_findBetter_99 (tgt := 105) (by decide) (fun q24 => ?_) (fun q24 => ?_)
          · replace h := h.2 q24
            refine g_aload_0 (pc := 105) X dX12_findBetter_105 ?_
            refine g_aload_0 (pc := 106) X dX12_findBetter_106 ?_
            refine g_getRf (pc := 107) X dX12_findBetter_107 fl_X12_114 rfl (by decide) rfl hR rfl ?_
            refine g_callV_V (pc := 110) X Y dX12_findBetter_110 miX12_copyHand li_X12_413 (t_X12_copyHand hR (by decide) (by decide) h) rfl (by decide) rfl ⟨_, rfl⟩ rfl ⟨Nat.le_of_ble_eq_true rfl, Nat.le_of_ble_eq_true rfl⟩ (Nat.le_of_ble_eq_true rfl) (Nat.le_of_ble_eq_true rfl) rfl (by exact Nat.le_of_ble_eq_true rfl) (fun s25 hp => ?_)
            obtain ⟨hR, h⟩ := hp
            refine g_aload_0 (pc := 113) X dX12_findBetter_113 ?_
            refine g_getRf (pc := 114) X dX12_findBetter_114 fl_X12_114 rfl (by decide) rfl hR rfl ?_
            refine g_iload_1 (pc := 117) X dX12_findBetter_117 ?_
            refine g_iload_1 (pc := 118) X dX12_findBetter_118 ?_
            refine g_callS_I (pc := 119) X Y dX12_findBetter_119 miX12_fresh li_X12_378 (t_X12_fresh hR  h) rfl ⟨Nat.le_of_ble_eq_true rfl, Nat.le_of_ble_eq_true rfl⟩ (Nat.le_of_ble_eq_true rfl) (Nat.le_of_ble_eq_true rfl) rfl (by exact Nat.le_of_ble_eq_true rfl) (fun x26 σ9 hp => ?_)
            obtain ⟨rfl, h⟩ := hp
            refine g_iastore_w (pc := 122) X dX12_findBetter_122 rfl (by decide) hR h (fun s27 hR h => ?_)
            refine g_aload_0 (pc := 123) X dX12_findBetter_123 ?_
            refine g_iconst (pc := 124) X dX12_findBetter_124 kiconst_0 ?_
            refine g_iload_1 (pc := 125) X dX12_findBetter_125 ?_
            refine g_iconst (pc := 126) X dX12_findBetter_126 kiconst_m1 ?_
            refine g_callV_V (pc := 127) X Y dX12_findBetter_127 miX12_tries li_X12_416 (t_X12_tries hR  h) rfl (by decide) rfl ⟨_, rfl⟩ rfl ⟨Nat.le_of_ble_eq_true rfl, Nat.le_of_ble_eq_true rfl⟩ (Nat.le_of_ble_eq_true rfl) (Nat.le_of_ble_eq_true rfl) rfl (by exact Nat.le_of_ble_eq_true rfl) (fun s28 hp => ?_)
            obtain ⟨hR, h⟩ := hp
            refine g_iinc_1 (pc := 130) X dX12_findBetter_130 (v := v4 + nI 1) rfl (by decide) rfl ?_
            refine g_goto (pc := 133) X dX12_findBetter_133 (tgt := 19) (by decide) ?_
            exact ih (v4 + nI 1) s28 hR h
          · replace h := h.1 q24
            refine g_goto (pc := 102) X dX12_findBetter_102 (tgt := 130) (by decide) ?_
            refine g_iinc_1 (pc := 130) X dX12_findBetter_130 (v := v4 + nI 1) rfl (by decide) rfl ?_
            refine g_goto (pc := 133) X dX12_findBetter_133 (tgt := 19) (by decide) ?_
            exact ih (v4 + nI 1) s21 hR h
  refine hL  _ (fun s30 hR h => ?_) n29 (nI 0) s3 hR h
  · refine g_iconst (pc := 136) X dX12_findBetter_136 kiconst_0 ?_
    refine g_istore_1 (pc := 137) X dX12_findBetter_137 (by decide) rfl ?_
    obtain ⟨n49, h⟩ := h
    have hL : ∀  (K : gSt → Prop) (_ : ∀  (s33 : gSt), s33.2.2 = gRf b → K s33 → G o γ 0 0 116 s33 218 [some (.ref (ad o 65)), none, none] []) (n : Nat) (v31 : Int32) (s32 : gSt), s32.2.2 = gRf b → L_X12_findBetter_138 Q K n v31 s32 → G o γ 0 0 116 s32 138 [some (.ref (ad o 65)), some (.int v31), none] [] := by
      intro K hK n
      induction n with
      | zero => intro v31 s32 hR h; exact False.elim h
      | succ n ih =>
        intro v31 s32 hR h
        rw [L_X12_findBetter_138] at h
        refine g_iload_1 (pc := 138) X dX12_findBetter_138 ?_
        refine g_aload_0 (pc := 139) X dX12_findBetter_139 ?_
        refine g_getI (pc := 140) X dX12_findBetter_140 rfl (by decide) fl_X12_177 (Or.inl rfl) ?_
        refine g_icmp_ge (pc := 143) X dX12_findBetter_143 (tgt := 218) (by decide) (fun q34 => ?_) (fun q34 => ?_)
        · replace h := h.1 q34
          exact g_drop (by simp [lsub]) (hK s32 hR h)
        · replace h := h.2 q34
          refine g_iload_1 (pc := 146) X dX12_findBetter_146 ?_
          refine g_iconst (pc := 147) X dX12_findBetter_147 kiconst_1 ?_
          refine g_iadd (pc := 148) X dX12_findBetter_148 ?_
          refine g_istore_2 (pc := 149) X dX12_findBetter_149 (by decide) rfl ?_
          obtain ⟨n47, h⟩ := h
          have hL : ∀ (c35 : Int32) (K : gSt → Prop) (_ : ∀  (s38 : gSt), s38.2.2 = gRf b → K s38 → G o γ 0 0 116 s38 212 [some (.ref (ad o 65)), some (.int c35), none] []) (n : Nat) (v36 : Int32) (s37 : gSt), s37.2.2 = gRf b → L_X12_findBetter_150 Q c35 K n v36 s37 → G o γ 0 0 116 s37 150 [some (.ref (ad o 65)), some (.int c35), some (.int v36)] [] := by
            intro c35 K hK n
            induction n with
            | zero => intro v36 s37 hR h; exact False.elim h
            | succ n ih =>
              intro v36 s37 hR h
              rw [L_X12_findBetter_150] at h
              refine g_iload_2 (pc := 150) X dX12_findBetter_150 ?_
              refine g_aload_0 (pc := 151) X dX12_findBetter_151 ?_
              refine g_getI (pc := 152) X dX12_findBetter_152 rfl (by decide) fl_X12_177 (Or.inl rfl) ?_
              refine g_icmp_ge (pc := 155) X dX12_findBetter_155 (tgt := 212) (by decide) (fun q39 => ?_) (fun q39 => ?_)
              · replace h := h.1 q39
                exact g_drop (by simp [lsub]) (hK s37 hR h)
              · replace h := h.2 q39
                refine g_aload_0 (pc := 158) X dX12_findBetter_158 ?_
                refine g_getRf (pc := 159) X dX12_findBetter_159 fl_X12_29 rfl (by decide) rfl hR rfl ?_
                refine g_iload_1 (pc := 162) X dX12_findBetter_162 ?_
                refine g_iaload_w (pc := 163) X dX12_findBetter_163 rfl (by decide) h (fun x40 h => ?_)
                refine g_iload_1 (pc := 164) X dX12_findBetter_164 ?_
                refine g_icmp_ne (pc := 165) X dX12_findBetter_165 (tgt := 206) (by decide) (fun q41 => ?_) (fun q41 => ?_)
                · replace h := h.2 q41
                  refine g_iinc_2 (pc := 206) X dX12_findBetter_206 (v := v36 + nI 1) rfl (by decide) rfl ?_
                  refine g_goto (pc := 209) X dX12_findBetter_209 (tgt := 150) (by decide) ?_
                  exact ih (v36 + nI 1) s37 hR h
                · replace h := h.1 q41
                  refine g_aload_0 (pc := 168) X dX12_findBetter_168 ?_
                  refine g_getRf (pc := 169) X dX12_findBetter_169 fl_X12_29 rfl (by decide) rfl hR rfl ?_
                  refine g_iload_2 (pc := 172) X dX12_findBetter_172 ?_
                  refine g_iaload_w (pc := 173) X dX12_findBetter_173 rfl (by decide) h (fun x42 h => ?_)
                  refine g_iload_2 (pc := 174) X dX12_findBetter_174 ?_
                  refine g_icmp_eq (pc := 175) X dX12_findBetter_175 (tgt := 181) (by decide) (fun q43 => ?_) (fun q43 => ?_)
                  · replace h := h.1 q43
                    refine g_aload_0 (pc := 181) X dX12_findBetter_181 ?_
                    refine g_aload_0 (pc := 182) X dX12_findBetter_182 ?_
                    refine g_getRf (pc := 183) X dX12_findBetter_183 fl_X12_114 rfl (by decide) rfl hR rfl ?_
                    refine g_callV_V (pc := 186) X Y dX12_findBetter_186 miX12_copyHand li_X12_413 (t_X12_copyHand hR (by decide) (by decide) h) rfl (by decide) rfl ⟨_, rfl⟩ rfl ⟨Nat.le_of_ble_eq_true rfl, Nat.le_of_ble_eq_true rfl⟩ (Nat.le_of_ble_eq_true rfl) (Nat.le_of_ble_eq_true rfl) rfl (by exact Nat.le_of_ble_eq_true rfl) (fun s44 hp => ?_)
                    obtain ⟨hR, h⟩ := hp
                    refine g_aload_0 (pc := 189) X dX12_findBetter_189 ?_
                    refine g_aload_0 (pc := 190) X dX12_findBetter_190 ?_
                    refine g_getRf (pc := 191) X dX12_findBetter_191 fl_X12_114 rfl (by decide) rfl hR rfl ?_
                    refine g_iload_1 (pc := 194) X dX12_findBetter_194 ?_
                    refine g_iload_2 (pc := 195) X dX12_findBetter_195 ?_
                    refine g_callV_V (pc := 196) X Y dX12_findBetter_196 miX12_joins li_X12_381 (t_X12_joins hR (by decide) (by decide) h) rfl (by decide) rfl ⟨_, rfl⟩ rfl ⟨Nat.le_of_ble_eq_true rfl, Nat.le_of_ble_eq_true rfl⟩ (Nat.le_of_ble_eq_true rfl) (Nat.le_of_ble_eq_true rfl) rfl (by exact Nat.le_of_ble_eq_true rfl) (fun s45 hp => ?_)
                    obtain ⟨hR, h⟩ := hp
                    refine g_aload_0 (pc := 199) X dX12_findBetter_199 ?_
                    refine g_iconst (pc := 200) X dX12_findBetter_200 kiconst_1 ?_
                    refine g_iload_1 (pc := 201) X dX12_findBetter_201 ?_
                    refine g_iload_2 (pc := 202) X dX12_findBetter_202 ?_
                    refine g_callV_V (pc := 203) X Y dX12_findBetter_203 miX12_tries li_X12_416 (t_X12_tries hR  h) rfl (by decide) rfl ⟨_, rfl⟩ rfl ⟨Nat.le_of_ble_eq_true rfl, Nat.le_of_ble_eq_true rfl⟩ (Nat.le_of_ble_eq_true rfl) (Nat.le_of_ble_eq_true rfl) rfl (by exact Nat.le_of_ble_eq_true rfl) (fun s46 hp => ?_)
                    obtain ⟨hR, h⟩ := hp
                    refine g_iinc_2 (pc := 206) X dX12_findBetter_206 (v := v36 + nI 1) rfl (by decide) rfl ?_
                    refine g_goto (pc := 209) X dX12_findBetter_209 (tgt := 150) (by decide) ?_
                    exact ih (v36 + nI 1) s46 hR h
                  · replace h := h.2 q43
                    refine g_goto (pc := 178) X dX12_findBetter_178 (tgt := 206) (by decide) ?_
                    refine g_iinc_2 (pc := 206) X dX12_findBetter_206 (v := v36 + nI 1) rfl (by decide) rfl ?_
                    refine g_goto (pc := 209) X dX12_findBetter_209 (tgt := 150) (by decide) ?_
                    exact ih (v36 + nI 1) s37 hR h
          refine hL v31 _ (fun s48 hR h => ?_) n47 (v31 + (nI 1)) s32 hR h
          · refine g_iinc_1 (pc := 212) X dX12_findBetter_212 (v := v31 + nI 1) rfl (by decide) rfl ?_
            refine g_goto (pc := 215) X dX12_findBetter_215 (tgt := 138) (by decide) ?_
            exact ih (v31 + nI 1) s48 hR h
    refine hL  _ (fun s50 hR h => ?_) n49 (nI 0) s30 hR h
    · refine g_iconst (pc := 218) X dX12_findBetter_218 kiconst_0 ?_
      refine g_istore_1 (pc := 219) X dX12_findBetter_219 (by decide) rfl ?_
      obtain ⟨n71, h⟩ := h
      have hL : ∀  (K : gSt → Prop) (_ : ∀  (s53 : gSt), s53.2.2 = gRf b → K s53 → G o γ 0 0 116 s53 309 [some (.ref (ad o 65)), none, none] []) (n : Nat) (v51 : Int32) (s52 : gSt), s52.2.2 = gRf b → L_X12_findBetter_220 Q K n v51 s52 → G o γ 0 0 116 s52 220 [some (.ref (ad o 65)), some (.int v51), none] [] := by
        intro K hK n
        induction n with
        | zero => intro v51 s52 hR h; exact False.elim h
        | succ n ih =>
          intro v51 s52 hR h
          rw [L_X12_findBetter_220] at h
          refine g_iload_1 (pc := 220) X dX12_findBetter_220 ?_
          refine g_aload_0 (pc := 221) X dX12_findBetter_221 ?_
          refine g_getI (pc := 222) X dX12_findBetter_222 rfl (by decide) fl_X12_177 (Or.inl rfl) ?_
          refine g_icmp_ge (pc := 225) X dX12_findBetter_225 (tgt := 309) (by decide) (fun q54 => ?_) (fun q54 => ?_)
          · replace h := h.1 q54
            exact g_drop (by simp [lsub]) (hK s52 hR h)
          · replace h := h.2 q54
            refine g_iload_1 (pc := 228) X dX12_findBetter_228 ?_
            refine g_iconst (pc := 229) X dX12_findBetter_229 kiconst_1 ?_
            refine g_iadd (pc := 230) X dX12_findBetter_230 ?_
            refine g_istore_2 (pc := 231) X dX12_findBetter_231 (by decide) rfl ?_
            obtain ⟨n69, h⟩ := h
            have hL : ∀ (c55 : Int32) (K : gSt → Prop) (_ : ∀  (s58 : gSt), s58.2.2 = gRf b → K s58 → G o γ 0 0 116 s58 303 [some (.ref (ad o 65)), some (.int c55), none] []) (n : Nat) (v56 : Int32) (s57 : gSt), s57.2.2 = gRf b → L_X12_findBetter_232 Q c55 K n v56 s57 → G o γ 0 0 116 s57 232 [some (.ref (ad o 65)), some (.int c55), some (.int v56)] [] := by
              intro c55 K hK n
              induction n with
              | zero => intro v56 s57 hR h; exact False.elim h
              | succ n ih =>
                intro v56 s57 hR h
                rw [L_X12_findBetter_232] at h
                refine g_iload_2 (pc := 232) X dX12_findBetter_232 ?_
                refine g_aload_0 (pc := 233) X dX12_findBetter_233 ?_
                refine g_getI (pc := 234) X dX12_findBetter_234 rfl (by decide) fl_X12_177 (Or.inl rfl) ?_
                refine g_icmp_ge (pc := 237) X dX12_findBetter_237 (tgt := 303) (by decide) (fun q59 => ?_) (fun q59 => ?_)
                · replace h := h.1 q59
                  exact g_drop (by simp [lsub]) (hK s57 hR h)
                · replace h := h.2 q59
                  refine g_aload_0 (pc := 240) X dX12_findBetter_240 ?_
                  refine g_getRf (pc := 241) X dX12_findBetter_241 fl_X12_29 rfl (by decide) rfl hR rfl ?_
                  refine g_iload_1 (pc := 244) X dX12_findBetter_244 ?_
                  refine g_iaload_w (pc := 245) X dX12_findBetter_245 rfl (by decide) h (fun x60 h => ?_)
                  refine g_aload_0 (pc := 246) X dX12_findBetter_246 ?_
                  refine g_getRf (pc := 247) X dX12_findBetter_247 fl_X12_29 rfl (by decide) rfl hR rfl ?_
                  refine g_iload_2 (pc := 250) X dX12_findBetter_250 ?_
                  refine g_iaload_w (pc := 251) X dX12_findBetter_251 rfl (by decide) h (fun x61 h => ?_)
                  refine g_icmp_ne (pc := 252) X dX12_findBetter_252 (tgt := 258) (by decide) (fun q62 => ?_) (fun q62 => ?_)
                  · replace h := h.2 q62
                    refine g_aload_0 (pc := 258) X dX12_findBetter_258 ?_
                    refine g_aload_0 (pc := 259) X dX12_findBetter_259 ?_
                    refine g_getRf (pc := 260) X dX12_findBetter_260 fl_X12_114 rfl (by decide) rfl hR rfl ?_
                    refine g_callV_V (pc := 263) X Y dX12_findBetter_263 miX12_copyHand li_X12_413 (t_X12_copyHand hR (by decide) (by decide) h) rfl (by decide) rfl ⟨_, rfl⟩ rfl ⟨Nat.le_of_ble_eq_true rfl, Nat.le_of_ble_eq_true rfl⟩ (Nat.le_of_ble_eq_true rfl) (Nat.le_of_ble_eq_true rfl) rfl (by exact Nat.le_of_ble_eq_true rfl) (fun s63 hp => ?_)
                    obtain ⟨hR, h⟩ := hp
                    refine g_aload_0 (pc := 266) X dX12_findBetter_266 ?_
                    refine g_getRf (pc := 267) X dX12_findBetter_267 fl_X12_114 rfl (by decide) rfl hR rfl ?_
                    refine g_iload_1 (pc := 270) X dX12_findBetter_270 ?_
                    refine g_aload_0 (pc := 271) X dX12_findBetter_271 ?_
                    refine g_getRf (pc := 272) X dX12_findBetter_272 fl_X12_29 rfl (by decide) rfl hR rfl ?_
                    refine g_iload_2 (pc := 275) X dX12_findBetter_275 ?_
                    refine g_iaload_w (pc := 276) X dX12_findBetter_276 rfl (by decide) h (fun x64 h => ?_)
                    refine g_iastore_w (pc := 277) X dX12_findBetter_277 rfl (by decide) hR h (fun s65 hR h => ?_)
                    refine g_aload_0 (pc := 278) X dX12_findBetter_278 ?_
                    refine g_getRf (pc := 279) X dX12_findBetter_279 fl_X12_114 rfl (by decide) rfl hR rfl ?_
                    refine g_iload_2 (pc := 282) X dX12_findBetter_282 ?_
                    refine g_aload_0 (pc := 283) X dX12_findBetter_283 ?_
                    refine g_getRf (pc := 284) X dX12_findBetter_284 fl_X12_29 rfl (by decide) rfl hR rfl ?_
                    refine g_iload_1 (pc := 287) X dX12_findBetter_287 ?_
                    refine g_iaload_w (pc := 288) X dX12_findBetter_288 rfl (by decide) h (fun x66 h => ?_)
                    refine g_iastore_w (pc := 289) X dX12_findBetter_289 rfl (by decide) hR h (fun s67 hR h => ?_)
                    refine g_aload_0 (pc := 290) X dX12_findBetter_290 ?_
                    refine g_iconst (pc := 291) X dX12_findBetter_291 kiconst_2 ?_
                    refine g_iload_1 (pc := 292) X dX12_findBetter_292 ?_
                    refine g_iload_2 (pc := 293) X dX12_findBetter_293 ?_
                    refine g_callV_V (pc := 294) X Y dX12_findBetter_294 miX12_tries li_X12_416 (t_X12_tries hR  h) rfl (by decide) rfl ⟨_, rfl⟩ rfl ⟨Nat.le_of_ble_eq_true rfl, Nat.le_of_ble_eq_true rfl⟩ (Nat.le_of_ble_eq_true rfl) (Nat.le_of_ble_eq_true rfl) rfl (by exact Nat.le_of_ble_eq_true rfl) (fun s68 hp => ?_)
                    obtain ⟨hR, h⟩ := hp
                    refine g_iinc_2 (pc := 297) X dX12_findBetter_297 (v := v56 + nI 1) rfl (by decide) rfl ?_
                    refine g_goto (pc := 300) X dX12_findBetter_300 (tgt := 232) (by decide) ?_
                    exact ih (v56 + nI 1) s68 hR h
                  · replace h := h.1 q62
                    refine g_goto (pc := 255) X dX12_findBetter_255 (tgt := 297) (by decide) ?_
                    refine g_iinc_2 (pc := 297) X dX12_findBetter_297 (v := v56 + nI 1) rfl (by decide) rfl ?_
                    refine g_goto (pc := 300) X dX12_findBetter_300 (tgt := 232) (by decide) ?_
                    exact ih (v56 + nI 1) s57 hR h
            refine hL v51 _ (fun s70 hR h => ?_) n69 (v51 + (nI 1)) s52 hR h
            · refine g_iinc_1 (pc := 303) X dX12_findBetter_303 (v := v51 + nI 1) rfl (by decide) rfl ?_
              refine g_goto (pc := 306) X dX12_findBetter_306 (tgt := 220) (by decide) ?_
              exact ih (v51 + nI 1) s70 hR h
      refine hL  _ (fun s72 hR h => ?_) n71 (nI 0) s50 hR h
      · refine g_aload_0 (pc := 309) X dX12_findBetter_309 ?_
        refine g_getI (pc := 310) X dX12_findBetter_310 rfl (by decide) fl_X12_400 (Or.inr rfl) ?_
        exact g_zreturn (pc := 313) X Y dX12_findBetter_313 h.1 (Nat.le_of_ble_eq_true rfl) (Nat.le_of_ble_eq_true rfl) ⟨_, rfl, hR, h.2⟩
def W_X12_better (p0 : Int32) (Q : Int64 → gSt → Prop) (σ : gSt) : Prop := fI σ 65 0 (nI 0) (fun s1 => W_X12_within p0 (nI 0) (nI 3) (fun x2 => W_X12_may x2 (nI 1) (fun x3 s4 => ((x3 = 0 → (Q (lN 0) s4)) ∧ (¬ x3 = 0 → (W_X12_weighs (fun s6 => W_X12_barredIn 71 (fun x7 => ∀ J9 : gSt → Prop, (∀ s8, (Q ((-2147483648 : Int64)) s8) → J9 s8) → ((x7 = ((-1 : Int32)) → (W_X12_findBetter (fun x11 s12 => ((x11 = 0 → (J9 s12)) ∧ (¬ x11 = 0 → (((p0 = 0 → (Q (s12.2.1 65 51) s12)) ∧ (¬ p0 = 0 → (((p0 = (nI 1) → (Q (i2l (s12.1 65 52)) s12)) ∧ (¬ p0 = (nI 1) → (((p0 = (nI 2) → (Q (i2l (s12.1 65 53)) s12)) ∧ (¬ p0 = (nI 2) → (Q (i2l (s12.1 65 54)) s12))))))))))))) s6)) ∧ (¬ x7 = ((-1 : Int32)) → (J9 s6)))) s6) s4)))) s1) s1)
set_option maxHeartbeats 4000000 in
theorem t_X12_better {o : gOm} {l : Launch} {b : Bool}   {σ : gSt} (hR : σ.2.2 = gRf b) {p0 : Int32} {Q : Int64 → gSt → Prop} (h : W_X12_better p0 Q σ) : Sp o l mX12_better 8 0 0 [.ref (ad o 65), .int p0] 116 116 σ (pL (fun x s => s.2.2 = gRf b ∧ Q x s)) := by
  unfold W_X12_better at h
  refine Sp.of (ls0 := [some (.ref (ad o 65)), some (.int p0)]) miX12_better rfl (Nat.le_of_ble_eq_true rfl) rfl (fun γ hγ hnm X Y => ?_)
  subst hγ
  have X : gX o γ cX12_better 2 RX12 := X
  refine g_aload_0 (pc := 0) X dX12_better_0 ?_
  refine g_iconst (pc := 1) X dX12_better_1 kiconst_0 ?_
  refine g_putI_w (pc := 2) X dX12_better_2 fl_X12_1 rfl (by decide) rfl rfl hR h (fun s1 hR h => ?_)
  refine g_aload_0 (pc := 5) X dX12_better_5 ?_
  refine g_iload_1 (pc := 6) X dX12_better_6 ?_
  refine g_iconst (pc := 7) X dX12_better_7 kiconst_0 ?_
  refine g_iconst (pc := 8) X dX12_better_8 kiconst_3 ?_
  refine g_callS_I (pc := 9) X Y dX12_better_9 miX12_within li_X12_169 (t_X12_within hR  h) rfl ⟨Nat.le_of_ble_eq_true rfl, Nat.le_of_ble_eq_true rfl⟩ (Nat.le_of_ble_eq_true rfl) (Nat.le_of_ble_eq_true rfl) rfl (by exact Nat.le_of_ble_eq_true rfl) (fun x2 σ9 hp => ?_)
  obtain ⟨rfl, h⟩ := hp
  refine g_iconst (pc := 12) X dX12_better_12 kiconst_1 ?_
  refine g_callV_I (pc := 13) X Y dX12_better_13 miX12_may li_X12_173 (t_X12_may hR  h) rfl (by decide) rfl ⟨_, rfl⟩ rfl ⟨Nat.le_of_ble_eq_true rfl, Nat.le_of_ble_eq_true rfl⟩ (Nat.le_of_ble_eq_true rfl) (Nat.le_of_ble_eq_true rfl) rfl (by exact Nat.le_of_ble_eq_true rfl) (fun x3 s4 hp => ?_)
  obtain ⟨hR, h⟩ := hp
  refine g_if_ne (pc := 16) X dX12_better_16 (tgt := 21) (by decide) (fun q5 => ?_) (fun q5 => ?_)
  · replace h := h.2 q5
    refine g_aload_0 (pc := 21) X dX12_better_21 ?_
    refine g_callV_V (pc := 22) X Y dX12_better_22 miX12_weighs li_X12_385 (t_X12_weighs hR  h) rfl (by decide) rfl ⟨_, rfl⟩ rfl ⟨Nat.le_of_ble_eq_true rfl, Nat.le_of_ble_eq_true rfl⟩ (Nat.le_of_ble_eq_true rfl) (Nat.le_of_ble_eq_true rfl) rfl (by exact Nat.le_of_ble_eq_true rfl) (fun s6 hp => ?_)
    obtain ⟨hR, h⟩ := hp
    refine g_aload_0 (pc := 25) X dX12_better_25 ?_
    refine g_aload_0 (pc := 26) X dX12_better_26 ?_
    refine g_getRf (pc := 27) X dX12_better_27 fl_X12_29 rfl (by decide) rfl hR rfl ?_
    refine g_callV_I (pc := 30) X Y dX12_better_30 miX12_barredIn li_X12_392 (t_X12_barredIn hR (by decide) (by decide) h) rfl (by decide) rfl ⟨_, rfl⟩ rfl ⟨Nat.le_of_ble_eq_true rfl, Nat.le_of_ble_eq_true rfl⟩ (Nat.le_of_ble_eq_true rfl) (Nat.le_of_ble_eq_true rfl) rfl (by exact Nat.le_of_ble_eq_true rfl) (fun x7 σ9 hp => ?_)
    obtain ⟨rfl, h⟩ := hp
    refine g_iconst (pc := 33) X dX12_better_33 kiconst_m1 ?_
    replace h := h (fun s8 => s8.2.2 = gRf b → G o γ 0 0 116 s8 44 [none, none] []) (by
        intro s8 h hR
        refine g_ldc2 (pc := 44) X dX12_better_44 ct_X12_423 ?_
        exact g_lreturn (pc := 47) X Y dX12_better_47 (Nat.le_of_ble_eq_true rfl) (Nat.le_of_ble_eq_true rfl) ⟨_, rfl, hR, h⟩)
    refine g_icmp_ne (pc := 34) X dX12_better_34 (tgt := 44) (by decide) (fun q10 => ?_) (fun q10 => ?_)
    · replace h := h.2 q10
      exact g_drop (by simp [lsub]) (h hR)
    · replace h := h.1 q10
      refine g_aload_0 (pc := 37) X dX12_better_37 ?_
      refine g_callV_I (pc := 38) X Y dX12_better_38 miX12_findBetter li_X12_420 (t_X12_findBetter hR  h) rfl (by decide) rfl ⟨_, rfl⟩ rfl ⟨Nat.le_of_ble_eq_true rfl, Nat.le_of_ble_eq_true rfl⟩ (Nat.le_of_ble_eq_true rfl) (Nat.le_of_ble_eq_true rfl) rfl (by exact Nat.le_of_ble_eq_true rfl) (fun x11 s12 hp => ?_)
      obtain ⟨hR, h⟩ := hp
      refine g_if_ne (pc := 41) X dX12_better_41 (tgt := 48) (by decide) (fun q13 => ?_) (fun q13 => ?_)
      · replace h := h.2 q13
        refine g_iload_1 (pc := 48) X dX12_better_48 ?_
        refine g_if_ne (pc := 49) X dX12_better_49 (tgt := 59) (by decide) (fun q14 => ?_) (fun q14 => ?_)
        · replace h := h.2 q14
          refine g_iload_1 (pc := 59) X dX12_better_59 ?_
          refine g_iconst (pc := 60) X dX12_better_60 kiconst_1 ?_
          refine g_icmp_ne (pc := 61) X dX12_better_61 (tgt := 72) (by decide) (fun q15 => ?_) (fun q15 => ?_)
          · replace h := h.2 q15
            refine g_iload_1 (pc := 72) X dX12_better_72 ?_
            refine g_iconst (pc := 73) X dX12_better_73 kiconst_2 ?_
            refine g_icmp_ne (pc := 74) X dX12_better_74 (tgt := 85) (by decide) (fun q16 => ?_) (fun q16 => ?_)
            · replace h := h.2 q16
              refine g_aload_0 (pc := 85) X dX12_better_85 ?_
              refine g_getI (pc := 86) X dX12_better_86 rfl (by decide) fl_X12_410 (Or.inl rfl) ?_
              refine g_i2l (pc := 89) X dX12_better_89 ?_
              exact g_lreturn (pc := 90) X Y dX12_better_90 (Nat.le_of_ble_eq_true rfl) (Nat.le_of_ble_eq_true rfl) ⟨_, rfl, hR, h⟩
            · replace h := h.1 q16
              refine g_aload_0 (pc := 77) X dX12_better_77 ?_
              refine g_getI (pc := 78) X dX12_better_78 rfl (by decide) fl_X12_407 (Or.inl rfl) ?_
              refine g_i2l (pc := 81) X dX12_better_81 ?_
              refine g_goto (pc := 82) X dX12_better_82 (tgt := 90) (by decide) ?_
              exact g_lreturn (pc := 90) X Y dX12_better_90 (Nat.le_of_ble_eq_true rfl) (Nat.le_of_ble_eq_true rfl) ⟨_, rfl, hR, h⟩
          · replace h := h.1 q15
            refine g_aload_0 (pc := 64) X dX12_better_64 ?_
            refine g_getI (pc := 65) X dX12_better_65 rfl (by decide) fl_X12_404 (Or.inl rfl) ?_
            refine g_i2l (pc := 68) X dX12_better_68 ?_
            refine g_goto (pc := 69) X dX12_better_69 (tgt := 90) (by decide) ?_
            exact g_lreturn (pc := 90) X Y dX12_better_90 (Nat.le_of_ble_eq_true rfl) (Nat.le_of_ble_eq_true rfl) ⟨_, rfl, hR, h⟩
        · replace h := h.1 q14
          refine g_aload_0 (pc := 52) X dX12_better_52 ?_
          refine g_getL (pc := 53) X dX12_better_53 rfl (by decide) fl_X12_396 rfl ?_
          refine g_goto (pc := 56) X dX12_better_56 (tgt := 90) (by decide) ?_
          exact g_lreturn (pc := 90) X Y dX12_better_90 (Nat.le_of_ble_eq_true rfl) (Nat.le_of_ble_eq_true rfl) ⟨_, rfl, hR, h⟩
      · replace h := h.1 q13
        exact g_drop (by simp [lsub]) (h hR)
  · replace h := h.1 q5
    refine g_lconst (pc := 19) X dX12_better_19 (v := lN 0) rfl ?_
    exact g_lreturn (pc := 20) X Y dX12_better_20 (Nat.le_of_ble_eq_true rfl) (Nat.le_of_ble_eq_true rfl) ⟨_, rfl, hR, h⟩
def L_X12_grow_42 (Q : Int32 → gSt → Prop) (c9 : Int32) (K : Int32 → gSt → Prop) : Nat → Int32 → gSt → Prop
  | 0, _, _ => False
  | n42 + 1, v10, s11 => ((c9 ≤ v10 → (K v10 s11)) ∧ (¬ c9 ≤ v10 → (W_X12_findBetter (fun x15 s16 => ((x15 = 0 → (K v10 s16)) ∧ (¬ x15 = 0 → (W_X12_takes 99 (fun s18 => L_X12_grow_42 Q c9 K n42 (v10 + nI 1) s18) s16)))) s11)))
def W_X12_grow (p0 : Int32) (Q : Int32 → gSt → Prop) (σ : gSt) : Prop := fI σ 65 0 (nI 0) (fun s1 => W_X12_within p0 (nI 0) (nI 100) (fun x2 => W_X12_may x2 (nI 1) (fun x3 s4 => ((x3 = 0 → (Q (nI 0) s4)) ∧ (¬ x3 = 0 → (W_X12_weighs (fun s6 => W_X12_barredIn 71 (fun x7 => ((x7 = ((-1 : Int32)) → (∃ m42, L_X12_grow_42 Q p0 (fun y20 s21 => Q y20 s21) m42 (nI 0) s6)) ∧ (¬ x7 = ((-1 : Int32)) → (Q ((-1 : Int32)) s6)))) s6) s4)))) s1) s1)
set_option maxHeartbeats 4000000 in
theorem t_X12_grow {o : gOm} {l : Launch} {b : Bool}   {σ : gSt} (hR : σ.2.2 = gRf b) {p0 : Int32} {Q : Int32 → gSt → Prop} (h : W_X12_grow p0 Q σ) : Sp o l mX12_grow 8 0 0 [.ref (ad o 65), .int p0] 116 116 σ (pI (fun x s => s.2.2 = gRf b ∧ Q x s)) := by
  unfold W_X12_grow at h
  refine Sp.of (ls0 := [some (.ref (ad o 65)), some (.int p0), none]) miX12_grow rfl (Nat.le_of_ble_eq_true rfl) rfl (fun γ hγ hnm X Y => ?_)
  subst hγ
  have X : gX o γ cX12_grow 3 RX12 := X
  refine g_aload_0 (pc := 0) X dX12_grow_0 ?_
  refine g_iconst (pc := 1) X dX12_grow_1 kiconst_0 ?_
  refine g_putI_w (pc := 2) X dX12_grow_2 fl_X12_1 rfl (by decide) rfl rfl hR h (fun s1 hR h => ?_)
  refine g_aload_0 (pc := 5) X dX12_grow_5 ?_
  refine g_iload_1 (pc := 6) X dX12_grow_6 ?_
  refine g_iconst (pc := 7) X dX12_grow_7 kiconst_0 ?_
  refine g_bipush (pc := 8) X dX12_grow_8 kbipush_100 ?_
  refine g_callS_I (pc := 10) X Y dX12_grow_10 miX12_within li_X12_169 (t_X12_within hR  h) rfl ⟨Nat.le_of_ble_eq_true rfl, Nat.le_of_ble_eq_true rfl⟩ (Nat.le_of_ble_eq_true rfl) (Nat.le_of_ble_eq_true rfl) rfl (by exact Nat.le_of_ble_eq_true rfl) (fun x2 σ9 hp => ?_)
  obtain ⟨rfl, h⟩ := hp
  refine g_iconst (pc := 13) X dX12_grow_13 kiconst_1 ?_
  refine g_callV_I (pc := 14) X Y dX12_grow_14 miX12_may li_X12_173 (t_X12_may hR  h) rfl (by decide) rfl ⟨_, rfl⟩ rfl ⟨Nat.le_of_ble_eq_true rfl, Nat.le_of_ble_eq_true rfl⟩ (Nat.le_of_ble_eq_true rfl) (Nat.le_of_ble_eq_true rfl) rfl (by exact Nat.le_of_ble_eq_true rfl) (fun x3 s4 hp => ?_)
  obtain ⟨hR, h⟩ := hp
  refine g_if_ne (pc := 17) X dX12_grow_17 (tgt := 22) (by decide) (fun q5 => ?_) (fun q5 => ?_)
  · replace h := h.2 q5
    refine g_aload_0 (pc := 22) X dX12_grow_22 ?_
    refine g_callV_V (pc := 23) X Y dX12_grow_23 miX12_weighs li_X12_385 (t_X12_weighs hR  h) rfl (by decide) rfl ⟨_, rfl⟩ rfl ⟨Nat.le_of_ble_eq_true rfl, Nat.le_of_ble_eq_true rfl⟩ (Nat.le_of_ble_eq_true rfl) (Nat.le_of_ble_eq_true rfl) rfl (by exact Nat.le_of_ble_eq_true rfl) (fun s6 hp => ?_)
    obtain ⟨hR, h⟩ := hp
    refine g_aload_0 (pc := 26) X dX12_grow_26 ?_
    refine g_aload_0 (pc := 27) X dX12_grow_27 ?_
    refine g_getRf (pc := 28) X dX12_grow_28 fl_X12_29 rfl (by decide) rfl hR rfl ?_
    refine g_callV_I (pc := 31) X Y dX12_grow_31 miX12_barredIn li_X12_392 (t_X12_barredIn hR (by decide) (by decide) h) rfl (by decide) rfl ⟨_, rfl⟩ rfl ⟨Nat.le_of_ble_eq_true rfl, Nat.le_of_ble_eq_true rfl⟩ (Nat.le_of_ble_eq_true rfl) (Nat.le_of_ble_eq_true rfl) rfl (by exact Nat.le_of_ble_eq_true rfl) (fun x7 σ9 hp => ?_)
    obtain ⟨rfl, h⟩ := hp
    refine g_iconst (pc := 34) X dX12_grow_34 kiconst_m1 ?_
    refine g_icmp_eq (pc := 35) X dX12_grow_35 (tgt := 40) (by decide) (fun q8 => ?_) (fun q8 => ?_)
    · replace h := h.1 q8
      refine g_iconst (pc := 40) X dX12_grow_40 kiconst_0 ?_
      refine g_istore_2 (pc := 41) X dX12_grow_41 (by decide) rfl ?_
      obtain ⟨n19, h⟩ := h
      have hL : ∀ (c9 : Int32) (K : Int32 → gSt → Prop) (_ : ∀ (y12 : Int32) (s13 : gSt), s13.2.2 = gRf b → K y12 s13 → G o γ 0 0 116 s13 68 [some (.ref (ad o 65)), some (.int c9), some (.int y12)] []) (n : Nat) (v10 : Int32) (s11 : gSt), s11.2.2 = gRf b → L_X12_grow_42 Q c9 K n v10 s11 → G o γ 0 0 116 s11 42 [some (.ref (ad o 65)), some (.int c9), some (.int v10)] [] := by
        intro c9 K hK n
        induction n with
        | zero => intro v10 s11 hR h; exact False.elim h
        | succ n ih =>
          intro v10 s11 hR h
          rw [L_X12_grow_42] at h
          refine g_iload_2 (pc := 42) X dX12_grow_42 ?_
          refine g_iload_1 (pc := 43) X dX12_grow_43 ?_
          refine g_icmp_ge (pc := 44) X dX12_grow_44 (tgt := 68) (by decide) (fun q14 => ?_) (fun q14 => ?_)
          · replace h := h.1 q14
            exact hK v10 s11 hR h
          · replace h := h.2 q14
            refine g_aload_0 (pc := 47) X dX12_grow_47 ?_
            refine g_callV_I (pc := 48) X Y dX12_grow_48 miX12_findBetter li_X12_420 (t_X12_findBetter hR  h) rfl (by decide) rfl ⟨_, rfl⟩ rfl ⟨Nat.le_of_ble_eq_true rfl, Nat.le_of_ble_eq_true rfl⟩ (Nat.le_of_ble_eq_true rfl) (Nat.le_of_ble_eq_true rfl) rfl (by exact Nat.le_of_ble_eq_true rfl) (fun x15 s16 hp => ?_)
            obtain ⟨hR, h⟩ := hp
            refine g_if_eq (pc := 51) X dX12_grow_51 (tgt := 68) (by decide) (fun q17 => ?_) (fun q17 => ?_)
            · replace h := h.1 q17
              exact hK v10 s16 hR h
            · replace h := h.2 q17
              refine g_aload_0 (pc := 54) X dX12_grow_54 ?_
              refine g_aload_0 (pc := 55) X dX12_grow_55 ?_
              refine g_getRf (pc := 56) X dX12_grow_56 fl_X12_120 rfl (by decide) rfl hR rfl ?_
              refine g_callV_V (pc := 59) X Y dX12_grow_59 miX12_takes li_X12_425 (t_X12_takes hR (by decide) (by decide) h) rfl (by decide) rfl ⟨_, rfl⟩ rfl ⟨Nat.le_of_ble_eq_true rfl, Nat.le_of_ble_eq_true rfl⟩ (Nat.le_of_ble_eq_true rfl) (Nat.le_of_ble_eq_true rfl) rfl (by exact Nat.le_of_ble_eq_true rfl) (fun s18 hp => ?_)
              obtain ⟨hR, h⟩ := hp
              refine g_iinc_2 (pc := 62) X dX12_grow_62 (v := v10 + nI 1) rfl (by decide) rfl ?_
              refine g_goto (pc := 65) X dX12_grow_65 (tgt := 42) (by decide) ?_
              exact ih (v10 + nI 1) s18 hR h
      refine hL p0 _ (fun y20 s21 hR h => ?_) n19 (nI 0) s6 hR h
      · refine g_iload_2 (pc := 68) X dX12_grow_68 ?_
        exact g_ireturn (pc := 69) X Y dX12_grow_69 (Nat.le_of_ble_eq_true rfl) (Nat.le_of_ble_eq_true rfl) ⟨_, rfl, hR, h⟩
    · replace h := h.2 q8
      refine g_iconst (pc := 38) X dX12_grow_38 kiconst_m1 ?_
      exact g_ireturn (pc := 39) X Y dX12_grow_39 (Nat.le_of_ble_eq_true rfl) (Nat.le_of_ble_eq_true rfl) ⟨_, rfl, hR, h⟩
  · replace h := h.1 q5
    refine g_iconst (pc := 20) X dX12_grow_20 kiconst_0 ?_
    exact g_ireturn (pc := 21) X Y dX12_grow_21 (Nat.le_of_ble_eq_true rfl) (Nat.le_of_ble_eq_true rfl) ⟨_, rfl, hR, h⟩
def W_X12_isAbove (p0 : Int32) (p1 : Int32) (Q : Int32 → Prop) (σ : gSt) : Prop := rI σ 90 900 (((nI 30) * p0) + p1) (fun x1 => ((x1 ≤ 0 → (Q (nI 0))) ∧ (¬ x1 ≤ 0 → (Q (nI 1)))))
set_option maxHeartbeats 4000000 in
theorem t_X12_isAbove {o : gOm} {l : Launch} {b : Bool}   {σ : gSt} (hR : σ.2.2 = gRf b) {p0 : Int32} {p1 : Int32} {Q : Int32 → Prop} (h : W_X12_isAbove p0 p1 Q σ) : Sp o l mX12_isAbove 1 0 0 [.ref (ad o 65), .int p0, .int p1] 116 116 σ (pI (fun x s => σ = s ∧ Q x)) := by
  unfold W_X12_isAbove at h
  refine Sp.of (ls0 := [some (.ref (ad o 65)), some (.int p0), some (.int p1)]) miX12_isAbove rfl (Nat.le_of_ble_eq_true rfl) rfl (fun γ hγ hnm X Y => ?_)
  subst hγ
  have X : gX o γ cX12_isAbove 3 RX12 := X
  refine g_aload_0 (pc := 0) X dX12_isAbove_0 ?_
  refine g_getRf (pc := 1) X dX12_isAbove_1 fl_X12_89 rfl (by decide) rfl hR rfl ?_
  refine g_bipush (pc := 4) X dX12_isAbove_4 kbipush_30 ?_
  refine g_iload_1 (pc := 6) X dX12_isAbove_6 ?_
  refine g_imul (pc := 7) X dX12_isAbove_7 ?_
  refine g_iload_2 (pc := 8) X dX12_isAbove_8 ?_
  refine g_iadd (pc := 9) X dX12_isAbove_9 ?_
  refine g_iaload_w (pc := 10) X dX12_isAbove_10 rfl (by decide) h (fun x1 h => ?_)
  refine g_if_le (pc := 11) X dX12_isAbove_11 (tgt := 18) (by decide) (fun q2 => ?_) (fun q2 => ?_)
  · replace h := h.1 q2
    refine g_iconst (pc := 18) X dX12_isAbove_18 kiconst_0 ?_
    exact g_zreturn (pc := 19) X Y dX12_isAbove_19 (by first | exact Or.inl rfl | exact Or.inr rfl) (Nat.le_of_ble_eq_true rfl) (Nat.le_of_ble_eq_true rfl) ⟨_, rfl, rfl, h⟩
  · replace h := h.2 q2
    refine g_iconst (pc := 14) X dX12_isAbove_14 kiconst_1 ?_
    refine g_goto (pc := 15) X dX12_isAbove_15 (tgt := 19) (by decide) ?_
    exact g_zreturn (pc := 19) X Y dX12_isAbove_19 (by first | exact Or.inl rfl | exact Or.inr rfl) (Nat.le_of_ble_eq_true rfl) (Nat.le_of_ble_eq_true rfl) ⟨_, rfl, rfl, h⟩
def W_X12_isBelow (p0 : Int32) (p1 : Int32) (Q : Int32 → Prop) (σ : gSt) : Prop := rI σ 90 900 (((nI 30) * p0) + p1) (fun x1 => ((x1 < 0 → (Q (nI 1))) ∧ (¬ x1 < 0 → (rI σ 91 900 (((nI 30) * p0) + p1) (fun x3 => ((x3 = 0 → (Q (nI 0))) ∧ (¬ x3 = 0 → (Q (nI 1)))))))))
set_option maxHeartbeats 4000000 in
theorem t_X12_isBelow {o : gOm} {l : Launch} {b : Bool}   {σ : gSt} (hR : σ.2.2 = gRf b) {p0 : Int32} {p1 : Int32} {Q : Int32 → Prop} (h : W_X12_isBelow p0 p1 Q σ) : Sp o l mX12_isBelow 1 0 0 [.ref (ad o 65), .int p0, .int p1] 116 116 σ (pI (fun x s => σ = s ∧ Q x)) := by
  unfold W_X12_isBelow at h
  refine Sp.of (ls0 := [some (.ref (ad o 65)), some (.int p0), some (.int p1)]) miX12_isBelow rfl (Nat.le_of_ble_eq_true rfl) rfl (fun γ hγ hnm X Y => ?_)
  subst hγ
  have X : gX o γ cX12_isBelow 3 RX12 := X
  refine g_aload_0 (pc := 0) X dX12_isBelow_0 ?_
  refine g_getRf (pc := 1) X dX12_isBelow_1 fl_X12_89 rfl (by decide) rfl hR rfl ?_
  refine g_bipush (pc := 4) X dX12_isBelow_4 kbipush_30 ?_
  refine g_iload_1 (pc := 6) X dX12_isBelow_6 ?_
  refine g_imul (pc := 7) X dX12_isBelow_7 ?_
  refine g_iload_2 (pc := 8) X dX12_isBelow_8 ?_
  refine g_iadd (pc := 9) X dX12_isBelow_9 ?_
  refine g_iaload_w (pc := 10) X dX12_isBelow_10 rfl (by decide) h (fun x1 h => ?_)
  refine g_if_lt (pc := 11) X dX12_isBelow_11 (tgt := 28) (by decide) (fun q2 => ?_) (fun q2 => ?_)
  · replace h := h.1 q2
    refine g_iconst (pc := 28) X dX12_isBelow_28 kiconst_1 ?_
    refine g_goto (pc := 29) X dX12_isBelow_29 (tgt := 33) (by decide) ?_
    exact g_zreturn (pc := 33) X Y dX12_isBelow_33 (by first | exact Or.inl rfl | exact Or.inr rfl) (Nat.le_of_ble_eq_true rfl) (Nat.le_of_ble_eq_true rfl) ⟨_, rfl, rfl, h⟩
  · replace h := h.2 q2
    refine g_aload_0 (pc := 14) X dX12_isBelow_14 ?_
    refine g_getRf (pc := 15) X dX12_isBelow_15 fl_X12_92 rfl (by decide) rfl hR rfl ?_
    refine g_bipush (pc := 18) X dX12_isBelow_18 kbipush_30 ?_
    refine g_iload_1 (pc := 20) X dX12_isBelow_20 ?_
    refine g_imul (pc := 21) X dX12_isBelow_21 ?_
    refine g_iload_2 (pc := 22) X dX12_isBelow_22 ?_
    refine g_iadd (pc := 23) X dX12_isBelow_23 ?_
    refine g_baload_w (pc := 24) X dX12_isBelow_24 rfl (by decide) h (fun x3 h => ?_)
    refine g_if_eq (pc := 25) X dX12_isBelow_25 (tgt := 32) (by decide) (fun q4 => ?_) (fun q4 => ?_)
    · replace h := h.1 q4
      refine g_iconst (pc := 32) X dX12_isBelow_32 kiconst_0 ?_
      exact g_zreturn (pc := 33) X Y dX12_isBelow_33 (by first | exact Or.inl rfl | exact Or.inr rfl) (Nat.le_of_ble_eq_true rfl) (Nat.le_of_ble_eq_true rfl) ⟨_, rfl, rfl, h⟩
    · replace h := h.2 q4
      refine g_iconst (pc := 28) X dX12_isBelow_28 kiconst_1 ?_
      refine g_goto (pc := 29) X dX12_isBelow_29 (tgt := 33) (by decide) ?_
      exact g_zreturn (pc := 33) X Y dX12_isBelow_33 (by first | exact Or.inl rfl | exact Or.inr rfl) (Nat.le_of_ble_eq_true rfl) (Nat.le_of_ble_eq_true rfl) ⟨_, rfl, rfl, h⟩
def W_X12_isRing (p0 : Int32) (p1 : Int32) (p2 : Int32) (Q : Int32 → Prop) (σ : gSt) : Prop := W_X12_isAbove p0 p1 (fun x1 => ∀ J3 : Int32 → Prop, (∀ x2, (W_X12_isAbove p0 p2 (fun x4 => ∀ J6 : Int32 → Prop, (∀ x5, (W_X12_isAbove p1 p2 (fun x7 => ∀ J9 : Int32 → Prop, (∀ x8, (((((x2 + x5) + x8) = (nI 2) → (W_X12_isBelow p0 p1 (fun x11 => ((x11 = 0 → (W_X12_isBelow p0 p2 (fun x13 => ((x13 = 0 → (W_X12_isBelow p1 p2 (fun x15 => ((x15 = 0 → (Q (nI 0))) ∧ (¬ x15 = 0 → (Q (nI 1))))) σ)) ∧ (¬ x13 = 0 → (Q (nI 1))))) σ)) ∧ (¬ x11 = 0 → (Q (nI 1))))) σ)) ∧ (¬ ((x2 + x5) + x8) = (nI 2) → (Q (nI 0))))) → J9 x8) → ((x7 = 0 → (J9 (nI 0))) ∧ (¬ x7 = 0 → (J9 (nI 1))))) σ) → J6 x5) → ((x4 = 0 → (J6 (nI 0))) ∧ (¬ x4 = 0 → (J6 (nI 1))))) σ) → J3 x2) → ((x1 = 0 → (J3 (nI 0))) ∧ (¬ x1 = 0 → (J3 (nI 1))))) σ
set_option maxHeartbeats 4000000 in
theorem t_X12_isRing {o : gOm} {l : Launch} {b : Bool}   {σ : gSt} (hR : σ.2.2 = gRf b) {p0 : Int32} {p1 : Int32} {p2 : Int32} {Q : Int32 → Prop} (h : W_X12_isRing p0 p1 p2 Q σ) : Sp o l mX12_isRing 2 0 0 [.ref (ad o 65), .int p0, .int p1, .int p2] 116 116 σ (pI (fun x s => σ = s ∧ Q x)) := by
  unfold W_X12_isRing at h
  refine Sp.of (ls0 := [some (.ref (ad o 65)), some (.int p0), some (.int p1), some (.int p2), none]) miX12_isRing rfl (Nat.le_of_ble_eq_true rfl) rfl (fun γ hγ hnm X Y => ?_)
  subst hγ
  have X : gX o γ cX12_isRing 5 RX12 := X
  refine g_aload_0 (pc := 0) X dX12_isRing_0 ?_
  refine g_iload_1 (pc := 1) X dX12_isRing_1 ?_
  refine g_iload_2 (pc := 2) X dX12_isRing_2 ?_
  refine g_callV_I (pc := 3) X Y dX12_isRing_3 miX12_isAbove li_X12_428 (t_X12_isAbove hR  h) rfl (by decide) rfl ⟨_, rfl⟩ rfl ⟨Nat.le_of_ble_eq_true rfl, Nat.le_of_ble_eq_true rfl⟩ (Nat.le_of_ble_eq_true rfl) (Nat.le_of_ble_eq_true rfl) rfl (by exact Nat.le_of_ble_eq_true rfl) (fun x1 σ9 hp => ?_)
  obtain ⟨rfl, h⟩ := hp
  replace h := h (fun x2 => G o γ 0 0 116 σ 14 [some (.ref (ad o 65)), some (.int p0), some (.int p1), some (.int p2), none] [.int x2]) (by
      intro x2 h
      refine g_aload_0 (pc := 14) X dX12_isRing_14 ?_
      refine g_iload_1 (pc := 15) X dX12_isRing_15 ?_
      refine g_iload_3 (pc := 16) X dX12_isRing_16 ?_
      refine g_callV_I (pc := 17) X Y dX12_isRing_17 miX12_isAbove li_X12_428 (t_X12_isAbove hR  h) rfl (by decide) rfl ⟨_, rfl⟩ rfl ⟨Nat.le_of_ble_eq_true rfl, Nat.le_of_ble_eq_true rfl⟩ (Nat.le_of_ble_eq_true rfl) (Nat.le_of_ble_eq_true rfl) rfl (by exact Nat.le_of_ble_eq_true rfl) (fun x4 σ9 hp => ?_)
      obtain ⟨rfl, h⟩ := hp
      replace h := h (fun x5 => G o γ 0 0 116 σ 28 [some (.ref (ad o 65)), some (.int p0), some (.int p1), some (.int p2), none] [.int x5, .int x2]) (by
          intro x5 h
          refine g_iadd (pc := 28) X dX12_isRing_28 ?_
          refine g_aload_0 (pc := 29) X dX12_isRing_29 ?_
          refine g_iload_2 (pc := 30) X dX12_isRing_30 ?_
          refine g_iload_3 (pc := 31) X dX12_isRing_31 ?_
          refine g_callV_I (pc := 32) X Y dX12_isRing_32 miX12_isAbove li_X12_428 (t_X12_isAbove hR  h) rfl (by decide) rfl ⟨_, rfl⟩ rfl ⟨Nat.le_of_ble_eq_true rfl, Nat.le_of_ble_eq_true rfl⟩ (Nat.le_of_ble_eq_true rfl) (Nat.le_of_ble_eq_true rfl) rfl (by exact Nat.le_of_ble_eq_true rfl) (fun x7 σ9 hp => ?_)
          obtain ⟨rfl, h⟩ := hp
          replace h := h (fun x8 => G o γ 0 0 116 σ 43 [some (.ref (ad o 65)), some (.int p0), some (.int p1), some (.int p2), none] [.int x8, .int (x2 + x5)]) (by
              intro x8 h
              refine g_iadd (pc := 43) X dX12_isRing_43 ?_
              refine g_istore_4 (pc := 44) X dX12_isRing_44 (by decide) rfl ?_
              refine g_iload_4 (pc := 46) X dX12_isRing_46 ?_
              refine g_iconst (pc := 48) X dX12_isRing_48 kiconst_2 ?_
              refine g_icmp_ne (pc := 49) X dX12_isRing_49 (tgt := 83) (by decide) (fun q10 => ?_) (fun q10 => ?_)
              · replace h := h.2 q10
                refine g_iconst (pc := 83) X dX12_isRing_83 kiconst_0 ?_
                exact g_zreturn (pc := 84) X Y dX12_isRing_84 (by first | exact Or.inl rfl | exact Or.inr rfl) (Nat.le_of_ble_eq_true rfl) (Nat.le_of_ble_eq_true rfl) ⟨_, rfl, rfl, h⟩
              · replace h := h.1 q10
                refine g_aload_0 (pc := 52) X dX12_isRing_52 ?_
                refine g_iload_1 (pc := 53) X dX12_isRing_53 ?_
                refine g_iload_2 (pc := 54) X dX12_isRing_54 ?_
                refine g_callV_I (pc := 55) X Y dX12_isRing_55 miX12_isBelow li_X12_431 (t_X12_isBelow hR  h) rfl (by decide) rfl ⟨_, rfl⟩ rfl ⟨Nat.le_of_ble_eq_true rfl, Nat.le_of_ble_eq_true rfl⟩ (Nat.le_of_ble_eq_true rfl) (Nat.le_of_ble_eq_true rfl) rfl (by exact Nat.le_of_ble_eq_true rfl) (fun x11 σ9 hp => ?_)
                obtain ⟨rfl, h⟩ := hp
                refine g_if_ne (pc := 58) X dX12_isRing_58 (tgt := 79) (by decide) (fun q12 => ?_) (fun q12 => ?_)
                · replace h := h.2 q12
                  refine g_iconst (pc := 79) X dX12_isRing_79 kiconst_1 ?_
                  refine g_goto (pc := 80) X dX12_isRing_80 (tgt := 84) (by decide) ?_
                  exact g_zreturn (pc := 84) X Y dX12_isRing_84 (by first | exact Or.inl rfl | exact Or.inr rfl) (Nat.le_of_ble_eq_true rfl) (Nat.le_of_ble_eq_true rfl) ⟨_, rfl, rfl, h⟩
                · replace h := h.1 q12
                  refine g_aload_0 (pc := 61) X dX12_isRing_61 ?_
                  refine g_iload_1 (pc := 62) X dX12_isRing_62 ?_
                  refine g_iload_3 (pc := 63) X dX12_isRing_63 ?_
                  refine g_callV_I (pc := 64) X Y dX12_isRing_64 miX12_isBelow li_X12_431 (t_X12_isBelow hR  h) rfl (by decide) rfl ⟨_, rfl⟩ rfl ⟨Nat.le_of_ble_eq_true rfl, Nat.le_of_ble_eq_true rfl⟩ (Nat.le_of_ble_eq_true rfl) (Nat.le_of_ble_eq_true rfl) rfl (by exact Nat.le_of_ble_eq_true rfl) (fun x13 σ9 hp => ?_)
                  obtain ⟨rfl, h⟩ := hp
                  refine g_if_ne (pc := 67) X dX12_isRing_67 (tgt := 79) (by decide) (fun q14 => ?_) (fun q14 => ?_)
                  · replace h := h.2 q14
                    refine g_iconst (pc := 79) X dX12_isRing_79 kiconst_1 ?_
                    refine g_goto (pc := 80) X dX12_isRing_80 (tgt := 84) (by decide) ?_
                    exact g_zreturn (pc := 84) X Y dX12_isRing_84 (by first | exact Or.inl rfl | exact Or.inr rfl) (Nat.le_of_ble_eq_true rfl) (Nat.le_of_ble_eq_true rfl) ⟨_, rfl, rfl, h⟩
                  · replace h := h.1 q14
                    refine g_aload_0 (pc := 70) X dX12_isRing_70 ?_
                    refine g_iload_2 (pc := 71) X dX12_isRing_71 ?_
                    refine g_iload_3 (pc := 72) X dX12_isRing_72 ?_
                    refine g_callV_I (pc := 73) X Y dX12_isRing_73 miX12_isBelow li_X12_431 (t_X12_isBelow hR  h) rfl (by decide) rfl ⟨_, rfl⟩ rfl ⟨Nat.le_of_ble_eq_true rfl, Nat.le_of_ble_eq_true rfl⟩ (Nat.le_of_ble_eq_true rfl) (Nat.le_of_ble_eq_true rfl) rfl (by exact Nat.le_of_ble_eq_true rfl) (fun x15 σ9 hp => ?_)
                    obtain ⟨rfl, h⟩ := hp
                    refine g_if_eq (pc := 76) X dX12_isRing_76 (tgt := 83) (by decide) (fun q16 => ?_) (fun q16 => ?_)
                    · replace h := h.1 q16
                      refine g_iconst (pc := 83) X dX12_isRing_83 kiconst_0 ?_
                      exact g_zreturn (pc := 84) X Y dX12_isRing_84 (by first | exact Or.inl rfl | exact Or.inr rfl) (Nat.le_of_ble_eq_true rfl) (Nat.le_of_ble_eq_true rfl) ⟨_, rfl, rfl, h⟩
                    · replace h := h.2 q16
                      refine g_iconst (pc := 79) X dX12_isRing_79 kiconst_1 ?_
                      refine g_goto (pc := 80) X dX12_isRing_80 (tgt := 84) (by decide) ?_
                      exact g_zreturn (pc := 84) X Y dX12_isRing_84 (by first | exact Or.inl rfl | exact Or.inr rfl) (Nat.le_of_ble_eq_true rfl) (Nat.le_of_ble_eq_true rfl) ⟨_, rfl, rfl, h⟩)
          refine g_if_eq (pc := 35) X dX12_isRing_35 (tgt := 42) (by decide) (fun q17 => ?_) (fun q17 => ?_)
          · replace h := h.1 q17
            refine g_iconst (pc := 42) X dX12_isRing_42 kiconst_0 ?_
            exact h
          · replace h := h.2 q17
            refine g_iconst (pc := 38) X dX12_isRing_38 kiconst_1 ?_
            refine g_goto (pc := 39) X dX12_isRing_39 (tgt := 43) (by decide) ?_
            exact h)
      refine g_if_eq (pc := 20) X dX12_isRing_20 (tgt := 27) (by decide) (fun q18 => ?_) (fun q18 => ?_)
      · replace h := h.1 q18
        refine g_iconst (pc := 27) X dX12_isRing_27 kiconst_0 ?_
        exact h
      · replace h := h.2 q18
        refine g_iconst (pc := 23) X dX12_isRing_23 kiconst_1 ?_
        refine g_goto (pc := 24) X dX12_isRing_24 (tgt := 28) (by decide) ?_
        exact h)
  refine g_if_eq (pc := 6) X dX12_isRing_6 (tgt := 13) (by decide) (fun q19 => ?_) (fun q19 => ?_)
  · replace h := h.1 q19
    refine g_iconst (pc := 13) X dX12_isRing_13 kiconst_0 ?_
    exact h
  · replace h := h.2 q19
    refine g_iconst (pc := 9) X dX12_isRing_9 kiconst_1 ?_
    refine g_goto (pc := 10) X dX12_isRing_10 (tgt := 14) (by decide) ?_
    exact h
def L_X12_setRests_14 (k0 : Nat) (Q : gSt → Prop) (c5 : Int32) (K : gSt → Prop) : Nat → Int32 → gSt → Prop
  | 0, _, _ => False
  | n14 + 1, v6, s7 => (((s7.1 65 1) ≤ v6 → (K s7)) ∧ (¬ (s7.1 65 1) ≤ v6 → (rI s7 91 900 (((nI 30) * c5) + v6) (fun x10 => ∀ J12 : Int32 → Prop, (∀ x11, (wI s7 k0 ((lay k0).2) (((nI 30) * c5) + v6) x11 (fun s13 => L_X12_setRests_14 k0 Q c5 K n14 (v6 + nI 1) s13)) → J12 x11) → ((x10 = 0 → (rI s7 90 900 (((nI 30) * c5) + v6) (fun x15 => W_X12_off x15 (fun x16 => J12 x16) s7))) ∧ (¬ x10 = 0 → (J12 ((1000000 : Int32)))))))))
def L_X12_setRests_2 (k0 : Nat) (Q : gSt → Prop)  (K : gSt → Prop) : Nat → Int32 → gSt → Prop
  | 0, _, _ => False
  | n2 + 1, v1, s2 => (((s2.1 65 1) ≤ v1 → (K s2)) ∧ (¬ (s2.1 65 1) ≤ v1 → (∃ m14, L_X12_setRests_14 k0 Q v1 (fun s18 => L_X12_setRests_2 k0 Q K n2 (v1 + nI 1) s18) m14 (v1 + (nI 1)) s2)))
def W_X12_setRests (k0 : Nat) (Q : gSt → Prop) (σ : gSt) : Prop := ∃ m2, L_X12_setRests_2 k0 Q (fun s20 => Q s20) m2 (nI 0) σ
set_option maxHeartbeats 4000000 in
theorem t_X12_setRests {o : gOm} {l : Launch} {b : Bool}   {σ : gSt} (hR : σ.2.2 = gRf b) {k0 : Nat} {Q : gSt → Prop} (hk0 : k0 < 116) (hk00 : (lay k0).1 = 0) (h : W_X12_setRests k0 Q σ) : Sp o l mX12_setRests 2 0 0 [.ref (ad o 65), .ref (ad o k0)] 116 116 σ (pV (fun s => s.2.2 = gRf b ∧ Q s)) := by
  have hk0y : lay k0 = (0, (lay k0).2) := Prod.ext hk00 rfl
  unfold W_X12_setRests at h
  refine Sp.of (ls0 := [some (.ref (ad o 65)), some (.ref (ad o k0)), none, none]) miX12_setRests rfl (Nat.le_of_ble_eq_true rfl) rfl (fun γ hγ hnm X Y => ?_)
  subst hγ
  have X : gX o γ cX12_setRests 4 RX12 := X
  refine g_iconst (pc := 0) X dX12_setRests_0 kiconst_0 ?_
  refine g_istore_2 (pc := 1) X dX12_setRests_1 (by decide) rfl ?_
  obtain ⟨n19, h⟩ := h
  have hL : ∀  (K : gSt → Prop) (_ : ∀  (s3 : gSt), s3.2.2 = gRf b → K s3 → G o γ 0 0 116 s3 76 [some (.ref (ad o 65)), some (.ref (ad o k0)), none, none] []) (n : Nat) (v1 : Int32) (s2 : gSt), s2.2.2 = gRf b → L_X12_setRests_2 k0 Q K n v1 s2 → G o γ 0 0 116 s2 2 [some (.ref (ad o 65)), some (.ref (ad o k0)), some (.int v1), none] [] := by
    intro K hK n
    induction n with
    | zero => intro v1 s2 hR h; exact False.elim h
    | succ n ih =>
      intro v1 s2 hR h
      rw [L_X12_setRests_2] at h
      refine g_iload_2 (pc := 2) X dX12_setRests_2 ?_
      refine g_aload_0 (pc := 3) X dX12_setRests_3 ?_
      refine g_getI (pc := 4) X dX12_setRests_4 rfl (by decide) fl_X12_177 (Or.inl rfl) ?_
      refine g_icmp_ge (pc := 7) X dX12_setRests_7 (tgt := 76) (by decide) (fun q4 => ?_) (fun q4 => ?_)
      · replace h := h.1 q4
        exact g_drop (by simp [lsub]) (hK s2 hR h)
      · replace h := h.2 q4
        refine g_iload_2 (pc := 10) X dX12_setRests_10 ?_
        refine g_iconst (pc := 11) X dX12_setRests_11 kiconst_1 ?_
        refine g_iadd (pc := 12) X dX12_setRests_12 ?_
        refine g_istore_3 (pc := 13) X dX12_setRests_13 (by decide) rfl ?_
        obtain ⟨n17, h⟩ := h
        have hL : ∀ (c5 : Int32) (K : gSt → Prop) (_ : ∀  (s8 : gSt), s8.2.2 = gRf b → K s8 → G o γ 0 0 116 s8 70 [some (.ref (ad o 65)), some (.ref (ad o k0)), some (.int c5), none] []) (n : Nat) (v6 : Int32) (s7 : gSt), s7.2.2 = gRf b → L_X12_setRests_14 k0 Q c5 K n v6 s7 → G o γ 0 0 116 s7 14 [some (.ref (ad o 65)), some (.ref (ad o k0)), some (.int c5), some (.int v6)] [] := by
          intro c5 K hK n
          induction n with
          | zero => intro v6 s7 hR h; exact False.elim h
          | succ n ih =>
            intro v6 s7 hR h
            rw [L_X12_setRests_14] at h
            refine g_iload_3 (pc := 14) X dX12_setRests_14 ?_
            refine g_aload_0 (pc := 15) X dX12_setRests_15 ?_
            refine g_getI (pc := 16) X dX12_setRests_16 rfl (by decide) fl_X12_177 (Or.inl rfl) ?_
            refine g_icmp_ge (pc := 19) X dX12_setRests_19 (tgt := 70) (by decide) (fun q9 => ?_) (fun q9 => ?_)
            · replace h := h.1 q9
              exact g_drop (by simp [lsub]) (hK s7 hR h)
            · replace h := h.2 q9
              refine g_aload_1 (pc := 22) X dX12_setRests_22 ?_
              refine g_bipush (pc := 23) X dX12_setRests_23 kbipush_30 ?_
              refine g_iload_2 (pc := 25) X dX12_setRests_25 ?_
              refine g_imul (pc := 26) X dX12_setRests_26 ?_
              refine g_iload_3 (pc := 27) X dX12_setRests_27 ?_
              refine g_iadd (pc := 28) X dX12_setRests_28 ?_
              refine g_aload_0 (pc := 29) X dX12_setRests_29 ?_
              refine g_getRf (pc := 30) X dX12_setRests_30 fl_X12_92 rfl (by decide) rfl hR rfl ?_
              refine g_bipush (pc := 33) X dX12_setRests_33 kbipush_30 ?_
              refine g_iload_2 (pc := 35) X dX12_setRests_35 ?_
              refine g_imul (pc := 36) X dX12_setRests_36 ?_
              refine g_iload_3 (pc := 37) X dX12_setRests_37 ?_
              refine g_iadd (pc := 38) X dX12_setRests_38 ?_
              refine g_baload_w (pc := 39) X dX12_setRests_39 rfl (by decide) h (fun x10 h => ?_)
              replace h := h (fun x11 => G o γ 0 0 116 s7 63 [some (.ref (ad o 65)), some (.ref (ad o k0)), some (.int c5), some (.int v6)] [.int x11, .int (((nI 30) * c5) + v6), .ref (ad o k0)]) (by
                  intro x11 h
                  refine g_iastore_w (pc := 63) X dX12_setRests_63 hk0y hk0 hR h (fun s13 hR h => ?_)
                  refine g_iinc_3 (pc := 64) X dX12_setRests_64 (v := v6 + nI 1) rfl (by decide) rfl ?_
                  refine g_goto (pc := 67) X dX12_setRests_67 (tgt := 14) (by decide) ?_
                  exact ih (v6 + nI 1) s13 hR h)
              refine g_if_eq (pc := 40) X dX12_setRests_40 (tgt := 49) (by decide) (fun q14 => ?_) (fun q14 => ?_)
              · replace h := h.1 q14
                refine g_aload_0 (pc := 49) X dX12_setRests_49 ?_
                refine g_getRf (pc := 50) X dX12_setRests_50 fl_X12_89 rfl (by decide) rfl hR rfl ?_
                refine g_bipush (pc := 53) X dX12_setRests_53 kbipush_30 ?_
                refine g_iload_2 (pc := 55) X dX12_setRests_55 ?_
                refine g_imul (pc := 56) X dX12_setRests_56 ?_
                refine g_iload_3 (pc := 57) X dX12_setRests_57 ?_
                refine g_iadd (pc := 58) X dX12_setRests_58 ?_
                refine g_iaload_w (pc := 59) X dX12_setRests_59 rfl (by decide) h (fun x15 h => ?_)
                refine g_callS_I (pc := 60) X Y dX12_setRests_60 miX12_off li_X12_323 (t_X12_off hR  h) rfl ⟨Nat.le_of_ble_eq_true rfl, Nat.le_of_ble_eq_true rfl⟩ (Nat.le_of_ble_eq_true rfl) (Nat.le_of_ble_eq_true rfl) rfl (by exact Nat.le_of_ble_eq_true rfl) (fun x16 σ9 hp => ?_)
                obtain ⟨rfl, h⟩ := hp
                exact h
              · replace h := h.2 q14
                refine g_ldcw (pc := 43) X dX12_setRests_43 ct_X12_434 ?_
                refine g_goto (pc := 46) X dX12_setRests_46 (tgt := 63) (by decide) ?_
                exact h
        refine hL v1 _ (fun s18 hR h => ?_) n17 (v1 + (nI 1)) s2 hR h
        · refine g_iinc_2 (pc := 70) X dX12_setRests_70 (v := v1 + nI 1) rfl (by decide) rfl ?_
          refine g_goto (pc := 73) X dX12_setRests_73 (tgt := 2) (by decide) ?_
          exact ih (v1 + nI 1) s18 hR h
  refine hL  _ (fun s20 hR h => ?_) n19 (nI 0) σ hR h
  · exact g_return (pc := 76) X Y dX12_setRests_76 (Nat.le_of_ble_eq_true rfl) (Nat.le_of_ble_eq_true rfl) ⟨rfl, hR, h⟩
def W_X12_leastRest (k0 : Nat) (p1 : Int32) (p2 : Int32) (p3 : Int32) (Q : Int32 → Prop) (σ : gSt) : Prop := rI σ k0 ((lay k0).2) (((nI 30) * p1) + p2) (fun x1 => rI σ k0 ((lay k0).2) (((nI 30) * p1) + p3) (fun x2 => ∀ J4 : Int32 → Prop, (∀ x3, (rI σ k0 ((lay k0).2) (((nI 30) * p2) + p3) (fun x5 => ((x5 ≤ x3 → (rI σ k0 ((lay k0).2) (((nI 30) * p2) + p3) (fun x7 => Q x7))) ∧ (¬ x5 ≤ x3 → (Q x3))))) → J4 x3) → ((x2 ≤ x1 → (rI σ k0 ((lay k0).2) (((nI 30) * p1) + p3) (fun x9 => J4 x9))) ∧ (¬ x2 ≤ x1 → (rI σ k0 ((lay k0).2) (((nI 30) * p1) + p2) (fun x10 => J4 x10))))))
set_option maxHeartbeats 4000000 in
theorem t_X12_leastRest {o : gOm} {l : Launch} {b : Bool}   {σ : gSt} (hR : σ.2.2 = gRf b) {k0 : Nat} {p1 : Int32} {p2 : Int32} {p3 : Int32} {Q : Int32 → Prop} (hk0 : k0 < 116) (hk00 : (lay k0).1 = 0) (h : W_X12_leastRest k0 p1 p2 p3 Q σ) : Sp o l mX12_leastRest 1 0 0 [.ref (ad o 65), .ref (ad o k0), .int p1, .int p2, .int p3] 116 116 σ (pI (fun x s => σ = s ∧ Q x)) := by
  have hk0y : lay k0 = (0, (lay k0).2) := Prod.ext hk00 rfl
  unfold W_X12_leastRest at h
  refine Sp.of (ls0 := [some (.ref (ad o 65)), some (.ref (ad o k0)), some (.int p1), some (.int p2), some (.int p3), none]) miX12_leastRest rfl (Nat.le_of_ble_eq_true rfl) rfl (fun γ hγ hnm X Y => ?_)
  subst hγ
  have X : gX o γ cX12_leastRest 6 RX12 := X
  refine g_aload_1 (pc := 0) X dX12_leastRest_0 ?_
  refine g_bipush (pc := 1) X dX12_leastRest_1 kbipush_30 ?_
  refine g_iload_2 (pc := 3) X dX12_leastRest_3 ?_
  refine g_imul (pc := 4) X dX12_leastRest_4 ?_
  refine g_iload_3 (pc := 5) X dX12_leastRest_5 ?_
  refine g_iadd (pc := 6) X dX12_leastRest_6 ?_
  refine g_iaload_w (pc := 7) X dX12_leastRest_7 hk0y hk0 h (fun x1 h => ?_)
  refine g_aload_1 (pc := 8) X dX12_leastRest_8 ?_
  refine g_bipush (pc := 9) X dX12_leastRest_9 kbipush_30 ?_
  refine g_iload_2 (pc := 11) X dX12_leastRest_11 ?_
  refine g_imul (pc := 12) X dX12_leastRest_12 ?_
  refine g_iload_4 (pc := 13) X dX12_leastRest_13 ?_
  refine g_iadd (pc := 15) X dX12_leastRest_15 ?_
  refine g_iaload_w (pc := 16) X dX12_leastRest_16 hk0y hk0 h (fun x2 h => ?_)
  replace h := h (fun x3 => G o γ 0 0 116 σ 40 [none, some (.ref (ad o k0)), none, some (.int p2), some (.int p3), none] [.int x3]) (by
      intro x3 h
      refine g_istore_5 (pc := 40) X dX12_leastRest_40 (by decide) rfl ?_
      refine g_iload_5 (pc := 42) X dX12_leastRest_42 ?_
      refine g_aload_1 (pc := 44) X dX12_leastRest_44 ?_
      refine g_bipush (pc := 45) X dX12_leastRest_45 kbipush_30 ?_
      refine g_iload_3 (pc := 47) X dX12_leastRest_47 ?_
      refine g_imul (pc := 48) X dX12_leastRest_48 ?_
      refine g_iload_4 (pc := 49) X dX12_leastRest_49 ?_
      refine g_iadd (pc := 51) X dX12_leastRest_51 ?_
      refine g_iaload_w (pc := 52) X dX12_leastRest_52 hk0y hk0 h (fun x5 h => ?_)
      refine g_icmp_ge (pc := 53) X dX12_leastRest_53 (tgt := 61) (by decide) (fun q6 => ?_) (fun q6 => ?_)
      · replace h := h.1 q6
        refine g_aload_1 (pc := 61) X dX12_leastRest_61 ?_
        refine g_bipush (pc := 62) X dX12_leastRest_62 kbipush_30 ?_
        refine g_iload_3 (pc := 64) X dX12_leastRest_64 ?_
        refine g_imul (pc := 65) X dX12_leastRest_65 ?_
        refine g_iload_4 (pc := 66) X dX12_leastRest_66 ?_
        refine g_iadd (pc := 68) X dX12_leastRest_68 ?_
        refine g_iaload_w (pc := 69) X dX12_leastRest_69 hk0y hk0 h (fun x7 h => ?_)
        exact g_ireturn (pc := 70) X Y dX12_leastRest_70 (Nat.le_of_ble_eq_true rfl) (Nat.le_of_ble_eq_true rfl) ⟨_, rfl, rfl, h⟩
      · replace h := h.2 q6
        refine g_iload_5 (pc := 56) X dX12_leastRest_56 ?_
        refine g_goto (pc := 58) X dX12_leastRest_58 (tgt := 70) (by decide) ?_
        exact g_ireturn (pc := 70) X Y dX12_leastRest_70 (Nat.le_of_ble_eq_true rfl) (Nat.le_of_ble_eq_true rfl) ⟨_, rfl, rfl, h⟩)
  refine g_icmp_ge (pc := 17) X dX12_leastRest_17 (tgt := 31) (by decide) (fun q8 => ?_) (fun q8 => ?_)
  · replace h := h.1 q8
    refine g_aload_1 (pc := 31) X dX12_leastRest_31 ?_
    refine g_bipush (pc := 32) X dX12_leastRest_32 kbipush_30 ?_
    refine g_iload_2 (pc := 34) X dX12_leastRest_34 ?_
    refine g_imul (pc := 35) X dX12_leastRest_35 ?_
    refine g_iload_4 (pc := 36) X dX12_leastRest_36 ?_
    refine g_iadd (pc := 38) X dX12_leastRest_38 ?_
    refine g_iaload_w (pc := 39) X dX12_leastRest_39 hk0y hk0 h (fun x9 h => ?_)
    exact g_drop (by simp [lsub]) (h)
  · replace h := h.2 q8
    refine g_aload_1 (pc := 20) X dX12_leastRest_20 ?_
    refine g_bipush (pc := 21) X dX12_leastRest_21 kbipush_30 ?_
    refine g_iload_2 (pc := 23) X dX12_leastRest_23 ?_
    refine g_imul (pc := 24) X dX12_leastRest_24 ?_
    refine g_iload_3 (pc := 25) X dX12_leastRest_25 ?_
    refine g_iadd (pc := 26) X dX12_leastRest_26 ?_
    refine g_iaload_w (pc := 27) X dX12_leastRest_27 hk0y hk0 h (fun x10 h => ?_)
    refine g_goto (pc := 28) X dX12_leastRest_28 (tgt := 40) (by decide) ?_
    exact g_drop (by simp [lsub]) (h)
def W_X12_takesRest (k0 : Nat) (p1 : Int32) (p2 : Int32) (p3 : Int32) (p4 : Int32) (Q : gSt → Prop) (σ : gSt) : Prop := rI σ k0 ((lay k0).2) (((nI 30) * p1) + p2) (fun x1 => wI σ k0 ((lay k0).2) (((nI 30) * p1) + p2) (x1 - p4) (fun s2 => rI s2 k0 ((lay k0).2) (((nI 30) * p1) + p3) (fun x3 => wI s2 k0 ((lay k0).2) (((nI 30) * p1) + p3) (x3 - p4) (fun s4 => rI s4 k0 ((lay k0).2) (((nI 30) * p2) + p3) (fun x5 => wI s4 k0 ((lay k0).2) (((nI 30) * p2) + p3) (x5 - p4) (fun s6 => Q s6))))))
set_option maxHeartbeats 4000000 in
theorem t_X12_takesRest {o : gOm} {l : Launch} {b : Bool}   {σ : gSt} (hR : σ.2.2 = gRf b) {k0 : Nat} {p1 : Int32} {p2 : Int32} {p3 : Int32} {p4 : Int32} {Q : gSt → Prop} (hk0 : k0 < 116) (hk00 : (lay k0).1 = 0) (h : W_X12_takesRest k0 p1 p2 p3 p4 Q σ) : Sp o l mX12_takesRest 1 0 0 [.ref (ad o 65), .ref (ad o k0), .int p1, .int p2, .int p3, .int p4] 116 116 σ (pV (fun s => s.2.2 = gRf b ∧ Q s)) := by
  have hk0y : lay k0 = (0, (lay k0).2) := Prod.ext hk00 rfl
  unfold W_X12_takesRest at h
  refine Sp.of (ls0 := [some (.ref (ad o 65)), some (.ref (ad o k0)), some (.int p1), some (.int p2), some (.int p3), some (.int p4)]) miX12_takesRest rfl (Nat.le_of_ble_eq_true rfl) rfl (fun γ hγ hnm X Y => ?_)
  subst hγ
  have X : gX o γ cX12_takesRest 6 RX12 := X
  refine g_aload_1 (pc := 0) X dX12_takesRest_0 ?_
  refine g_bipush (pc := 1) X dX12_takesRest_1 kbipush_30 ?_
  refine g_iload_2 (pc := 3) X dX12_takesRest_3 ?_
  refine g_imul (pc := 4) X dX12_takesRest_4 ?_
  refine g_iload_3 (pc := 5) X dX12_takesRest_5 ?_
  refine g_iadd (pc := 6) X dX12_takesRest_6 ?_
  refine g_dup2 (pc := 7) X dX12_takesRest_7 rfl rfl ?_
  refine g_iaload_w (pc := 8) X dX12_takesRest_8 hk0y hk0 h (fun x1 h => ?_)
  refine g_iload_5 (pc := 9) X dX12_takesRest_9 ?_
  refine g_isub (pc := 11) X dX12_takesRest_11 ?_
  refine g_iastore_w (pc := 12) X dX12_takesRest_12 hk0y hk0 hR h (fun s2 hR h => ?_)
  refine g_aload_1 (pc := 13) X dX12_takesRest_13 ?_
  refine g_bipush (pc := 14) X dX12_takesRest_14 kbipush_30 ?_
  refine g_iload_2 (pc := 16) X dX12_takesRest_16 ?_
  refine g_imul (pc := 17) X dX12_takesRest_17 ?_
  refine g_iload_4 (pc := 18) X dX12_takesRest_18 ?_
  refine g_iadd (pc := 20) X dX12_takesRest_20 ?_
  refine g_dup2 (pc := 21) X dX12_takesRest_21 rfl rfl ?_
  refine g_iaload_w (pc := 22) X dX12_takesRest_22 hk0y hk0 h (fun x3 h => ?_)
  refine g_iload_5 (pc := 23) X dX12_takesRest_23 ?_
  refine g_isub (pc := 25) X dX12_takesRest_25 ?_
  refine g_iastore_w (pc := 26) X dX12_takesRest_26 hk0y hk0 hR h (fun s4 hR h => ?_)
  refine g_aload_1 (pc := 27) X dX12_takesRest_27 ?_
  refine g_bipush (pc := 28) X dX12_takesRest_28 kbipush_30 ?_
  refine g_iload_3 (pc := 30) X dX12_takesRest_30 ?_
  refine g_imul (pc := 31) X dX12_takesRest_31 ?_
  refine g_iload_4 (pc := 32) X dX12_takesRest_32 ?_
  refine g_iadd (pc := 34) X dX12_takesRest_34 ?_
  refine g_dup2 (pc := 35) X dX12_takesRest_35 rfl rfl ?_
  refine g_iaload_w (pc := 36) X dX12_takesRest_36 hk0y hk0 h (fun x5 h => ?_)
  refine g_iload_5 (pc := 37) X dX12_takesRest_37 ?_
  refine g_isub (pc := 39) X dX12_takesRest_39 ?_
  refine g_iastore_w (pc := 40) X dX12_takesRest_40 hk0y hk0 hR h (fun s6 hR h => ?_)
  exact g_return (pc := 41) X Y dX12_takesRest_41 (Nat.le_of_ble_eq_true rfl) (Nat.le_of_ble_eq_true rfl) ⟨rfl, hR, h⟩
def L_X12_packs_57 (Q : Int64 → gSt → Prop) (c20 : Int32) (c21 : Int32) (c22 : Int32) (K : Int64 → gSt → Prop) : Nat → Int64 → Int32 → gSt → Prop
  | 0, _, _, _ => False
  | n57 + 1, v23, v24, s25 => (((s25.1 65 1) ≤ v24 → (K v23 s25)) ∧ (¬ (s25.1 65 1) ≤ v24 → (W_X12_isRing c21 c22 v24 (fun x29 => ((x29 = 0 → (L_X12_packs_57 Q c20 c21 c22 K n57 v23 (v24 + nI 1) s25)) ∧ (¬ x29 = 0 → (fI s25 65 61 ((s25.1 65 61) + (nI 1)) (fun s31 => W_X12_leastRest 100 c21 c22 v24 (fun x32 => ((x32 = 0 → (L_X12_packs_57 Q c20 c21 c22 K n57 v23 (v24 + nI 1) s31)) ∧ (¬ x32 = 0 → (∀ J35 : gSt → Prop, (∀ s34, (fI s34 65 62 ((s34.1 65 62) + (nI 1)) (fun s36 => W_X12_takesRest 100 c21 c22 v24 x32 (fun s37 => L_X12_packs_57 Q c20 c21 c22 K n57 (v23 + (i2l x32)) (v24 + nI 1) s37) s36)) → J35 s34) → (((s31.1 65 62) = c20 → (wI s31 102 4 (nI 0) c21 (fun s39 => wI s39 102 4 (nI 1) c22 (fun s40 => wI s40 102 4 (nI 2) v24 (fun s41 => wI s41 102 4 (nI 3) x32 (fun s42 => J35 s42)))))) ∧ (¬ (s31.1 65 62) = c20 → (J35 s31))))))) s31))))) s25)))
def L_X12_packs_42 (Q : Int64 → gSt → Prop) (c12 : Int32) (c13 : Int32) (K : Int64 → gSt → Prop) : Nat → Int64 → Int32 → gSt → Prop
  | 0, _, _, _ => False
  | n42 + 1, v14, v15, s16 => (((s16.1 65 1) ≤ v15 → (K v14 s16)) ∧ (¬ (s16.1 65 1) ≤ v15 → (∃ m57, L_X12_packs_57 Q c12 c13 v15 (fun y44 s45 => L_X12_packs_42 Q c12 c13 K n42 y44 (v15 + nI 1) s45) m57 v14 (v15 + (nI 1)) s16)))
def L_X12_packs_27 (Q : Int64 → gSt → Prop) (c5 : Int32) (K : Int64 → gSt → Prop) : Nat → Int64 → Int32 → gSt → Prop
  | 0, _, _, _ => False
  | n27 + 1, v6, v7, s8 => (((s8.1 65 1) ≤ v7 → (K v6 s8)) ∧ (¬ (s8.1 65 1) ≤ v7 → (∃ m42, L_X12_packs_42 Q c5 v7 (fun y47 s48 => L_X12_packs_27 Q c5 K n27 y47 (v7 + nI 1) s48) m42 v6 (v7 + (nI 1)) s8)))
def W_X12_packs (p0 : Int32) (Q : Int64 → gSt → Prop) (σ : gSt) : Prop := W_X12_weighs (fun s1 => W_X12_setRests 100 (fun s2 => fI s2 65 61 (nI 0) (fun s3 => fI s3 65 62 (nI 0) (fun s4 => ∃ m27, L_X12_packs_27 Q p0 (fun y50 s51 => Q y50 s51) m27 (lN 0) (nI 0) s4))) s1) σ
set_option maxHeartbeats 4000000 in
theorem t_X12_packs {o : gOm} {l : Launch} {b : Bool}   {σ : gSt} (hR : σ.2.2 = gRf b) {p0 : Int32} {Q : Int64 → gSt → Prop} (h : W_X12_packs p0 Q σ) : Sp o l mX12_packs 8 0 0 [.ref (ad o 65), .int p0] 116 116 σ (pL (fun x s => s.2.2 = gRf b ∧ Q x s)) := by
  unfold W_X12_packs at h
  refine Sp.of (ls0 := [some (.ref (ad o 65)), some (.int p0), none, none, none, none, none, none]) miX12_packs rfl (Nat.le_of_ble_eq_true rfl) rfl (fun γ hγ hnm X Y => ?_)
  subst hγ
  have X : gX o γ cX12_packs 8 RX12 := X
  refine g_aload_0 (pc := 0) X dX12_packs_0 ?_
  refine g_callV_V (pc := 1) X Y dX12_packs_1 miX12_weighs li_X12_385 (t_X12_weighs hR  h) rfl (by decide) rfl ⟨_, rfl⟩ rfl ⟨Nat.le_of_ble_eq_true rfl, Nat.le_of_ble_eq_true rfl⟩ (Nat.le_of_ble_eq_true rfl) (Nat.le_of_ble_eq_true rfl) rfl (by exact Nat.le_of_ble_eq_true rfl) (fun s1 hp => ?_)
  obtain ⟨hR, h⟩ := hp
  refine g_aload_0 (pc := 4) X dX12_packs_4 ?_
  refine g_aload_0 (pc := 5) X dX12_packs_5 ?_
  refine g_getRf (pc := 6) X dX12_packs_6 fl_X12_123 rfl (by decide) rfl hR rfl ?_
  refine g_callV_V (pc := 9) X Y dX12_packs_9 miX12_setRests li_X12_435 (t_X12_setRests hR (by decide) (by decide) h) rfl (by decide) rfl ⟨_, rfl⟩ rfl ⟨Nat.le_of_ble_eq_true rfl, Nat.le_of_ble_eq_true rfl⟩ (Nat.le_of_ble_eq_true rfl) (Nat.le_of_ble_eq_true rfl) rfl (by exact Nat.le_of_ble_eq_true rfl) (fun s2 hp => ?_)
  obtain ⟨hR, h⟩ := hp
  refine g_aload_0 (pc := 12) X dX12_packs_12 ?_
  refine g_iconst (pc := 13) X dX12_packs_13 kiconst_0 ?_
  refine g_putI_w (pc := 14) X dX12_packs_14 fl_X12_438 rfl (by decide) rfl rfl hR h (fun s3 hR h => ?_)
  refine g_aload_0 (pc := 17) X dX12_packs_17 ?_
  refine g_iconst (pc := 18) X dX12_packs_18 kiconst_0 ?_
  refine g_putI_w (pc := 19) X dX12_packs_19 fl_X12_441 rfl (by decide) rfl rfl hR h (fun s4 hR h => ?_)
  refine g_lconst (pc := 22) X dX12_packs_22 (v := lN 0) rfl ?_
  refine g_lstore_2 (pc := 23) X dX12_packs_23 (by decide) rfl ?_
  refine g_iconst (pc := 24) X dX12_packs_24 kiconst_0 ?_
  refine g_istore_4 (pc := 25) X dX12_packs_25 (by decide) rfl ?_
  obtain ⟨n49, h⟩ := h
  have hL : ∀ (c5 : Int32) (K : Int64 → gSt → Prop) (_ : ∀ (y9 : Int64) (s10 : gSt), s10.2.2 = gRf b → K y9 s10 → G o γ 0 0 116 s10 206 [some (.ref (ad o 65)), some (.int c5), some (.long y9), none, none, none, none, none] []) (n : Nat) (v6 : Int64) (v7 : Int32) (s8 : gSt), s8.2.2 = gRf b → L_X12_packs_27 Q c5 K n v6 v7 s8 → G o γ 0 0 116 s8 27 [some (.ref (ad o 65)), some (.int c5), some (.long v6), none, some (.int v7), none, none, none] [] := by
    intro c5 K hK n
    induction n with
    | zero => intro v6 v7 s8 hR h; exact False.elim h
    | succ n ih =>
      intro v6 v7 s8 hR h
      rw [L_X12_packs_27] at h
      refine g_iload_4 (pc := 27) X dX12_packs_27 ?_
      refine g_aload_0 (pc := 29) X dX12_packs_29 ?_
      refine g_getI (pc := 30) X dX12_packs_30 rfl (by decide) fl_X12_177 (Or.inl rfl) ?_
      refine g_icmp_ge (pc := 33) X dX12_packs_33 (tgt := 206) (by decide) (fun q11 => ?_) (fun q11 => ?_)
      · replace h := h.1 q11
        exact g_drop (by simp [lsub]) (hK v6 s8 hR h)
      · replace h := h.2 q11
        refine g_iload_4 (pc := 36) X dX12_packs_36 ?_
        refine g_iconst (pc := 38) X dX12_packs_38 kiconst_1 ?_
        refine g_iadd (pc := 39) X dX12_packs_39 ?_
        refine g_istore_5 (pc := 40) X dX12_packs_40 (by decide) rfl ?_
        obtain ⟨n46, h⟩ := h
        have hL : ∀ (c12 : Int32) (c13 : Int32) (K : Int64 → gSt → Prop) (_ : ∀ (y17 : Int64) (s18 : gSt), s18.2.2 = gRf b → K y17 s18 → G o γ 0 0 116 s18 200 [some (.ref (ad o 65)), some (.int c12), some (.long y17), none, some (.int c13), none, none, none] []) (n : Nat) (v14 : Int64) (v15 : Int32) (s16 : gSt), s16.2.2 = gRf b → L_X12_packs_42 Q c12 c13 K n v14 v15 s16 → G o γ 0 0 116 s16 42 [some (.ref (ad o 65)), some (.int c12), some (.long v14), none, some (.int c13), some (.int v15), none, none] [] := by
          intro c12 c13 K hK n
          induction n with
          | zero => intro v14 v15 s16 hR h; exact False.elim h
          | succ n ih =>
            intro v14 v15 s16 hR h
            rw [L_X12_packs_42] at h
            refine g_iload_5 (pc := 42) X dX12_packs_42 ?_
            refine g_aload_0 (pc := 44) X dX12_packs_44 ?_
            refine g_getI (pc := 45) X dX12_packs_45 rfl (by decide) fl_X12_177 (Or.inl rfl) ?_
            refine g_icmp_ge (pc := 48) X dX12_packs_48 (tgt := 200) (by decide) (fun q19 => ?_) (fun q19 => ?_)
            · replace h := h.1 q19
              exact g_drop (by simp [lsub]) (hK v14 s16 hR h)
            · replace h := h.2 q19
              refine g_iload_5 (pc := 51) X dX12_packs_51 ?_
              refine g_iconst (pc := 53) X dX12_packs_53 kiconst_1 ?_
              refine g_iadd (pc := 54) X dX12_packs_54 ?_
              refine g_istore_6 (pc := 55) X dX12_packs_55 (by decide) rfl ?_
              obtain ⟨n43, h⟩ := h
              have hL : ∀ (c20 : Int32) (c21 : Int32) (c22 : Int32) (K : Int64 → gSt → Prop) (_ : ∀ (y26 : Int64) (s27 : gSt), s27.2.2 = gRf b → K y26 s27 → G o γ 0 0 116 s27 194 [some (.ref (ad o 65)), some (.int c20), some (.long y26), none, some (.int c21), some (.int c22), none, none] []) (n : Nat) (v23 : Int64) (v24 : Int32) (s25 : gSt), s25.2.2 = gRf b → L_X12_packs_57 Q c20 c21 c22 K n v23 v24 s25 → G o γ 0 0 116 s25 57 [some (.ref (ad o 65)), some (.int c20), some (.long v23), none, some (.int c21), some (.int c22), some (.int v24), none] [] := by
                intro c20 c21 c22 K hK n
                induction n with
                | zero => intro v23 v24 s25 hR h; exact False.elim h
                | succ n ih =>
                  intro v23 v24 s25 hR h
                  rw [L_X12_packs_57] at h
                  refine g_iload_6 (pc := 57) X dX12_packs_57 ?_
                  refine g_aload_0 (pc := 59) X dX12_packs_59 ?_
                  refine g_getI (pc := 60) X dX12_packs_60 rfl (by decide) fl_X12_177 (Or.inl rfl) ?_
                  refine g_icmp_ge (pc := 63) X dX12_packs_63 (tgt := 194) (by decide) (fun q28 => ?_) (fun q28 => ?_)
                  · replace h := h.1 q28
                    exact g_drop (by simp [lsub]) (hK v23 s25 hR h)
                  · replace h := h.2 q28
                    refine g_aload_0 (pc := 66) X dX12_packs_66 ?_
                    refine g_iload_4 (pc := 67) X dX12_packs_67 ?_
                    refine g_iload_5 (pc := 69) X dX12_packs_69 ?_
                    refine g_iload_6 (pc := 71) X dX12_packs_71 ?_
                    refine g_callV_I (pc := 73) X Y dX12_packs_73 miX12_isRing li_X12_444 (t_X12_isRing hR  h) rfl (by decide) rfl ⟨_, rfl⟩ rfl ⟨Nat.le_of_ble_eq_true rfl, Nat.le_of_ble_eq_true rfl⟩ (Nat.le_of_ble_eq_true rfl) (Nat.le_of_ble_eq_true rfl) rfl (by exact Nat.le_of_ble_eq_true rfl) (fun x29 σ9 hp => ?_)
                    obtain ⟨rfl, h⟩ := hp
                    refine g_if_ne (pc := 76) X dX12_packs_76 (tgt := 82) (by decide) (fun q30 => ?_) (fun q30 => ?_)
                    · replace h := h.2 q30
                      refine g_aload_0 (pc := 82) X dX12_packs_82 ?_
                      refine g_dup (pc := 83) X dX12_packs_83 rfl ?_
                      refine g_getI (pc := 84) X dX12_packs_84 rfl (by decide) fl_X12_438 (Or.inl rfl) ?_
                      refine g_iconst (pc := 87) X dX12_packs_87 kiconst_1 ?_
                      refine g_iadd (pc := 88) X dX12_packs_88 ?_
                      refine g_putI_w (pc := 89) X dX12_packs_89 fl_X12_438 rfl (by decide) rfl rfl hR h (fun s31 hR h => ?_)
                      refine g_aload_0 (pc := 92) X dX12_packs_92 ?_
                      refine g_aload_0 (pc := 93) X dX12_packs_93 ?_
                      refine g_getRf (pc := 94) X dX12_packs_94 fl_X12_123 rfl (by decide) rfl hR rfl ?_
                      refine g_iload_4 (pc := 97) X dX12_packs_97 ?_
                      refine g_iload_5 (pc := 99) X dX12_packs_99 ?_
                      refine g_iload_6 (pc := 101) X dX12_packs_101 ?_
                      refine g_callV_I (pc := 103) X Y dX12_packs_103 miX12_leastRest li_X12_447 (t_X12_leastRest hR (by decide) (by decide) h) rfl (by decide) rfl ⟨_, rfl⟩ rfl ⟨Nat.le_of_ble_eq_true rfl, Nat.le_of_ble_eq_true rfl⟩ (Nat.le_of_ble_eq_true rfl) (Nat.le_of_ble_eq_true rfl) rfl (by exact Nat.le_of_ble_eq_true rfl) (fun x32 σ9 hp => ?_)
                      obtain ⟨rfl, h⟩ := hp
                      refine g_istore_7 (pc := 106) X dX12_packs_106 (by decide) rfl ?_
                      refine g_iload_7 (pc := 108) X dX12_packs_108 ?_
                      refine g_if_ne (pc := 110) X dX12_packs_110 (tgt := 116) (by decide) (fun q33 => ?_) (fun q33 => ?_)
                      · replace h := h.2 q33
                        refine g_aload_0 (pc := 116) X dX12_packs_116 ?_
                        refine g_getI (pc := 117) X dX12_packs_117 rfl (by decide) fl_X12_441 (Or.inl rfl) ?_
                        refine g_iload_1 (pc := 120) X dX12_packs_120 ?_
                        replace h := h (fun s34 => s34.2.2 = gRf b → G o γ 0 0 116 s34 156 [some (.ref (ad o 65)), some (.int c20), some (.long v23), none, some (.int c21), some (.int c22), some (.int v24), some (.int x32)] []) (by
                            intro s34 h hR
                            refine g_aload_0 (pc := 156) X dX12_packs_156 ?_
                            refine g_dup (pc := 157) X dX12_packs_157 rfl ?_
                            refine g_getI (pc := 158) X dX12_packs_158 rfl (by decide) fl_X12_441 (Or.inl rfl) ?_
                            refine g_iconst (pc := 161) X dX12_packs_161 kiconst_1 ?_
                            refine g_iadd (pc := 162) X dX12_packs_162 ?_
                            refine g_putI_w (pc := 163) X dX12_packs_163 fl_X12_441 rfl (by decide) rfl rfl hR h (fun s36 hR h => ?_)
                            refine g_lload_2 (pc := 166) X dX12_packs_166 ?_
                            refine g_iload_7 (pc := 167) X dX12_packs_167 ?_
                            refine g_i2l (pc := 169) X dX12_packs_169 ?_
                            refine g_ladd (pc := 170) X dX12_packs_170 ?_
                            refine g_lstore_2 (pc := 171) X dX12_packs_171 (by decide) rfl ?_
                            refine g_aload_0 (pc := 172) X dX12_packs_172 ?_
                            refine g_aload_0 (pc := 173) X dX12_packs_173 ?_
                            refine g_getRf (pc := 174) X dX12_packs_174 fl_X12_123 rfl (by decide) rfl hR rfl ?_
                            refine g_iload_4 (pc := 177) X dX12_packs_177 ?_
                            refine g_iload_5 (pc := 179) X dX12_packs_179 ?_
                            refine g_iload_6 (pc := 181) X dX12_packs_181 ?_
                            refine g_iload_7 (pc := 183) X dX12_packs_183 ?_
                            refine g_callV_V (pc := 185) X Y dX12_packs_185 miX12_takesRest li_X12_451 (t_X12_takesRest hR (by decide) (by decide) h) rfl (by decide) rfl ⟨_, rfl⟩ rfl ⟨Nat.le_of_ble_eq_true rfl, Nat.le_of_ble_eq_true rfl⟩ (Nat.le_of_ble_eq_true rfl) (Nat.le_of_ble_eq_true rfl) rfl (by exact Nat.le_of_ble_eq_true rfl) (fun s37 hp => ?_)
                            obtain ⟨hR, h⟩ := hp
                            refine g_iinc_6 (pc := 188) X dX12_packs_188 (v := v24 + nI 1) rfl (by decide) rfl ?_
                            refine g_goto (pc := 191) X dX12_packs_191 (tgt := 57) (by decide) ?_
                            exact g_drop (by simp [lsub]) (ih (v23 + (i2l x32)) (v24 + nI 1) s37 hR h))
                        refine g_icmp_ne (pc := 121) X dX12_packs_121 (tgt := 156) (by decide) (fun q38 => ?_) (fun q38 => ?_)
                        · replace h := h.2 q38
                          exact h hR
                        · replace h := h.1 q38
                          refine g_aload_0 (pc := 124) X dX12_packs_124 ?_
                          refine g_getRf (pc := 125) X dX12_packs_125 fl_X12_129 rfl (by decide) rfl hR rfl ?_
                          refine g_iconst (pc := 128) X dX12_packs_128 kiconst_0 ?_
                          refine g_iload_4 (pc := 129) X dX12_packs_129 ?_
                          refine g_iastore_w (pc := 131) X dX12_packs_131 rfl (by decide) hR h (fun s39 hR h => ?_)
                          refine g_aload_0 (pc := 132) X dX12_packs_132 ?_
                          refine g_getRf (pc := 133) X dX12_packs_133 fl_X12_129 rfl (by decide) rfl hR rfl ?_
                          refine g_iconst (pc := 136) X dX12_packs_136 kiconst_1 ?_
                          refine g_iload_5 (pc := 137) X dX12_packs_137 ?_
                          refine g_iastore_w (pc := 139) X dX12_packs_139 rfl (by decide) hR h (fun s40 hR h => ?_)
                          refine g_aload_0 (pc := 140) X dX12_packs_140 ?_
                          refine g_getRf (pc := 141) X dX12_packs_141 fl_X12_129 rfl (by decide) rfl hR rfl ?_
                          refine g_iconst (pc := 144) X dX12_packs_144 kiconst_2 ?_
                          refine g_iload_6 (pc := 145) X dX12_packs_145 ?_
                          refine g_iastore_w (pc := 147) X dX12_packs_147 rfl (by decide) hR h (fun s41 hR h => ?_)
                          refine g_aload_0 (pc := 148) X dX12_packs_148 ?_
                          refine g_getRf (pc := 149) X dX12_packs_149 fl_X12_129 rfl (by decide) rfl hR rfl ?_
                          refine g_iconst (pc := 152) X dX12_packs_152 kiconst_3 ?_
                          refine g_iload_7 (pc := 153) X dX12_packs_153 ?_
                          refine g_iastore_w (pc := 155) X dX12_packs_155 rfl (by decide) hR h (fun s42 hR h => ?_)
                          exact h hR
                      · replace h := h.1 q33
                        refine g_goto (pc := 113) X dX12_packs_113 (tgt := 188) (by decide) ?_
                        refine g_iinc_6 (pc := 188) X dX12_packs_188 (v := v24 + nI 1) rfl (by decide) rfl ?_
                        refine g_goto (pc := 191) X dX12_packs_191 (tgt := 57) (by decide) ?_
                        exact g_drop (by simp [lsub]) (ih v23 (v24 + nI 1) s31 hR h)
                    · replace h := h.1 q30
                      refine g_goto (pc := 79) X dX12_packs_79 (tgt := 188) (by decide) ?_
                      refine g_iinc_6 (pc := 188) X dX12_packs_188 (v := v24 + nI 1) rfl (by decide) rfl ?_
                      refine g_goto (pc := 191) X dX12_packs_191 (tgt := 57) (by decide) ?_
                      exact ih v23 (v24 + nI 1) s25 hR h
              refine hL c12 c13 v15 _ (fun y44 s45 hR h => ?_) n43 v14 (v15 + (nI 1)) s16 hR h
              · refine g_iinc_5 (pc := 194) X dX12_packs_194 (v := v15 + nI 1) rfl (by decide) rfl ?_
                refine g_goto (pc := 197) X dX12_packs_197 (tgt := 42) (by decide) ?_
                exact ih y44 (v15 + nI 1) s45 hR h
        refine hL c5 v7 _ (fun y47 s48 hR h => ?_) n46 v6 (v7 + (nI 1)) s8 hR h
        · refine g_iinc_4 (pc := 200) X dX12_packs_200 (v := v7 + nI 1) rfl (by decide) rfl ?_
          refine g_goto (pc := 203) X dX12_packs_203 (tgt := 27) (by decide) ?_
          exact ih y47 (v7 + nI 1) s48 hR h
  refine hL p0 _ (fun y50 s51 hR h => ?_) n49 (lN 0) (nI 0) s4 hR h
  · refine g_lload_2 (pc := 206) X dX12_packs_206 ?_
    exact g_lreturn (pc := 207) X Y dX12_packs_207 (Nat.le_of_ble_eq_true rfl) (Nat.le_of_ble_eq_true rfl) ⟨_, rfl, hR, h⟩
def W_X12_bound  (Q : Int64 → gSt → Prop) (σ : gSt) : Prop := fI σ 65 0 (nI 0) (fun s1 => W_X12_packs ((-1 : Int32)) (fun x2 s3 => Q x2 s3) s1)
set_option maxHeartbeats 4000000 in
theorem t_X12_bound {o : gOm} {l : Launch} {b : Bool}   {σ : gSt} (hR : σ.2.2 = gRf b)  {Q : Int64 → gSt → Prop} (h : W_X12_bound  Q σ) : Sp o l mX12_bound 9 0 0 [.ref (ad o 65)] 116 116 σ (pL (fun x s => s.2.2 = gRf b ∧ Q x s)) := by
  unfold W_X12_bound at h
  refine Sp.of (ls0 := [some (.ref (ad o 65))]) miX12_bound rfl (Nat.le_of_ble_eq_true rfl) rfl (fun γ hγ hnm X Y => ?_)
  subst hγ
  have X : gX o γ cX12_bound 1 RX12 := X
  refine g_aload_0 (pc := 0) X dX12_bound_0 ?_
  refine g_iconst (pc := 1) X dX12_bound_1 kiconst_0 ?_
  refine g_putI_w (pc := 2) X dX12_bound_2 fl_X12_1 rfl (by decide) rfl rfl hR h (fun s1 hR h => ?_)
  refine g_aload_0 (pc := 5) X dX12_bound_5 ?_
  refine g_iconst (pc := 6) X dX12_bound_6 kiconst_m1 ?_
  refine g_callV_L (pc := 7) X Y dX12_bound_7 miX12_packs li_X12_455 (t_X12_packs hR  h) rfl (by decide) rfl ⟨_, rfl⟩ rfl ⟨Nat.le_of_ble_eq_true rfl, Nat.le_of_ble_eq_true rfl⟩ (Nat.le_of_ble_eq_true rfl) (Nat.le_of_ble_eq_true rfl) rfl (by exact Nat.le_of_ble_eq_true rfl) (fun x2 s3 hp => ?_)
  obtain ⟨hR, h⟩ := hp
  exact g_lreturn (pc := 10) X Y dX12_bound_10 (Nat.le_of_ble_eq_true rfl) (Nat.le_of_ble_eq_true rfl) ⟨_, rfl, hR, h⟩
def W_X12_ring (p0 : Int32) (p1 : Int32) (Q : Int32 → gSt → Prop) (σ : gSt) : Prop := fI σ 65 0 (nI 0) (fun s1 => W_X12_within p1 (nI 0) (nI 3) (fun x2 => W_X12_may x2 (nI 1) (fun x3 s4 => ((x3 = 0 → (Q (nI 0) s4)) ∧ (¬ x3 = 0 → (W_X12_packs p0 (fun x6 s7 => ((p0 < 0 → (Q ((-1 : Int32)) s7)) ∧ (¬ p0 < 0 → ((((s7.1 65 62) ≤ p0 → (Q ((-1 : Int32)) s7)) ∧ (¬ (s7.1 65 62) ≤ p0 → (rI s7 102 4 p1 (fun x10 => Q x10 s7)))))))) s4)))) s1) s1)
set_option maxHeartbeats 4000000 in
theorem t_X12_ring {o : gOm} {l : Launch} {b : Bool}   {σ : gSt} (hR : σ.2.2 = gRf b) {p0 : Int32} {p1 : Int32} {Q : Int32 → gSt → Prop} (h : W_X12_ring p0 p1 Q σ) : Sp o l mX12_ring 9 0 0 [.ref (ad o 65), .int p0, .int p1] 116 116 σ (pI (fun x s => s.2.2 = gRf b ∧ Q x s)) := by
  unfold W_X12_ring at h
  refine Sp.of (ls0 := [some (.ref (ad o 65)), some (.int p0), some (.int p1), none, none]) miX12_ring rfl (Nat.le_of_ble_eq_true rfl) rfl (fun γ hγ hnm X Y => ?_)
  subst hγ
  have X : gX o γ cX12_ring 5 RX12 := X
  refine g_aload_0 (pc := 0) X dX12_ring_0 ?_
  refine g_iconst (pc := 1) X dX12_ring_1 kiconst_0 ?_
  refine g_putI_w (pc := 2) X dX12_ring_2 fl_X12_1 rfl (by decide) rfl rfl hR h (fun s1 hR h => ?_)
  refine g_aload_0 (pc := 5) X dX12_ring_5 ?_
  refine g_iload_2 (pc := 6) X dX12_ring_6 ?_
  refine g_iconst (pc := 7) X dX12_ring_7 kiconst_0 ?_
  refine g_iconst (pc := 8) X dX12_ring_8 kiconst_3 ?_
  refine g_callS_I (pc := 9) X Y dX12_ring_9 miX12_within li_X12_169 (t_X12_within hR  h) rfl ⟨Nat.le_of_ble_eq_true rfl, Nat.le_of_ble_eq_true rfl⟩ (Nat.le_of_ble_eq_true rfl) (Nat.le_of_ble_eq_true rfl) rfl (by exact Nat.le_of_ble_eq_true rfl) (fun x2 σ9 hp => ?_)
  obtain ⟨rfl, h⟩ := hp
  refine g_iconst (pc := 12) X dX12_ring_12 kiconst_1 ?_
  refine g_callV_I (pc := 13) X Y dX12_ring_13 miX12_may li_X12_173 (t_X12_may hR  h) rfl (by decide) rfl ⟨_, rfl⟩ rfl ⟨Nat.le_of_ble_eq_true rfl, Nat.le_of_ble_eq_true rfl⟩ (Nat.le_of_ble_eq_true rfl) (Nat.le_of_ble_eq_true rfl) rfl (by exact Nat.le_of_ble_eq_true rfl) (fun x3 s4 hp => ?_)
  obtain ⟨hR, h⟩ := hp
  refine g_if_ne (pc := 16) X dX12_ring_16 (tgt := 21) (by decide) (fun q5 => ?_) (fun q5 => ?_)
  · replace h := h.2 q5
    refine g_aload_0 (pc := 21) X dX12_ring_21 ?_
    refine g_iload_1 (pc := 22) X dX12_ring_22 ?_
    refine g_callV_L (pc := 23) X Y dX12_ring_23 miX12_packs li_X12_455 (t_X12_packs hR  h) rfl (by decide) rfl ⟨_, rfl⟩ rfl ⟨Nat.le_of_ble_eq_true rfl, Nat.le_of_ble_eq_true rfl⟩ (Nat.le_of_ble_eq_true rfl) (Nat.le_of_ble_eq_true rfl) rfl (by exact Nat.le_of_ble_eq_true rfl) (fun x6 s7 hp => ?_)
    obtain ⟨hR, h⟩ := hp
    refine g_lstore_3 (pc := 26) X dX12_ring_26 (by decide) rfl ?_
    refine g_iload_1 (pc := 27) X dX12_ring_27 ?_
    refine g_if_lt (pc := 28) X dX12_ring_28 (tgt := 48) (by decide) (fun q8 => ?_) (fun q8 => ?_)
    · replace h := h.1 q8
      refine g_iconst (pc := 48) X dX12_ring_48 kiconst_m1 ?_
      exact g_ireturn (pc := 49) X Y dX12_ring_49 (Nat.le_of_ble_eq_true rfl) (Nat.le_of_ble_eq_true rfl) ⟨_, rfl, hR, h⟩
    · replace h := h.2 q8
      refine g_iload_1 (pc := 31) X dX12_ring_31 ?_
      refine g_aload_0 (pc := 32) X dX12_ring_32 ?_
      refine g_getI (pc := 33) X dX12_ring_33 rfl (by decide) fl_X12_441 (Or.inl rfl) ?_
      refine g_icmp_ge (pc := 36) X dX12_ring_36 (tgt := 48) (by decide) (fun q9 => ?_) (fun q9 => ?_)
      · replace h := h.1 q9
        refine g_iconst (pc := 48) X dX12_ring_48 kiconst_m1 ?_
        exact g_ireturn (pc := 49) X Y dX12_ring_49 (Nat.le_of_ble_eq_true rfl) (Nat.le_of_ble_eq_true rfl) ⟨_, rfl, hR, h⟩
      · replace h := h.2 q9
        refine g_aload_0 (pc := 39) X dX12_ring_39 ?_
        refine g_getRf (pc := 40) X dX12_ring_40 fl_X12_129 rfl (by decide) rfl hR rfl ?_
        refine g_iload_2 (pc := 43) X dX12_ring_43 ?_
        refine g_iaload_w (pc := 44) X dX12_ring_44 rfl (by decide) h (fun x10 h => ?_)
        refine g_goto (pc := 45) X dX12_ring_45 (tgt := 49) (by decide) ?_
        exact g_ireturn (pc := 49) X Y dX12_ring_49 (Nat.le_of_ble_eq_true rfl) (Nat.le_of_ble_eq_true rfl) ⟨_, rfl, hR, h⟩
  · replace h := h.1 q5
    refine g_iconst (pc := 19) X dX12_ring_19 kiconst_0 ?_
    exact g_ireturn (pc := 20) X Y dX12_ring_20 (Nat.le_of_ble_eq_true rfl) (Nat.le_of_ble_eq_true rfl) ⟨_, rfl, hR, h⟩
def W_X12_rings  (Q : Int32 → gSt → Prop) (σ : gSt) : Prop := fI σ 65 0 (nI 0) (fun s1 => W_X12_packs ((-1 : Int32)) (fun x2 s3 => Q (s3.1 65 61) s3) s1)
set_option maxHeartbeats 4000000 in
theorem t_X12_rings {o : gOm} {l : Launch} {b : Bool}   {σ : gSt} (hR : σ.2.2 = gRf b)  {Q : Int32 → gSt → Prop} (h : W_X12_rings  Q σ) : Sp o l mX12_rings 9 0 0 [.ref (ad o 65)] 116 116 σ (pI (fun x s => s.2.2 = gRf b ∧ Q x s)) := by
  unfold W_X12_rings at h
  refine Sp.of (ls0 := [some (.ref (ad o 65)), none, none]) miX12_rings rfl (Nat.le_of_ble_eq_true rfl) rfl (fun γ hγ hnm X Y => ?_)
  subst hγ
  have X : gX o γ cX12_rings 3 RX12 := X
  refine g_aload_0 (pc := 0) X dX12_rings_0 ?_
  refine g_iconst (pc := 1) X dX12_rings_1 kiconst_0 ?_
  refine g_putI_w (pc := 2) X dX12_rings_2 fl_X12_1 rfl (by decide) rfl rfl hR h (fun s1 hR h => ?_)
  refine g_aload_0 (pc := 5) X dX12_rings_5 ?_
  refine g_iconst (pc := 6) X dX12_rings_6 kiconst_m1 ?_
  refine g_callV_L (pc := 7) X Y dX12_rings_7 miX12_packs li_X12_455 (t_X12_packs hR  h) rfl (by decide) rfl ⟨_, rfl⟩ rfl ⟨Nat.le_of_ble_eq_true rfl, Nat.le_of_ble_eq_true rfl⟩ (Nat.le_of_ble_eq_true rfl) (Nat.le_of_ble_eq_true rfl) rfl (by exact Nat.le_of_ble_eq_true rfl) (fun x2 s3 hp => ?_)
  obtain ⟨hR, h⟩ := hp
  refine g_lstore_1 (pc := 10) X dX12_rings_10 (by decide) rfl ?_
  refine g_aload_0 (pc := 11) X dX12_rings_11 ?_
  refine g_getI (pc := 12) X dX12_rings_12 rfl (by decide) fl_X12_438 (Or.inl rfl) ?_
  exact g_ireturn (pc := 15) X Y dX12_rings_15 (Nat.le_of_ble_eq_true rfl) (Nat.le_of_ble_eq_true rfl) ⟨_, rfl, hR, h⟩
def W_X12_told (p0 : Int32) (p1 : Int32) (p2 : Int32) (p3 : Int32) (Q : Int64 → gSt → Prop) (σ : gSt) : Prop := fI σ 65 0 (nI 0) (fun s1 => W_X12_isEntry p0 (fun x2 s3 => ((x2 = 0 → (Q (lN 0) s3)) ∧ (¬ x2 = 0 → (W_X12_isEntry p1 (fun x5 s6 => ((x5 = 0 → (Q (lN 0) s6)) ∧ (¬ x5 = 0 → (W_X12_isEntry p2 (fun x8 s9 => ((x8 = 0 → (Q (lN 0) s9)) ∧ (¬ x8 = 0 → (∀ J12 : Int32 → Prop, (∀ x11, (W_X12_may x11 (nI 2) (fun x13 s14 => ((x13 = 0 → (Q (lN 0) s14)) ∧ (¬ x13 = 0 → (∀ J17 : Int32 → Prop, (∀ x16, (∀ J19 : Int32 → Prop, (∀ x18, (W_X12_weighs (fun s20 => W_X12_isRing x16 ((((p0 + p1) + p2) - x16) - x18) x18 (fun x21 => ((x21 = 0 → (Q ((-1 : Int64)) s20)) ∧ (¬ x21 = 0 → (∀ J24 : gSt → Prop, (∀ s23, (fZ s23 65 60 (nI 1) (fun s25 => W_X12_leastRest 101 x16 ((((p0 + p1) + p2) - x16) - x18) x18 (fun x26 => ((p3 ≤ x26 → ((((s25.1 65 56) = (nI 40) → (Q ((-3 : Int64)) s25)) ∧ (¬ (s25.1 65 56) = (nI 40) → (fI s25 65 56 ((s25.1 65 56) + (nI 1)) (fun s29 => W_X12_takesRest 101 x16 ((((p0 + p1) + p2) - x16) - x18) x18 p3 (fun s30 => fL s30 65 57 ((s30.2.1 65 57) + (i2l p3)) (fun s31 => Q (s31.2.1 65 57) s31)) s29)))))) ∧ (¬ p3 ≤ x26 → (Q ((-2 : Int64)) s25)))) s25)) → J24 s23) → (((s20.1 65 60) = 0 → (W_X12_setRests 101 (fun s33 => J24 s33) s20)) ∧ (¬ (s20.1 65 60) = 0 → (J24 s20))))))) s20) s14) → J19 x18) → ((p0 ≤ p1 → (((p1 ≤ p2 → (J19 p2)) ∧ (¬ p1 ≤ p2 → (J19 p1))))) ∧ (¬ p0 ≤ p1 → (((p0 ≤ p2 → (J19 p2)) ∧ (¬ p0 ≤ p2 → (J19 p0))))))) → J17 x16) → ((p1 ≤ p0 → (((p2 ≤ p1 → (J17 p2)) ∧ (¬ p2 ≤ p1 → (J17 p1))))) ∧ (¬ p1 ≤ p0 → (((p2 ≤ p0 → (J17 p2)) ∧ (¬ p2 ≤ p0 → (J17 p0)))))))))) s9) → J12 x11) → ∀ J40 : Prop, ((J12 (nI 0)) → J40) → ((p0 = p1 → J40) ∧ (¬ p0 = p1 → (((p0 = p2 → J40) ∧ (¬ p0 = p2 → (((p1 = p2 → J40) ∧ (¬ p1 = p2 → (W_X12_within p3 (nI 1) ((1000000 : Int32)) (fun x44 => ((x44 = 0 → J40) ∧ (¬ x44 = 0 → (J12 (nI 1))))) s9))))))))))))) s6)))) s3)))) s1)
set_option maxHeartbeats 4000000 in
theorem t_X12_told {o : gOm} {l : Launch} {b : Bool}   {σ : gSt} (hR : σ.2.2 = gRf b) {p0 : Int32} {p1 : Int32} {p2 : Int32} {p3 : Int32} {Q : Int64 → gSt → Prop} (h : W_X12_told p0 p1 p2 p3 Q σ) : Sp o l mX12_told 8 0 0 [.ref (ad o 65), .int p0, .int p1, .int p2, .int p3] 116 116 σ (pL (fun x s => s.2.2 = gRf b ∧ Q x s)) := by
  unfold W_X12_told at h
  refine Sp.of (ls0 := [some (.ref (ad o 65)), some (.int p0), some (.int p1), some (.int p2), some (.int p3), none, none, none]) miX12_told rfl (Nat.le_of_ble_eq_true rfl) rfl (fun γ hγ hnm X Y => ?_)
  subst hγ
  have X : gX o γ cX12_told 8 RX12 := X
  refine g_aload_0 (pc := 0) X dX12_told_0 ?_
  refine g_iconst (pc := 1) X dX12_told_1 kiconst_0 ?_
  refine g_putI_w (pc := 2) X dX12_told_2 fl_X12_1 rfl (by decide) rfl rfl hR h (fun s1 hR h => ?_)
  refine g_aload_0 (pc := 5) X dX12_told_5 ?_
  refine g_iload_1 (pc := 6) X dX12_told_6 ?_
  refine g_callV_I (pc := 7) X Y dX12_told_7 miX12_isEntry li_X12_183 (t_X12_isEntry hR  h) rfl (by decide) rfl ⟨_, rfl⟩ rfl ⟨Nat.le_of_ble_eq_true rfl, Nat.le_of_ble_eq_true rfl⟩ (Nat.le_of_ble_eq_true rfl) (Nat.le_of_ble_eq_true rfl) rfl (by exact Nat.le_of_ble_eq_true rfl) (fun x2 s3 hp => ?_)
  obtain ⟨hR, h⟩ := hp
  refine g_if_eq (pc := 10) X dX12_told_10 (tgt := 69) (by decide) (fun q4 => ?_) (fun q4 => ?_)
  · replace h := h.1 q4
    refine g_lconst (pc := 69) X dX12_told_69 (v := lN 0) rfl ?_
    exact g_lreturn (pc := 70) X Y dX12_told_70 (Nat.le_of_ble_eq_true rfl) (Nat.le_of_ble_eq_true rfl) ⟨_, rfl, hR, h⟩
  · replace h := h.2 q4
    refine g_aload_0 (pc := 13) X dX12_told_13 ?_
    refine g_iload_2 (pc := 14) X dX12_told_14 ?_
    refine g_callV_I (pc := 15) X Y dX12_told_15 miX12_isEntry li_X12_183 (t_X12_isEntry hR  h) rfl (by decide) rfl ⟨_, rfl⟩ rfl ⟨Nat.le_of_ble_eq_true rfl, Nat.le_of_ble_eq_true rfl⟩ (Nat.le_of_ble_eq_true rfl) (Nat.le_of_ble_eq_true rfl) rfl (by exact Nat.le_of_ble_eq_true rfl) (fun x5 s6 hp => ?_)
    obtain ⟨hR, h⟩ := hp
    refine g_if_eq (pc := 18) X dX12_told_18 (tgt := 69) (by decide) (fun q7 => ?_) (fun q7 => ?_)
    · replace h := h.1 q7
      refine g_lconst (pc := 69) X dX12_told_69 (v := lN 0) rfl ?_
      exact g_lreturn (pc := 70) X Y dX12_told_70 (Nat.le_of_ble_eq_true rfl) (Nat.le_of_ble_eq_true rfl) ⟨_, rfl, hR, h⟩
    · replace h := h.2 q7
      refine g_aload_0 (pc := 21) X dX12_told_21 ?_
      refine g_iload_3 (pc := 22) X dX12_told_22 ?_
      refine g_callV_I (pc := 23) X Y dX12_told_23 miX12_isEntry li_X12_183 (t_X12_isEntry hR  h) rfl (by decide) rfl ⟨_, rfl⟩ rfl ⟨Nat.le_of_ble_eq_true rfl, Nat.le_of_ble_eq_true rfl⟩ (Nat.le_of_ble_eq_true rfl) (Nat.le_of_ble_eq_true rfl) rfl (by exact Nat.le_of_ble_eq_true rfl) (fun x8 s9 hp => ?_)
      obtain ⟨hR, h⟩ := hp
      refine g_if_eq (pc := 26) X dX12_told_26 (tgt := 69) (by decide) (fun q10 => ?_) (fun q10 => ?_)
      · replace h := h.1 q10
        refine g_lconst (pc := 69) X dX12_told_69 (v := lN 0) rfl ?_
        exact g_lreturn (pc := 70) X Y dX12_told_70 (Nat.le_of_ble_eq_true rfl) (Nat.le_of_ble_eq_true rfl) ⟨_, rfl, hR, h⟩
      · replace h := h.2 q10
        refine g_aload_0 (pc := 29) X dX12_told_29 ?_
        refine g_iload_1 (pc := 30) X dX12_told_30 ?_
        refine g_iload_2 (pc := 31) X dX12_told_31 ?_
        replace h := h (fun x11 => G o γ 0 0 116 s9 62 [some (.ref (ad o 65)), some (.int p0), some (.int p1), some (.int p2), some (.int p3), none, none, none] [.int x11, .ref (ad o 65)]) (by
            intro x11 h
            refine g_iconst (pc := 62) X dX12_told_62 kiconst_2 ?_
            refine g_callV_I (pc := 63) X Y dX12_told_63 miX12_may li_X12_173 (t_X12_may hR  h) rfl (by decide) rfl ⟨_, rfl⟩ rfl ⟨Nat.le_of_ble_eq_true rfl, Nat.le_of_ble_eq_true rfl⟩ (Nat.le_of_ble_eq_true rfl) (Nat.le_of_ble_eq_true rfl) rfl (by exact Nat.le_of_ble_eq_true rfl) (fun x13 s14 hp => ?_)
            obtain ⟨hR, h⟩ := hp
            refine g_if_ne (pc := 66) X dX12_told_66 (tgt := 71) (by decide) (fun q15 => ?_) (fun q15 => ?_)
            · replace h := h.2 q15
              refine g_iload_1 (pc := 71) X dX12_told_71 ?_
              refine g_iload_2 (pc := 72) X dX12_told_72 ?_
              replace h := h (fun x16 => G o γ 0 0 116 s14 99 [some (.ref (ad o 65)), some (.int p0), some (.int p1), some (.int p2), some (.int p3), none, none, none] [.int x16]) (by
                  intro x16 h
                  refine g_istore_5 (pc := 99) X dX12_told_99 (by decide) rfl ?_
                  refine g_iload_1 (pc := 101) X dX12_told_101 ?_
                  refine g_iload_2 (pc := 102) X dX12_told_102 ?_
                  replace h := h (fun x18 => G o γ 0 0 116 s14 129 [some (.ref (ad o 65)), some (.int p0), some (.int p1), some (.int p2), some (.int p3), some (.int x16), none, none] [.int x18]) (by
                      intro x18 h
                      refine g_istore_6 (pc := 129) X dX12_told_129 (by decide) rfl ?_
                      refine g_iload_1 (pc := 131) X dX12_told_131 ?_
                      refine g_iload_2 (pc := 132) X dX12_told_132 ?_
                      refine g_iadd (pc := 133) X dX12_told_133 ?_
                      refine g_iload_3 (pc := 134) X dX12_told_134 ?_
                      refine g_iadd (pc := 135) X dX12_told_135 ?_
                      refine g_iload_5 (pc := 136) X dX12_told_136 ?_
                      refine g_isub (pc := 138) X dX12_told_138 ?_
                      refine g_iload_6 (pc := 139) X dX12_told_139 ?_
                      refine g_isub (pc := 141) X dX12_told_141 ?_
                      refine g_istore_7 (pc := 142) X dX12_told_142 (by decide) rfl ?_
                      refine g_aload_0 (pc := 144) X dX12_told_144 ?_
                      refine g_callV_V (pc := 145) X Y dX12_told_145 miX12_weighs li_X12_385 (t_X12_weighs hR  h) rfl (by decide) rfl ⟨_, rfl⟩ rfl ⟨Nat.le_of_ble_eq_true rfl, Nat.le_of_ble_eq_true rfl⟩ (Nat.le_of_ble_eq_true rfl) (Nat.le_of_ble_eq_true rfl) rfl (by exact Nat.le_of_ble_eq_true rfl) (fun s20 hp => ?_)
                      obtain ⟨hR, h⟩ := hp
                      refine g_aload_0 (pc := 148) X dX12_told_148 ?_
                      refine g_iload_5 (pc := 149) X dX12_told_149 ?_
                      refine g_iload_7 (pc := 151) X dX12_told_151 ?_
                      refine g_iload_6 (pc := 153) X dX12_told_153 ?_
                      refine g_callV_I (pc := 155) X Y dX12_told_155 miX12_isRing li_X12_444 (t_X12_isRing hR  h) rfl (by decide) rfl ⟨_, rfl⟩ rfl ⟨Nat.le_of_ble_eq_true rfl, Nat.le_of_ble_eq_true rfl⟩ (Nat.le_of_ble_eq_true rfl) (Nat.le_of_ble_eq_true rfl) rfl (by exact Nat.le_of_ble_eq_true rfl) (fun x21 σ9 hp => ?_)
                      obtain ⟨rfl, h⟩ := hp
                      refine g_if_ne (pc := 158) X dX12_told_158 (tgt := 165) (by decide) (fun q22 => ?_) (fun q22 => ?_)
                      · replace h := h.2 q22
                        refine g_aload_0 (pc := 165) X dX12_told_165 ?_
                        refine g_getI (pc := 166) X dX12_told_166 rfl (by decide) fl_X12_465 (Or.inr rfl) ?_
                        replace h := h (fun s23 => s23.2.2 = gRf b → G o γ 0 0 116 s23 180 [some (.ref (ad o 65)), none, none, none, some (.int p3), some (.int x16), some (.int x18), some (.int ((((p0 + p1) + p2) - x16) - x18))] []) (by
                            intro s23 h hR
                            refine g_aload_0 (pc := 180) X dX12_told_180 ?_
                            refine g_iconst (pc := 181) X dX12_told_181 kiconst_1 ?_
                            refine g_putZ_w (pc := 182) X dX12_told_182 fl_X12_465 rfl (by decide) rfl rfl hR h (fun s25 hR h => ?_)
                            refine g_aload_0 (pc := 185) X dX12_told_185 ?_
                            refine g_aload_0 (pc := 186) X dX12_told_186 ?_
                            refine g_getRf (pc := 187) X dX12_told_187 fl_X12_126 rfl (by decide) rfl hR rfl ?_
                            refine g_iload_5 (pc := 190) X dX12_told_190 ?_
                            refine g_iload_7 (pc := 192) X dX12_told_192 ?_
                            refine g_iload_6 (pc := 194) X dX12_told_194 ?_
                            refine g_callV_I (pc := 196) X Y dX12_told_196 miX12_leastRest li_X12_447 (t_X12_leastRest hR (by decide) (by decide) h) rfl (by decide) rfl ⟨_, rfl⟩ rfl ⟨Nat.le_of_ble_eq_true rfl, Nat.le_of_ble_eq_true rfl⟩ (Nat.le_of_ble_eq_true rfl) (Nat.le_of_ble_eq_true rfl) rfl (by exact Nat.le_of_ble_eq_true rfl) (fun x26 σ9 hp => ?_)
                            obtain ⟨rfl, h⟩ := hp
                            refine g_iload_4 (pc := 199) X dX12_told_199 ?_
                            refine g_icmp_ge (pc := 201) X dX12_told_201 (tgt := 208) (by decide) (fun q27 => ?_) (fun q27 => ?_)
                            · replace h := h.1 q27
                              refine g_aload_0 (pc := 208) X dX12_told_208 ?_
                              refine g_getI (pc := 209) X dX12_told_209 rfl (by decide) fl_X12_459 (Or.inl rfl) ?_
                              refine g_bipush (pc := 212) X dX12_told_212 kbipush_40 ?_
                              refine g_icmp_ne (pc := 214) X dX12_told_214 (tgt := 221) (by decide) (fun q28 => ?_) (fun q28 => ?_)
                              · replace h := h.2 q28
                                refine g_aload_0 (pc := 221) X dX12_told_221 ?_
                                refine g_dup (pc := 222) X dX12_told_222 rfl ?_
                                refine g_getI (pc := 223) X dX12_told_223 rfl (by decide) fl_X12_459 (Or.inl rfl) ?_
                                refine g_iconst (pc := 226) X dX12_told_226 kiconst_1 ?_
                                refine g_iadd (pc := 227) X dX12_told_227 ?_
                                refine g_putI_w (pc := 228) X dX12_told_228 fl_X12_459 rfl (by decide) rfl rfl hR h (fun s29 hR h => ?_)
                                refine g_aload_0 (pc := 231) X dX12_told_231 ?_
                                refine g_aload_0 (pc := 232) X dX12_told_232 ?_
                                refine g_getRf (pc := 233) X dX12_told_233 fl_X12_126 rfl (by decide) rfl hR rfl ?_
                                refine g_iload_5 (pc := 236) X dX12_told_236 ?_
                                refine g_iload_7 (pc := 238) X dX12_told_238 ?_
                                refine g_iload_6 (pc := 240) X dX12_told_240 ?_
                                refine g_iload_4 (pc := 242) X dX12_told_242 ?_
                                refine g_callV_V (pc := 244) X Y dX12_told_244 miX12_takesRest li_X12_451 (t_X12_takesRest hR (by decide) (by decide) h) rfl (by decide) rfl ⟨_, rfl⟩ rfl ⟨Nat.le_of_ble_eq_true rfl, Nat.le_of_ble_eq_true rfl⟩ (Nat.le_of_ble_eq_true rfl) (Nat.le_of_ble_eq_true rfl) rfl (by exact Nat.le_of_ble_eq_true rfl) (fun s30 hp => ?_)
                                obtain ⟨hR, h⟩ := hp
                                refine g_aload_0 (pc := 247) X dX12_told_247 ?_
                                refine g_dup (pc := 248) X dX12_told_248 rfl ?_
                                refine g_getL (pc := 249) X dX12_told_249 rfl (by decide) fl_X12_462 rfl ?_
                                refine g_iload_4 (pc := 252) X dX12_told_252 ?_
                                refine g_i2l (pc := 254) X dX12_told_254 ?_
                                refine g_ladd (pc := 255) X dX12_told_255 ?_
                                refine g_putL_w (pc := 256) X dX12_told_256 fl_X12_462 rfl (by decide) rfl rfl hR h (fun s31 hR h => ?_)
                                refine g_aload_0 (pc := 259) X dX12_told_259 ?_
                                refine g_getL (pc := 260) X dX12_told_260 rfl (by decide) fl_X12_462 rfl ?_
                                exact g_lreturn (pc := 263) X Y dX12_told_263 (Nat.le_of_ble_eq_true rfl) (Nat.le_of_ble_eq_true rfl) ⟨_, rfl, hR, h⟩
                              · replace h := h.1 q28
                                refine g_ldc2 (pc := 217) X dX12_told_217 ct_X12_472 ?_
                                exact g_lreturn (pc := 220) X Y dX12_told_220 (Nat.le_of_ble_eq_true rfl) (Nat.le_of_ble_eq_true rfl) ⟨_, rfl, hR, h⟩
                            · replace h := h.2 q27
                              refine g_ldc2 (pc := 204) X dX12_told_204 ct_X12_470 ?_
                              exact g_lreturn (pc := 207) X Y dX12_told_207 (Nat.le_of_ble_eq_true rfl) (Nat.le_of_ble_eq_true rfl) ⟨_, rfl, hR, h⟩)
                        refine g_if_ne (pc := 169) X dX12_told_169 (tgt := 180) (by decide) (fun q32 => ?_) (fun q32 => ?_)
                        · replace h := h.2 q32
                          exact g_drop (by simp [lsub]) (h hR)
                        · replace h := h.1 q32
                          refine g_aload_0 (pc := 172) X dX12_told_172 ?_
                          refine g_aload_0 (pc := 173) X dX12_told_173 ?_
                          refine g_getRf (pc := 174) X dX12_told_174 fl_X12_126 rfl (by decide) rfl hR rfl ?_
                          refine g_callV_V (pc := 177) X Y dX12_told_177 miX12_setRests li_X12_435 (t_X12_setRests hR (by decide) (by decide) h) rfl (by decide) rfl ⟨_, rfl⟩ rfl ⟨Nat.le_of_ble_eq_true rfl, Nat.le_of_ble_eq_true rfl⟩ (Nat.le_of_ble_eq_true rfl) (Nat.le_of_ble_eq_true rfl) rfl (by exact Nat.le_of_ble_eq_true rfl) (fun s33 hp => ?_)
                          obtain ⟨hR, h⟩ := hp
                          exact g_drop (by simp [lsub]) (h hR)
                      · replace h := h.1 q22
                        refine g_ldc2 (pc := 161) X dX12_told_161 ct_X12_468 ?_
                        exact g_lreturn (pc := 164) X Y dX12_told_164 (Nat.le_of_ble_eq_true rfl) (Nat.le_of_ble_eq_true rfl) ⟨_, rfl, hR, h⟩)
                  refine g_icmp_le (pc := 103) X dX12_told_103 (tgt := 119) (by decide) (fun q34 => ?_) (fun q34 => ?_)
                  · replace h := h.1 q34
                    refine g_iload_2 (pc := 119) X dX12_told_119 ?_
                    refine g_iload_3 (pc := 120) X dX12_told_120 ?_
                    refine g_icmp_le (pc := 121) X dX12_told_121 (tgt := 128) (by decide) (fun q35 => ?_) (fun q35 => ?_)
                    · replace h := h.1 q35
                      refine g_iload_3 (pc := 128) X dX12_told_128 ?_
                      exact h
                    · replace h := h.2 q35
                      refine g_iload_2 (pc := 124) X dX12_told_124 ?_
                      refine g_goto (pc := 125) X dX12_told_125 (tgt := 129) (by decide) ?_
                      exact h
                  · replace h := h.2 q34
                    refine g_iload_1 (pc := 106) X dX12_told_106 ?_
                    refine g_iload_3 (pc := 107) X dX12_told_107 ?_
                    refine g_icmp_le (pc := 108) X dX12_told_108 (tgt := 115) (by decide) (fun q36 => ?_) (fun q36 => ?_)
                    · replace h := h.1 q36
                      refine g_iload_3 (pc := 115) X dX12_told_115 ?_
                      refine g_goto (pc := 116) X dX12_told_116 (tgt := 129) (by decide) ?_
                      exact h
                    · replace h := h.2 q36
                      refine g_iload_1 (pc := 111) X dX12_told_111 ?_
                      refine g_goto (pc := 112) X dX12_told_112 (tgt := 129) (by decide) ?_
                      exact h)
              refine g_icmp_ge (pc := 73) X dX12_told_73 (tgt := 89) (by decide) (fun q37 => ?_) (fun q37 => ?_)
              · replace h := h.1 q37
                refine g_iload_2 (pc := 89) X dX12_told_89 ?_
                refine g_iload_3 (pc := 90) X dX12_told_90 ?_
                refine g_icmp_ge (pc := 91) X dX12_told_91 (tgt := 98) (by decide) (fun q38 => ?_) (fun q38 => ?_)
                · replace h := h.1 q38
                  refine g_iload_3 (pc := 98) X dX12_told_98 ?_
                  exact h
                · replace h := h.2 q38
                  refine g_iload_2 (pc := 94) X dX12_told_94 ?_
                  refine g_goto (pc := 95) X dX12_told_95 (tgt := 99) (by decide) ?_
                  exact h
              · replace h := h.2 q37
                refine g_iload_1 (pc := 76) X dX12_told_76 ?_
                refine g_iload_3 (pc := 77) X dX12_told_77 ?_
                refine g_icmp_ge (pc := 78) X dX12_told_78 (tgt := 85) (by decide) (fun q39 => ?_) (fun q39 => ?_)
                · replace h := h.1 q39
                  refine g_iload_3 (pc := 85) X dX12_told_85 ?_
                  refine g_goto (pc := 86) X dX12_told_86 (tgt := 99) (by decide) ?_
                  exact h
                · replace h := h.2 q39
                  refine g_iload_1 (pc := 81) X dX12_told_81 ?_
                  refine g_goto (pc := 82) X dX12_told_82 (tgt := 99) (by decide) ?_
                  exact h
            · replace h := h.1 q15
              refine g_lconst (pc := 69) X dX12_told_69 (v := lN 0) rfl ?_
              exact g_lreturn (pc := 70) X Y dX12_told_70 (Nat.le_of_ble_eq_true rfl) (Nat.le_of_ble_eq_true rfl) ⟨_, rfl, hR, h⟩)
        replace h := h (G o γ 0 0 116 s9 61 [some (.ref (ad o 65)), some (.int p0), some (.int p1), some (.int p2), some (.int p3), none, none, none] [.ref (ad o 65)]) (by
            intro  h
            refine g_iconst (pc := 61) X dX12_told_61 kiconst_0 ?_
            exact h)
        refine g_icmp_eq (pc := 32) X dX12_told_32 (tgt := 61) (by decide) (fun q41 => ?_) (fun q41 => ?_)
        · replace h := h.1 q41
          exact h
        · replace h := h.2 q41
          refine g_iload_1 (pc := 35) X dX12_told_35 ?_
          refine g_iload_3 (pc := 36) X dX12_told_36 ?_
          refine g_icmp_eq (pc := 37) X dX12_told_37 (tgt := 61) (by decide) (fun q42 => ?_) (fun q42 => ?_)
          · replace h := h.1 q42
            exact h
          · replace h := h.2 q42
            refine g_iload_2 (pc := 40) X dX12_told_40 ?_
            refine g_iload_3 (pc := 41) X dX12_told_41 ?_
            refine g_icmp_eq (pc := 42) X dX12_told_42 (tgt := 61) (by decide) (fun q43 => ?_) (fun q43 => ?_)
            · replace h := h.1 q43
              exact h
            · replace h := h.2 q43
              refine g_iload_4 (pc := 45) X dX12_told_45 ?_
              refine g_iconst (pc := 47) X dX12_told_47 kiconst_1 ?_
              refine g_ldcw (pc := 48) X dX12_told_48 ct_X12_434 ?_
              refine g_callS_I (pc := 51) X Y dX12_told_51 miX12_within li_X12_169 (t_X12_within hR  h) rfl ⟨Nat.le_of_ble_eq_true rfl, Nat.le_of_ble_eq_true rfl⟩ (Nat.le_of_ble_eq_true rfl) (Nat.le_of_ble_eq_true rfl) rfl (by exact Nat.le_of_ble_eq_true rfl) (fun x44 σ9 hp => ?_)
              obtain ⟨rfl, h⟩ := hp
              refine g_if_eq (pc := 54) X dX12_told_54 (tgt := 61) (by decide) (fun q45 => ?_) (fun q45 => ?_)
              · replace h := h.1 q45
                exact h
              · replace h := h.2 q45
                refine g_iconst (pc := 57) X dX12_told_57 kiconst_1 ?_
                refine g_goto (pc := 58) X dX12_told_58 (tgt := 62) (by decide) ?_
                exact h
def L_X12_mayCome_32 (Q : Int32 → Prop) (c2 : Int32) (c3 : Int32) (σ : gSt) (K : Prop) : Nat → Int32 → Prop
  | 0, _ => False
  | n32 + 1, v4 => ((c2 ≤ v4 → K) ∧ (¬ c2 ≤ v4 → (rI σ 106 10 v4 (fun x6 => ∀ J8 : Int32 → Prop, (∀ x7, (((x7 = 0 → (rI σ 105 30 v4 (fun x10 => rI σ 105 30 c2 (fun x11 => rI σ 93 900 (((nI 30) * x10) + x11) (fun x12 => ((x12 = 0 → (L_X12_mayCome_32 Q c2 c3 σ K n32 (v4 + nI 1))) ∧ (¬ x12 = 0 → (Q (nI 0))))))))) ∧ (¬ x7 = 0 → (rI σ 105 30 v4 (fun x14 => rI σ 105 30 c2 (fun x15 => rI σ 92 900 (((nI 30) * x14) + x15) (fun x16 => ((x16 = 0 → (L_X12_mayCome_32 Q c2 c3 σ K n32 (v4 + nI 1))) ∧ (¬ x16 = 0 → (Q (nI 0))))))))))) → J8 x7) → ((x6 = c3 → (J8 (nI 1))) ∧ (¬ x6 = c3 → (J8 (nI 0))))))))
def W_X12_mayCome (p0 : Int32) (p1 : Int32) (Q : Int32 → Prop) (σ : gSt) : Prop := ∀ J1 : Prop, ((∃ m32, L_X12_mayCome_32 Q p0 p1 σ (Q (nI 1)) m32 (nI 0)) → J1) → (((σ.1 65 69) ≤ p1 → J1) ∧ (¬ (σ.1 65 69) ≤ p1 → ((((σ.1 65 41) ≤ 0 → J1) ∧ (¬ (σ.1 65 41) ≤ 0 → (rI σ 107 10 p1 (fun x22 => ((x22 < (σ.1 65 41) → J1) ∧ (¬ x22 < (σ.1 65 41) → (Q (nI 0)))))))))))
set_option maxHeartbeats 4000000 in
theorem t_X12_mayCome {o : gOm} {l : Launch} {b : Bool}   {σ : gSt} (hR : σ.2.2 = gRf b) {p0 : Int32} {p1 : Int32} {Q : Int32 → Prop} (h : W_X12_mayCome p0 p1 Q σ) : Sp o l mX12_mayCome 1 0 0 [.ref (ad o 65), .int p0, .int p1] 116 116 σ (pI (fun x s => σ = s ∧ Q x)) := by
  unfold W_X12_mayCome at h
  refine Sp.of (ls0 := [some (.ref (ad o 65)), some (.int p0), some (.int p1), none, none]) miX12_mayCome rfl (Nat.le_of_ble_eq_true rfl) rfl (fun γ hγ hnm X Y => ?_)
  subst hγ
  have X : gX o γ cX12_mayCome 5 RX12 := X
  refine g_iload_2 (pc := 0) X dX12_mayCome_0 ?_
  refine g_aload_0 (pc := 1) X dX12_mayCome_1 ?_
  refine g_getI (pc := 2) X dX12_mayCome_2 rfl (by decide) fl_X12_477 (Or.inl rfl) ?_
  replace h := h (G o γ 0 0 116 σ 30 [some (.ref (ad o 65)), some (.int p0), some (.int p1), none, none] []) (by
      intro  h
      refine g_iconst (pc := 30) X dX12_mayCome_30 kiconst_0 ?_
      refine g_istore_3 (pc := 31) X dX12_mayCome_31 (by decide) rfl ?_
      obtain ⟨n19, h⟩ := h
      have hL : ∀ (c2 : Int32) (c3 : Int32) (K : Prop) (_ : K → G o γ 0 0 116 σ 118 [some (.ref (ad o 65)), some (.int c2), some (.int c3), none, none] []) (n : Nat) (v4 : Int32), L_X12_mayCome_32 Q c2 c3 σ K n v4 → G o γ 0 0 116 σ 32 [some (.ref (ad o 65)), some (.int c2), some (.int c3), some (.int v4), none] [] := by
        intro c2 c3 K hK n
        induction n with
        | zero => intro v4 h; exact False.elim h
        | succ n ih =>
          intro v4 h
          rw [L_X12_mayCome_32] at h
          refine g_iload_3 (pc := 32) X dX12_mayCome_32 ?_
          refine g_iload_1 (pc := 33) X dX12_mayCome_33 ?_
          refine g_icmp_ge (pc := 34) X dX12_mayCome_34 (tgt := 118) (by decide) (fun q5 => ?_) (fun q5 => ?_)
          · replace h := h.1 q5
            exact g_drop (by simp [lsub]) (hK  h)
          · replace h := h.2 q5
            refine g_aload_0 (pc := 37) X dX12_mayCome_37 ?_
            refine g_getRf (pc := 38) X dX12_mayCome_38 fl_X12_141 rfl (by decide) rfl hR rfl ?_
            refine g_iload_3 (pc := 41) X dX12_mayCome_41 ?_
            refine g_iaload_w (pc := 42) X dX12_mayCome_42 rfl (by decide) h (fun x6 h => ?_)
            refine g_iload_2 (pc := 43) X dX12_mayCome_43 ?_
            replace h := h (fun x7 => G o γ 0 0 116 σ 52 [some (.ref (ad o 65)), some (.int c2), some (.int c3), some (.int v4), none] [.int x7]) (by
                intro x7 h
                refine g_istore_4 (pc := 52) X dX12_mayCome_52 (by decide) rfl ?_
                refine g_iload_4 (pc := 54) X dX12_mayCome_54 ?_
                refine g_if_eq (pc := 56) X dX12_mayCome_56 (tgt := 86) (by decide) (fun q9 => ?_) (fun q9 => ?_)
                · replace h := h.1 q9
                  refine g_aload_0 (pc := 86) X dX12_mayCome_86 ?_
                  refine g_getRf (pc := 87) X dX12_mayCome_87 fl_X12_99 rfl (by decide) rfl hR rfl ?_
                  refine g_bipush (pc := 90) X dX12_mayCome_90 kbipush_30 ?_
                  refine g_aload_0 (pc := 92) X dX12_mayCome_92 ?_
                  refine g_getRf (pc := 93) X dX12_mayCome_93 fl_X12_138 rfl (by decide) rfl hR rfl ?_
                  refine g_iload_3 (pc := 96) X dX12_mayCome_96 ?_
                  refine g_iaload_w (pc := 97) X dX12_mayCome_97 rfl (by decide) h (fun x10 h => ?_)
                  refine g_imul (pc := 98) X dX12_mayCome_98 ?_
                  refine g_aload_0 (pc := 99) X dX12_mayCome_99 ?_
                  refine g_getRf (pc := 100) X dX12_mayCome_100 fl_X12_138 rfl (by decide) rfl hR rfl ?_
                  refine g_iload_1 (pc := 103) X dX12_mayCome_103 ?_
                  refine g_iaload_w (pc := 104) X dX12_mayCome_104 rfl (by decide) h (fun x11 h => ?_)
                  refine g_iadd (pc := 105) X dX12_mayCome_105 ?_
                  refine g_baload_w (pc := 106) X dX12_mayCome_106 rfl (by decide) h (fun x12 h => ?_)
                  refine g_if_eq (pc := 107) X dX12_mayCome_107 (tgt := 112) (by decide) (fun q13 => ?_) (fun q13 => ?_)
                  · replace h := h.1 q13
                    refine g_iinc_3 (pc := 112) X dX12_mayCome_112 (v := v4 + nI 1) rfl (by decide) rfl ?_
                    refine g_goto (pc := 115) X dX12_mayCome_115 (tgt := 32) (by decide) ?_
                    exact g_drop (by simp [lsub]) (ih (v4 + nI 1) h)
                  · replace h := h.2 q13
                    refine g_iconst (pc := 110) X dX12_mayCome_110 kiconst_0 ?_
                    exact g_zreturn (pc := 111) X Y dX12_mayCome_111 (by first | exact Or.inl rfl | exact Or.inr rfl) (Nat.le_of_ble_eq_true rfl) (Nat.le_of_ble_eq_true rfl) ⟨_, rfl, rfl, h⟩
                · replace h := h.2 q9
                  refine g_aload_0 (pc := 59) X dX12_mayCome_59 ?_
                  refine g_getRf (pc := 60) X dX12_mayCome_60 fl_X12_96 rfl (by decide) rfl hR rfl ?_
                  refine g_bipush (pc := 63) X dX12_mayCome_63 kbipush_30 ?_
                  refine g_aload_0 (pc := 65) X dX12_mayCome_65 ?_
                  refine g_getRf (pc := 66) X dX12_mayCome_66 fl_X12_138 rfl (by decide) rfl hR rfl ?_
                  refine g_iload_3 (pc := 69) X dX12_mayCome_69 ?_
                  refine g_iaload_w (pc := 70) X dX12_mayCome_70 rfl (by decide) h (fun x14 h => ?_)
                  refine g_imul (pc := 71) X dX12_mayCome_71 ?_
                  refine g_aload_0 (pc := 72) X dX12_mayCome_72 ?_
                  refine g_getRf (pc := 73) X dX12_mayCome_73 fl_X12_138 rfl (by decide) rfl hR rfl ?_
                  refine g_iload_1 (pc := 76) X dX12_mayCome_76 ?_
                  refine g_iaload_w (pc := 77) X dX12_mayCome_77 rfl (by decide) h (fun x15 h => ?_)
                  refine g_iadd (pc := 78) X dX12_mayCome_78 ?_
                  refine g_baload_w (pc := 79) X dX12_mayCome_79 rfl (by decide) h (fun x16 h => ?_)
                  refine g_if_eq (pc := 80) X dX12_mayCome_80 (tgt := 112) (by decide) (fun q17 => ?_) (fun q17 => ?_)
                  · replace h := h.1 q17
                    refine g_iinc_3 (pc := 112) X dX12_mayCome_112 (v := v4 + nI 1) rfl (by decide) rfl ?_
                    refine g_goto (pc := 115) X dX12_mayCome_115 (tgt := 32) (by decide) ?_
                    exact g_drop (by simp [lsub]) (ih (v4 + nI 1) h)
                  · replace h := h.2 q17
                    refine g_goto (pc := 83) X dX12_mayCome_83 (tgt := 110) (by decide) ?_
                    refine g_iconst (pc := 110) X dX12_mayCome_110 kiconst_0 ?_
                    exact g_zreturn (pc := 111) X Y dX12_mayCome_111 (by first | exact Or.inl rfl | exact Or.inr rfl) (Nat.le_of_ble_eq_true rfl) (Nat.le_of_ble_eq_true rfl) ⟨_, rfl, rfl, h⟩)
            refine g_icmp_ne (pc := 44) X dX12_mayCome_44 (tgt := 51) (by decide) (fun q18 => ?_) (fun q18 => ?_)
            · replace h := h.2 q18
              refine g_iconst (pc := 51) X dX12_mayCome_51 kiconst_0 ?_
              exact h
            · replace h := h.1 q18
              refine g_iconst (pc := 47) X dX12_mayCome_47 kiconst_1 ?_
              refine g_goto (pc := 48) X dX12_mayCome_48 (tgt := 52) (by decide) ?_
              exact h
      refine hL p0 p1 _ (fun h => ?_) n19 (nI 0) h
      · refine g_iconst (pc := 118) X dX12_mayCome_118 kiconst_1 ?_
        exact g_zreturn (pc := 119) X Y dX12_mayCome_119 (by first | exact Or.inl rfl | exact Or.inr rfl) (Nat.le_of_ble_eq_true rfl) (Nat.le_of_ble_eq_true rfl) ⟨_, rfl, rfl, h⟩)
  refine g_icmp_ge (pc := 5) X dX12_mayCome_5 (tgt := 30) (by decide) (fun q20 => ?_) (fun q20 => ?_)
  · replace h := h.1 q20
    exact h
  · replace h := h.2 q20
    refine g_aload_0 (pc := 8) X dX12_mayCome_8 ?_
    refine g_getI (pc := 9) X dX12_mayCome_9 rfl (by decide) fl_X12_365 (Or.inl rfl) ?_
    refine g_if_le (pc := 12) X dX12_mayCome_12 (tgt := 30) (by decide) (fun q21 => ?_) (fun q21 => ?_)
    · replace h := h.1 q21
      exact h
    · replace h := h.2 q21
      refine g_aload_0 (pc := 15) X dX12_mayCome_15 ?_
      refine g_getRf (pc := 16) X dX12_mayCome_16 fl_X12_144 rfl (by decide) rfl hR rfl ?_
      refine g_iload_2 (pc := 19) X dX12_mayCome_19 ?_
      refine g_iaload_w (pc := 20) X dX12_mayCome_20 rfl (by decide) h (fun x22 h => ?_)
      refine g_aload_0 (pc := 21) X dX12_mayCome_21 ?_
      refine g_getI (pc := 22) X dX12_mayCome_22 rfl (by decide) fl_X12_365 (Or.inl rfl) ?_
      refine g_icmp_lt (pc := 25) X dX12_mayCome_25 (tgt := 30) (by decide) (fun q23 => ?_) (fun q23 => ?_)
      · replace h := h.1 q23
        exact h
      · replace h := h.2 q23
        refine g_iconst (pc := 28) X dX12_mayCome_28 kiconst_0 ?_
        exact g_zreturn (pc := 29) X Y dX12_mayCome_29 (by first | exact Or.inl rfl | exact Or.inr rfl) (Nat.le_of_ble_eq_true rfl) (Nat.le_of_ble_eq_true rfl) ⟨_, rfl, rfl, h⟩
def L_X12_adds_5 (Q : Int64 → Prop) (c1 : Int32) (c2 : Int32) (σ : gSt) (K : Int64 → Prop) : Nat → Int64 → Int32 → Prop
  | 0, _, _ => False
  | n5 + 1, v3, v4 => ((c1 ≤ v4 → (K v3)) ∧ (¬ c1 ≤ v4 → (rI σ 105 30 v4 (fun x7 => rI σ 105 30 c1 (fun x8 => rI σ 90 900 (((nI 30) * x7) + x8) (fun x9 => rI σ 106 10 v4 (fun x10 => ∀ J12 : Int64 → Prop, (∀ x11, (L_X12_adds_5 Q c1 c2 σ K n5 (v3 + x11) (v4 + nI 1)) → J12 x11) → ((x10 = c2 → (((0 ≤ x9 → (J12 (lN 0))) ∧ (¬ 0 ≤ x9 → (J12 (i2l (-x9))))))) ∧ (¬ x10 = c2 → (((x9 ≤ 0 → (J12 (lN 0))) ∧ (¬ x9 ≤ 0 → (J12 (i2l x9))))))))))))))
def W_X12_adds (p0 : Int32) (p1 : Int32) (Q : Int64 → Prop) (σ : gSt) : Prop := ∃ m5, L_X12_adds_5 Q p0 p1 σ (fun y17 => Q y17) m5 (lN 0) (nI 0)
set_option maxHeartbeats 4000000 in
theorem t_X12_adds {o : gOm} {l : Launch} {b : Bool}   {σ : gSt} (hR : σ.2.2 = gRf b) {p0 : Int32} {p1 : Int32} {Q : Int64 → Prop} (h : W_X12_adds p0 p1 Q σ) : Sp o l mX12_adds 1 0 0 [.ref (ad o 65), .int p0, .int p1] 116 116 σ (pL (fun x s => σ = s ∧ Q x)) := by
  unfold W_X12_adds at h
  refine Sp.of (ls0 := [some (.ref (ad o 65)), some (.int p0), some (.int p1), none, none, none, none]) miX12_adds rfl (Nat.le_of_ble_eq_true rfl) rfl (fun γ hγ hnm X Y => ?_)
  subst hγ
  have X : gX o γ cX12_adds 7 RX12 := X
  refine g_lconst (pc := 0) X dX12_adds_0 (v := lN 0) rfl ?_
  refine g_lstore_3 (pc := 1) X dX12_adds_1 (by decide) rfl ?_
  refine g_iconst (pc := 2) X dX12_adds_2 kiconst_0 ?_
  refine g_istore_5 (pc := 3) X dX12_adds_3 (by decide) rfl ?_
  obtain ⟨n16, h⟩ := h
  have hL : ∀ (c1 : Int32) (c2 : Int32) (K : Int64 → Prop) (_ : ∀ (y5 : Int64), K y5 → G o γ 0 0 116 σ 83 [some (.ref (ad o 65)), some (.int c1), some (.int c2), some (.long y5), none, none, none] []) (n : Nat) (v3 : Int64) (v4 : Int32), L_X12_adds_5 Q c1 c2 σ K n v3 v4 → G o γ 0 0 116 σ 5 [some (.ref (ad o 65)), some (.int c1), some (.int c2), some (.long v3), none, some (.int v4), none] [] := by
    intro c1 c2 K hK n
    induction n with
    | zero => intro v3 v4 h; exact False.elim h
    | succ n ih =>
      intro v3 v4 h
      rw [L_X12_adds_5] at h
      refine g_iload_5 (pc := 5) X dX12_adds_5 ?_
      refine g_iload_1 (pc := 7) X dX12_adds_7 ?_
      refine g_icmp_ge (pc := 8) X dX12_adds_8 (tgt := 83) (by decide) (fun q6 => ?_) (fun q6 => ?_)
      · replace h := h.1 q6
        exact g_drop (by simp [lsub]) (hK v3 h)
      · replace h := h.2 q6
        refine g_aload_0 (pc := 11) X dX12_adds_11 ?_
        refine g_getRf (pc := 12) X dX12_adds_12 fl_X12_89 rfl (by decide) rfl hR rfl ?_
        refine g_bipush (pc := 15) X dX12_adds_15 kbipush_30 ?_
        refine g_aload_0 (pc := 17) X dX12_adds_17 ?_
        refine g_getRf (pc := 18) X dX12_adds_18 fl_X12_138 rfl (by decide) rfl hR rfl ?_
        refine g_iload_5 (pc := 21) X dX12_adds_21 ?_
        refine g_iaload_w (pc := 23) X dX12_adds_23 rfl (by decide) h (fun x7 h => ?_)
        refine g_imul (pc := 24) X dX12_adds_24 ?_
        refine g_aload_0 (pc := 25) X dX12_adds_25 ?_
        refine g_getRf (pc := 26) X dX12_adds_26 fl_X12_138 rfl (by decide) rfl hR rfl ?_
        refine g_iload_1 (pc := 29) X dX12_adds_29 ?_
        refine g_iaload_w (pc := 30) X dX12_adds_30 rfl (by decide) h (fun x8 h => ?_)
        refine g_iadd (pc := 31) X dX12_adds_31 ?_
        refine g_iaload_w (pc := 32) X dX12_adds_32 rfl (by decide) h (fun x9 h => ?_)
        refine g_istore_6 (pc := 33) X dX12_adds_33 (by decide) rfl ?_
        refine g_lload_3 (pc := 35) X dX12_adds_35 ?_
        refine g_aload_0 (pc := 36) X dX12_adds_36 ?_
        refine g_getRf (pc := 37) X dX12_adds_37 fl_X12_141 rfl (by decide) rfl hR rfl ?_
        refine g_iload_5 (pc := 40) X dX12_adds_40 ?_
        refine g_iaload_w (pc := 42) X dX12_adds_42 rfl (by decide) h (fun x10 h => ?_)
        refine g_iload_2 (pc := 43) X dX12_adds_43 ?_
        replace h := h (fun x11 => G o γ 0 0 116 σ 75 [some (.ref (ad o 65)), some (.int c1), some (.int c2), none, none, some (.int v4), none] [.long x11, .long v3]) (by
            intro x11 h
            refine g_ladd (pc := 75) X dX12_adds_75 ?_
            refine g_lstore_3 (pc := 76) X dX12_adds_76 (by decide) rfl ?_
            refine g_iinc_5 (pc := 77) X dX12_adds_77 (v := v4 + nI 1) rfl (by decide) rfl ?_
            refine g_goto (pc := 80) X dX12_adds_80 (tgt := 5) (by decide) ?_
            exact ih (v3 + x11) (v4 + nI 1) h)
        refine g_icmp_ne (pc := 44) X dX12_adds_44 (tgt := 63) (by decide) (fun q13 => ?_) (fun q13 => ?_)
        · replace h := h.2 q13
          refine g_iload_6 (pc := 63) X dX12_adds_63 ?_
          refine g_if_le (pc := 65) X dX12_adds_65 (tgt := 74) (by decide) (fun q14 => ?_) (fun q14 => ?_)
          · replace h := h.1 q14
            refine g_lconst (pc := 74) X dX12_adds_74 (v := lN 0) rfl ?_
            exact g_drop (by simp [lsub]) (h)
          · replace h := h.2 q14
            refine g_iload_6 (pc := 68) X dX12_adds_68 ?_
            refine g_i2l (pc := 70) X dX12_adds_70 ?_
            refine g_goto (pc := 71) X dX12_adds_71 (tgt := 75) (by decide) ?_
            exact g_drop (by simp [lsub]) (h)
        · replace h := h.1 q13
          refine g_iload_6 (pc := 47) X dX12_adds_47 ?_
          refine g_if_ge (pc := 49) X dX12_adds_49 (tgt := 59) (by decide) (fun q15 => ?_) (fun q15 => ?_)
          · replace h := h.1 q15
            refine g_lconst (pc := 59) X dX12_adds_59 (v := lN 0) rfl ?_
            refine g_goto (pc := 60) X dX12_adds_60 (tgt := 75) (by decide) ?_
            exact g_drop (by simp [lsub]) (h)
          · replace h := h.2 q15
            refine g_iload_6 (pc := 52) X dX12_adds_52 ?_
            refine g_ineg (pc := 54) X dX12_adds_54 ?_
            refine g_i2l (pc := 55) X dX12_adds_55 ?_
            refine g_goto (pc := 56) X dX12_adds_56 (tgt := 75) (by decide) ?_
            exact g_drop (by simp [lsub]) (h)
  refine hL p0 p1 _ (fun y17 h => ?_) n16 (lN 0) (nI 0) h
  · refine g_lload_3 (pc := 83) X dX12_adds_83 ?_
    exact g_lreturn (pc := 84) X Y dX12_adds_84 (Nat.le_of_ble_eq_true rfl) (Nat.le_of_ble_eq_true rfl) ⟨_, rfl, rfl, h⟩
def W_X12_isTooDear (p0 : Int64) (Q : Int32 → Prop) (σ : gSt) : Prop := (((σ.1 65 68) = nI 0 → ((((σ.2.1 65 75) < (lN 0) → (Q (nI 0))) ∧ (¬ (σ.2.1 65 75) < (lN 0) → ((((σ.2.1 65 75) < p0 → (Q (nI 1))) ∧ (¬ (σ.2.1 65 75) < p0 → (Q (nI 0))))))))) ∧ (¬ (σ.1 65 68) = nI 0 → (((σ.1 65 68) = nI 1 → ((((σ.2.1 65 77) < (lN 0) → (Q (nI 0))) ∧ (¬ (σ.2.1 65 77) < (lN 0) → ((((σ.2.1 65 78) < (lN 0) → (Q (nI 0))) ∧ (¬ (σ.2.1 65 78) < (lN 0) → (((p0 < (σ.2.1 65 77) → (Q (nI 0))) ∧ (¬ p0 < (σ.2.1 65 77) → (((p0 < (σ.2.1 65 78) → (Q (nI 0))) ∧ (¬ p0 < (σ.2.1 65 78) → (Q (nI 1))))))))))))))) ∧ (¬ (σ.1 65 68) = nI 1 → (((σ.2.1 65 76) < p0 → (Q (nI 1))) ∧ (¬ (σ.2.1 65 76) < p0 → (Q (nI 0))))))))
set_option maxHeartbeats 4000000 in
theorem t_X12_isTooDear {o : gOm} {l : Launch} {b : Bool}   {σ : gSt} (hR : σ.2.2 = gRf b) {p0 : Int64} {Q : Int32 → Prop} (h : W_X12_isTooDear p0 Q σ) : Sp o l mX12_isTooDear 1 0 0 [.ref (ad o 65), .long p0] 116 116 σ (pI (fun x s => σ = s ∧ Q x)) := by
  unfold W_X12_isTooDear at h
  refine Sp.of (ls0 := [some (.ref (ad o 65)), some (.long p0), none]) miX12_isTooDear rfl (Nat.le_of_ble_eq_true rfl) rfl (fun γ hγ hnm X Y => ?_)
  subst hγ
  have X : gX o γ cX12_isTooDear 3 RX12 := X
  refine g_aload_0 (pc := 0) X dX12_isTooDear_0 ?_
  refine g_getI (pc := 1) X dX12_isTooDear_1 rfl (by decide) fl_X12_480 (Or.inl rfl) ?_
  by_cases q1 : (σ.1 65 68) = nI 0
  · replace h := h.1 q1
    refine g_lookup (pc := 4) X dX12_isTooDear_4 (tgt := 32) (by decide) (by first | (rw [q1]; done) | (rw [q1]; rfl)) (by decide) ?_
    refine g_aload_0 (pc := 32) X dX12_isTooDear_32 ?_
    refine g_getL (pc := 33) X dX12_isTooDear_33 rfl (by decide) fl_X12_483 rfl ?_
    refine g_lconst (pc := 36) X dX12_isTooDear_36 (v := lN 0) rfl ?_
    refine g_lcmp_lt (pc := 37) X dX12_isTooDear_37 dX12_isTooDear_38 (tgt := 54) (by decide) (fun q2 => ?_) (fun q2 => ?_)
    · replace h := h.1 q2
      refine g_iconst (pc := 54) X dX12_isTooDear_54 kiconst_0 ?_
      exact g_zreturn (pc := 55) X Y dX12_isTooDear_55 (by first | exact Or.inl rfl | exact Or.inr rfl) (Nat.le_of_ble_eq_true rfl) (Nat.le_of_ble_eq_true rfl) ⟨_, rfl, rfl, h⟩
    · replace h := h.2 q2
      refine g_lload_1 (pc := 41) X dX12_isTooDear_41 ?_
      refine g_aload_0 (pc := 42) X dX12_isTooDear_42 ?_
      refine g_getL (pc := 43) X dX12_isTooDear_43 rfl (by decide) fl_X12_483 rfl ?_
      refine g_lcmp_le (pc := 46) X dX12_isTooDear_46 dX12_isTooDear_47 (tgt := 54) (by decide) (fun q3 => ?_) (fun q3 => ?_)
      · replace h := h.2 q3
        refine g_iconst (pc := 54) X dX12_isTooDear_54 kiconst_0 ?_
        exact g_zreturn (pc := 55) X Y dX12_isTooDear_55 (by first | exact Or.inl rfl | exact Or.inr rfl) (Nat.le_of_ble_eq_true rfl) (Nat.le_of_ble_eq_true rfl) ⟨_, rfl, rfl, h⟩
      · replace h := h.1 q3
        refine g_iconst (pc := 50) X dX12_isTooDear_50 kiconst_1 ?_
        refine g_goto (pc := 51) X dX12_isTooDear_51 (tgt := 55) (by decide) ?_
        exact g_zreturn (pc := 55) X Y dX12_isTooDear_55 (by first | exact Or.inl rfl | exact Or.inr rfl) (Nat.le_of_ble_eq_true rfl) (Nat.le_of_ble_eq_true rfl) ⟨_, rfl, rfl, h⟩
  replace h := h.2 q1
  by_cases q4 : (σ.1 65 68) = nI 1
  · replace h := h.1 q4
    refine g_lookup (pc := 4) X dX12_isTooDear_4 (tgt := 56) (by decide) (by first | (rw [q4]; done) | (rw [q4]; rfl)) (by decide) ?_
    refine g_aload_0 (pc := 56) X dX12_isTooDear_56 ?_
    refine g_getL (pc := 57) X dX12_isTooDear_57 rfl (by decide) fl_X12_486 rfl ?_
    refine g_lconst (pc := 60) X dX12_isTooDear_60 (v := lN 0) rfl ?_
    refine g_lcmp_lt (pc := 61) X dX12_isTooDear_61 dX12_isTooDear_62 (tgt := 96) (by decide) (fun q5 => ?_) (fun q5 => ?_)
    · replace h := h.1 q5
      refine g_iconst (pc := 96) X dX12_isTooDear_96 kiconst_0 ?_
      exact g_zreturn (pc := 97) X Y dX12_isTooDear_97 (by first | exact Or.inl rfl | exact Or.inr rfl) (Nat.le_of_ble_eq_true rfl) (Nat.le_of_ble_eq_true rfl) ⟨_, rfl, rfl, h⟩
    · replace h := h.2 q5
      refine g_aload_0 (pc := 65) X dX12_isTooDear_65 ?_
      refine g_getL (pc := 66) X dX12_isTooDear_66 rfl (by decide) fl_X12_489 rfl ?_
      refine g_lconst (pc := 69) X dX12_isTooDear_69 (v := lN 0) rfl ?_
      refine g_lcmp_lt (pc := 70) X dX12_isTooDear_70 dX12_isTooDear_71 (tgt := 96) (by decide) (fun q6 => ?_) (fun q6 => ?_)
      · replace h := h.1 q6
        refine g_iconst (pc := 96) X dX12_isTooDear_96 kiconst_0 ?_
        exact g_zreturn (pc := 97) X Y dX12_isTooDear_97 (by first | exact Or.inl rfl | exact Or.inr rfl) (Nat.le_of_ble_eq_true rfl) (Nat.le_of_ble_eq_true rfl) ⟨_, rfl, rfl, h⟩
      · replace h := h.2 q6
        refine g_lload_1 (pc := 74) X dX12_isTooDear_74 ?_
        refine g_aload_0 (pc := 75) X dX12_isTooDear_75 ?_
        refine g_getL (pc := 76) X dX12_isTooDear_76 rfl (by decide) fl_X12_486 rfl ?_
        refine g_lcmp_lt (pc := 79) X dX12_isTooDear_79 dX12_isTooDear_80 (tgt := 96) (by decide) (fun q7 => ?_) (fun q7 => ?_)
        · replace h := h.1 q7
          refine g_iconst (pc := 96) X dX12_isTooDear_96 kiconst_0 ?_
          exact g_zreturn (pc := 97) X Y dX12_isTooDear_97 (by first | exact Or.inl rfl | exact Or.inr rfl) (Nat.le_of_ble_eq_true rfl) (Nat.le_of_ble_eq_true rfl) ⟨_, rfl, rfl, h⟩
        · replace h := h.2 q7
          refine g_lload_1 (pc := 83) X dX12_isTooDear_83 ?_
          refine g_aload_0 (pc := 84) X dX12_isTooDear_84 ?_
          refine g_getL (pc := 85) X dX12_isTooDear_85 rfl (by decide) fl_X12_489 rfl ?_
          refine g_lcmp_lt (pc := 88) X dX12_isTooDear_88 dX12_isTooDear_89 (tgt := 96) (by decide) (fun q8 => ?_) (fun q8 => ?_)
          · replace h := h.1 q8
            refine g_iconst (pc := 96) X dX12_isTooDear_96 kiconst_0 ?_
            exact g_zreturn (pc := 97) X Y dX12_isTooDear_97 (by first | exact Or.inl rfl | exact Or.inr rfl) (Nat.le_of_ble_eq_true rfl) (Nat.le_of_ble_eq_true rfl) ⟨_, rfl, rfl, h⟩
          · replace h := h.2 q8
            refine g_iconst (pc := 92) X dX12_isTooDear_92 kiconst_1 ?_
            refine g_goto (pc := 93) X dX12_isTooDear_93 (tgt := 97) (by decide) ?_
            exact g_zreturn (pc := 97) X Y dX12_isTooDear_97 (by first | exact Or.inl rfl | exact Or.inr rfl) (Nat.le_of_ble_eq_true rfl) (Nat.le_of_ble_eq_true rfl) ⟨_, rfl, rfl, h⟩
  replace h := h.2 q4
  refine g_lookup (pc := 4) X dX12_isTooDear_4 (tgt := 98) (by decide) (lsw_out2 q1 q4) (by decide) ?_
  refine g_lload_1 (pc := 98) X dX12_isTooDear_98 ?_
  refine g_aload_0 (pc := 99) X dX12_isTooDear_99 ?_
  refine g_getL (pc := 100) X dX12_isTooDear_100 rfl (by decide) fl_X12_492 rfl ?_
  refine g_lcmp_le (pc := 103) X dX12_isTooDear_103 dX12_isTooDear_104 (tgt := 111) (by decide) (fun q9 => ?_) (fun q9 => ?_)
  · replace h := h.2 q9
    refine g_iconst (pc := 111) X dX12_isTooDear_111 kiconst_0 ?_
    exact g_zreturn (pc := 112) X Y dX12_isTooDear_112 (by first | exact Or.inl rfl | exact Or.inr rfl) (Nat.le_of_ble_eq_true rfl) (Nat.le_of_ble_eq_true rfl) ⟨_, rfl, rfl, h⟩
  · replace h := h.1 q9
    refine g_iconst (pc := 107) X dX12_isTooDear_107 kiconst_1 ?_
    refine g_goto (pc := 108) X dX12_isTooDear_108 (tgt := 112) (by decide) ?_
    exact g_zreturn (pc := 112) X Y dX12_isTooDear_112 (by first | exact Or.inl rfl | exact Or.inr rfl) (Nat.le_of_ble_eq_true rfl) (Nat.le_of_ble_eq_true rfl) ⟨_, rfl, rfl, h⟩
def W_X12_bitOf (p0 : Int32) (p1 : Int32) (Q : Int32 → Prop) (σ : gSt) : Prop := ¬ (nI 2) = 0 ∧ Q (((p1 * (p1 - (nI 1))) / (nI 2)) + p0)
set_option maxHeartbeats 4000000 in
theorem t_X12_bitOf {o : gOm} {l : Launch} {b : Bool}   {σ : gSt} (hR : σ.2.2 = gRf b) {p0 : Int32} {p1 : Int32} {Q : Int32 → Prop} (h : W_X12_bitOf p0 p1 Q σ) : Sp o l mX12_bitOf 1 0 0 [.int p0, .int p1] 116 116 σ (pI (fun x s => σ = s ∧ Q x)) := by
  unfold W_X12_bitOf at h
  refine Sp.of (ls0 := [some (.int p0), some (.int p1)]) miX12_bitOf rfl (Nat.le_of_ble_eq_true rfl) rfl (fun γ hγ hnm X Y => ?_)
  subst hγ
  have X : gX o γ cX12_bitOf 2 RX12 := X
  refine g_iload_1 (pc := 0) X dX12_bitOf_0 ?_
  refine g_iload_1 (pc := 1) X dX12_bitOf_1 ?_
  refine g_iconst (pc := 2) X dX12_bitOf_2 kiconst_1 ?_
  refine g_isub (pc := 3) X dX12_bitOf_3 ?_
  refine g_imul (pc := 4) X dX12_bitOf_4 ?_
  refine g_iconst (pc := 5) X dX12_bitOf_5 kiconst_2 ?_
  obtain ⟨q, h⟩ := h
  refine g_idiv (pc := 6) X dX12_bitOf_6 q ?_
  refine g_iload_0 (pc := 7) X dX12_bitOf_7 ?_
  refine g_iadd (pc := 8) X dX12_bitOf_8 ?_
  exact g_ireturn (pc := 9) X Y dX12_bitOf_9 (Nat.le_of_ble_eq_true rfl) (Nat.le_of_ble_eq_true rfl) ⟨_, rfl, rfl, h⟩
def L_X12_maskNow_17 (Q : Int64 → Prop) (c5 : Int32) (σ : gSt) (K : Int64 → Prop) : Nat → Int64 → Int32 → Prop
  | 0, _, _ => False
  | n17 + 1, v6, v7 => (((σ.1 65 64) ≤ v7 → (K v6)) ∧ (¬ (σ.1 65 64) ≤ v7 → (rI σ 106 10 c5 (fun x10 => rI σ 106 10 v7 (fun x11 => ((x10 = x11 → (W_X12_bitOf c5 v7 (fun x13 => L_X12_maskNow_17 Q c5 σ K n17 (v6 ||| (shlL (lN 1) x13)) (v7 + nI 1)) σ)) ∧ (¬ x10 = x11 → (L_X12_maskNow_17 Q c5 σ K n17 v6 (v7 + nI 1)))))))))
def L_X12_maskNow_4 (Q : Int64 → Prop)  (σ : gSt) (K : Int64 → Prop) : Nat → Int64 → Int32 → Prop
  | 0, _, _ => False
  | n4 + 1, v1, v2 => (((σ.1 65 64) ≤ v2 → (K v1)) ∧ (¬ (σ.1 65 64) ≤ v2 → (∃ m17, L_X12_maskNow_17 Q v2 σ (fun y15 => L_X12_maskNow_4 Q σ K n4 y15 (v2 + nI 1)) m17 v1 (v2 + (nI 1)))))
def W_X12_maskNow  (Q : Int64 → Prop) (σ : gSt) : Prop := ∃ m4, L_X12_maskNow_4 Q σ (fun y17 => Q y17) m4 (lN 0) (nI 0)
set_option maxHeartbeats 4000000 in
theorem t_X12_maskNow {o : gOm} {l : Launch} {b : Bool}   {σ : gSt} (hR : σ.2.2 = gRf b)  {Q : Int64 → Prop} (h : W_X12_maskNow  Q σ) : Sp o l mX12_maskNow 2 0 0 [.ref (ad o 65)] 116 116 σ (pL (fun x s => σ = s ∧ Q x)) := by
  unfold W_X12_maskNow at h
  refine Sp.of (ls0 := [some (.ref (ad o 65)), none, none, none, none]) miX12_maskNow rfl (Nat.le_of_ble_eq_true rfl) rfl (fun γ hγ hnm X Y => ?_)
  subst hγ
  have X : gX o γ cX12_maskNow 5 RX12 := X
  refine g_lconst (pc := 0) X dX12_maskNow_0 (v := lN 0) rfl ?_
  refine g_lstore_1 (pc := 1) X dX12_maskNow_1 (by decide) rfl ?_
  refine g_iconst (pc := 2) X dX12_maskNow_2 kiconst_0 ?_
  refine g_istore_3 (pc := 3) X dX12_maskNow_3 (by decide) rfl ?_
  obtain ⟨n16, h⟩ := h
  have hL : ∀  (K : Int64 → Prop) (_ : ∀ (y3 : Int64), K y3 → G o γ 0 0 116 σ 65 [some (.ref (ad o 65)), some (.long y3), none, none, none] []) (n : Nat) (v1 : Int64) (v2 : Int32), L_X12_maskNow_4 Q σ K n v1 v2 → G o γ 0 0 116 σ 4 [some (.ref (ad o 65)), some (.long v1), none, some (.int v2), none] [] := by
    intro K hK n
    induction n with
    | zero => intro v1 v2 h; exact False.elim h
    | succ n ih =>
      intro v1 v2 h
      rw [L_X12_maskNow_4] at h
      refine g_iload_3 (pc := 4) X dX12_maskNow_4 ?_
      refine g_aload_0 (pc := 5) X dX12_maskNow_5 ?_
      refine g_getI (pc := 6) X dX12_maskNow_6 rfl (by decide) fl_X12_194 (Or.inl rfl) ?_
      refine g_icmp_ge (pc := 9) X dX12_maskNow_9 (tgt := 65) (by decide) (fun q4 => ?_) (fun q4 => ?_)
      · replace h := h.1 q4
        exact g_drop (by simp [lsub]) (hK v1 h)
      · replace h := h.2 q4
        refine g_iload_3 (pc := 12) X dX12_maskNow_12 ?_
        refine g_iconst (pc := 13) X dX12_maskNow_13 kiconst_1 ?_
        refine g_iadd (pc := 14) X dX12_maskNow_14 ?_
        refine g_istore_4 (pc := 15) X dX12_maskNow_15 (by decide) rfl ?_
        obtain ⟨n14, h⟩ := h
        have hL : ∀ (c5 : Int32) (K : Int64 → Prop) (_ : ∀ (y8 : Int64), K y8 → G o γ 0 0 116 σ 59 [some (.ref (ad o 65)), some (.long y8), none, some (.int c5), none] []) (n : Nat) (v6 : Int64) (v7 : Int32), L_X12_maskNow_17 Q c5 σ K n v6 v7 → G o γ 0 0 116 σ 17 [some (.ref (ad o 65)), some (.long v6), none, some (.int c5), some (.int v7)] [] := by
          intro c5 K hK n
          induction n with
          | zero => intro v6 v7 h; exact False.elim h
          | succ n ih =>
            intro v6 v7 h
            rw [L_X12_maskNow_17] at h
            refine g_iload_4 (pc := 17) X dX12_maskNow_17 ?_
            refine g_aload_0 (pc := 19) X dX12_maskNow_19 ?_
            refine g_getI (pc := 20) X dX12_maskNow_20 rfl (by decide) fl_X12_194 (Or.inl rfl) ?_
            refine g_icmp_ge (pc := 23) X dX12_maskNow_23 (tgt := 59) (by decide) (fun q9 => ?_) (fun q9 => ?_)
            · replace h := h.1 q9
              exact g_drop (by simp [lsub]) (hK v6 h)
            · replace h := h.2 q9
              refine g_aload_0 (pc := 26) X dX12_maskNow_26 ?_
              refine g_getRf (pc := 27) X dX12_maskNow_27 fl_X12_141 rfl (by decide) rfl hR rfl ?_
              refine g_iload_3 (pc := 30) X dX12_maskNow_30 ?_
              refine g_iaload_w (pc := 31) X dX12_maskNow_31 rfl (by decide) h (fun x10 h => ?_)
              refine g_aload_0 (pc := 32) X dX12_maskNow_32 ?_
              refine g_getRf (pc := 33) X dX12_maskNow_33 fl_X12_141 rfl (by decide) rfl hR rfl ?_
              refine g_iload_4 (pc := 36) X dX12_maskNow_36 ?_
              refine g_iaload_w (pc := 38) X dX12_maskNow_38 rfl (by decide) h (fun x11 h => ?_)
              refine g_icmp_ne (pc := 39) X dX12_maskNow_39 (tgt := 53) (by decide) (fun q12 => ?_) (fun q12 => ?_)
              · replace h := h.2 q12
                refine g_iinc_4 (pc := 53) X dX12_maskNow_53 (v := v7 + nI 1) rfl (by decide) rfl ?_
                refine g_goto (pc := 56) X dX12_maskNow_56 (tgt := 17) (by decide) ?_
                exact ih v6 (v7 + nI 1) h
              · replace h := h.1 q12
                refine g_lload_1 (pc := 42) X dX12_maskNow_42 ?_
                refine g_lconst (pc := 43) X dX12_maskNow_43 (v := lN 1) rfl ?_
                refine g_iload_3 (pc := 44) X dX12_maskNow_44 ?_
                refine g_iload_4 (pc := 45) X dX12_maskNow_45 ?_
                refine g_callS_I (pc := 47) X Y dX12_maskNow_47 miX12_bitOf li_X12_514 (t_X12_bitOf hR  h) rfl ⟨Nat.le_of_ble_eq_true rfl, Nat.le_of_ble_eq_true rfl⟩ (Nat.le_of_ble_eq_true rfl) (Nat.le_of_ble_eq_true rfl) rfl (by exact Nat.le_of_ble_eq_true rfl) (fun x13 σ9 hp => ?_)
                obtain ⟨rfl, h⟩ := hp
                refine g_lshl (pc := 50) X dX12_maskNow_50 ?_
                refine g_lor (pc := 51) X dX12_maskNow_51 ?_
                refine g_lstore_1 (pc := 52) X dX12_maskNow_52 (by decide) rfl ?_
                refine g_iinc_4 (pc := 53) X dX12_maskNow_53 (v := v7 + nI 1) rfl (by decide) rfl ?_
                refine g_goto (pc := 56) X dX12_maskNow_56 (tgt := 17) (by decide) ?_
                exact ih (v6 ||| (shlL (lN 1) x13)) (v7 + nI 1) h
        refine hL v2 _ (fun y15 h => ?_) n14 v1 (v2 + (nI 1)) h
        · refine g_iinc_3 (pc := 59) X dX12_maskNow_59 (v := v2 + nI 1) rfl (by decide) rfl ?_
          refine g_goto (pc := 62) X dX12_maskNow_62 (tgt := 4) (by decide) ?_
          exact ih y15 (v2 + nI 1) h
  refine hL  _ (fun y17 h => ?_) n16 (lN 0) (nI 0) h
  · refine g_lload_1 (pc := 65) X dX12_maskNow_65 ?_
    exact g_lreturn (pc := 66) X Y dX12_maskNow_66 (Nat.le_of_ble_eq_true rfl) (Nat.le_of_ble_eq_true rfl) ⟨_, rfl, rfl, h⟩
def L_X12_leaf_260 (Q : gSt → Prop) (c7 : Int32) (σ : gSt) (K : Int32 → Prop) : Nat → Int32 → Int32 → Prop
  | 0, _, _ => False
  | n260 + 1, v8, v9 => (((σ.1 65 64) ≤ v9 → (K v8)) ∧ (¬ (σ.1 65 64) ≤ v9 → (rI σ 106 10 c7 (fun x12 => rI σ 106 10 v9 (fun x13 => ∀ J15 : Int32 → Prop, (∀ x14, (rI σ 105 30 c7 (fun x16 => rI σ 71 30 x16 (fun x17 => rI σ 105 30 v9 (fun x18 => rI σ 71 30 x18 (fun x19 => ∀ J21 : Int32 → Prop, (∀ x20, (∀ J23 : Int32 → Prop, (∀ x22, (L_X12_leaf_260 Q c7 σ K n260 (v8 + x22) (v9 + nI 1)) → J23 x22) → ((x14 = x20 → (J23 (nI 0))) ∧ (¬ x14 = x20 → (J23 (nI 1))))) → J21 x20) → ((x17 = x19 → (J21 (nI 1))) ∧ (¬ x17 = x19 → (J21 (nI 0))))))))) → J15 x14) → ((x12 = x13 → (J15 (nI 1))) ∧ (¬ x12 = x13 → (J15 (nI 0)))))))))
def L_X12_leaf_245 (Q : gSt → Prop)  (σ : gSt) (K : Int32 → Prop) : Nat → Int32 → Int32 → Prop
  | 0, _, _ => False
  | n245 + 1, v3, v4 => (((σ.1 65 64) ≤ v4 → (K v3)) ∧ (¬ (σ.1 65 64) ≤ v4 → (∃ m260, L_X12_leaf_260 Q v4 σ (fun y28 => L_X12_leaf_245 Q σ K n245 y28 (v4 + nI 1)) m260 v3 (v4 + (nI 1)))))
def L_X12_leaf_371 (Q : gSt → Prop)  (K : gSt → Prop) : Nat → Int32 → gSt → Prop
  | 0, _, _ => False
  | n371 + 1, v33, s34 => (((s34.1 65 64) ≤ v33 → (K s34)) ∧ (¬ (s34.1 65 64) ≤ v33 → (rI s34 106 10 v33 (fun x37 => wI s34 109 10 v33 x37 (fun s38 => L_X12_leaf_371 Q K n371 (v33 + nI 1) s38)))))
def L_X12_leaf_54 (Q : gSt → Prop)  (K : gSt → Prop) : Nat → Int32 → gSt → Prop
  | 0, _, _ => False
  | n54 + 1, v77, s78 => (((s78.1 65 64) ≤ v77 → (K s78)) ∧ (¬ (s78.1 65 64) ≤ v77 → (rI s78 106 10 v77 (fun x81 => wI s78 108 10 v77 x81 (fun s82 => L_X12_leaf_54 Q K n54 (v77 + nI 1) s82)))))
def W_X12_leaf (p0 : Int64) (Q : gSt → Prop) (σ : gSt) : Prop := (((σ.1 65 68) = 0 → (∀ J61 : gSt → Prop, (∀ s60, (W_X12_maskNow (fun x62 => fI s60 65 70 ((s60.1 65 70) + (nI 1)) (fun s63 => fL s63 65 79 ((s63.2.1 65 79) &&& x62) (fun s64 => fL s64 65 80 ((s64.2.1 65 80) ||| x62) (fun s65 => ∀ J67 : gSt → Prop, (∀ s66, (fI s66 65 71 ((s66.1 65 71) + (nI 1)) (fun s68 => Q s68)) → J67 s66) → (((nI 200) ≤ (s65.1 65 71) → (J67 s65)) ∧ (¬ (nI 200) ≤ (s65.1 65 71) → (wL s65 110 200 (s65.1 65 71) x62 (fun s70 => J67 s70)))))))) s60) → J61 s60) → ∀ J71 : Prop, ((fL σ 65 75 p0 (fun s72 => fI s72 65 70 (nI 0) (fun s73 => fI s73 65 71 (nI 0) (fun s74 => fL s74 65 79 ((-1 : Int64)) (fun s75 => fL s75 65 80 (lN 0) (fun s76 => ∃ m54, L_X12_leaf_54 Q (fun s84 => J61 s84) m54 (nI 0) s76)))))) → J71) → (((σ.2.1 65 75) < (lN 0) → J71) ∧ (¬ (σ.2.1 65 75) < (lN 0) → (((p0 < (σ.2.1 65 75) → J71) ∧ (¬ p0 < (σ.2.1 65 75) → (J61 σ)))))))) ∧ (¬ (σ.1 65 68) = 0 → ((((σ.1 65 68) = (nI 1) → (rI σ 106 10 (σ.1 65 72) (fun x43 => rI σ 106 10 (σ.1 65 73) (fun x44 => ∀ J46 : Int32 → Prop, (∀ x45, (∀ J48 : gSt → Prop, (∀ s47, (((x45 = 0 → (∀ J50 : Prop, ((fL s47 65 77 p0 (fun s51 => Q s51)) → J50) → (((s47.2.1 65 77) < (lN 0) → J50) ∧ (¬ (s47.2.1 65 77) < (lN 0) → (((p0 < (s47.2.1 65 77) → J50) ∧ (¬ p0 < (s47.2.1 65 77) → (Q s47)))))))) ∧ (¬ x45 = 0 → (Q s47)))) → J48 s47) → ((x45 = 0 → (J48 σ)) ∧ (¬ x45 = 0 → (∀ J55 : Prop, ((fL σ 65 78 p0 (fun s56 => J48 s56)) → J55) → (((σ.2.1 65 78) < (lN 0) → J55) ∧ (¬ (σ.2.1 65 78) < (lN 0) → (((p0 < (σ.2.1 65 78) → J55) ∧ (¬ p0 < (σ.2.1 65 78) → (J48 σ)))))))))) → J46 x45) → ((x43 = x44 → (J46 (nI 1))) ∧ (¬ x43 = x44 → (J46 (nI 0)))))))) ∧ (¬ (σ.1 65 68) = (nI 1) → (∃ m245, L_X12_leaf_245 Q σ (fun y30 => ∀ J31 : Prop, ((fI σ 65 74 y30 (fun s32 => ∃ m371, L_X12_leaf_371 Q (fun s40 => Q s40) m371 (nI 0) s32)) → J31) → (((σ.1 65 74) = ((-1 : Int32)) → J31) ∧ (¬ (σ.1 65 74) = ((-1 : Int32)) → (((y30 < (σ.1 65 74) → J31) ∧ (¬ y30 < (σ.1 65 74) → (Q σ))))))) m245 (nI 0) (nI 0)))))))
set_option maxHeartbeats 4000000 in
theorem t_X12_leaf {o : gOm} {l : Launch} {b : Bool}   {σ : gSt} (hR : σ.2.2 = gRf b) {p0 : Int64} {Q : gSt → Prop} (h : W_X12_leaf p0 Q σ) : Sp o l mX12_leaf 3 0 0 [.ref (ad o 65), .long p0] 116 116 σ (pV (fun s => s.2.2 = gRf b ∧ Q s)) := by
  unfold W_X12_leaf at h
  refine Sp.of (ls0 := [some (.ref (ad o 65)), some (.long p0), none, none, none, none]) miX12_leaf rfl (Nat.le_of_ble_eq_true rfl) rfl (fun γ hγ hnm X Y => ?_)
  subst hγ
  have X : gX o γ cX12_leaf 6 RX12 := X
  refine g_aload_0 (pc := 0) X dX12_leaf_0 ?_
  refine g_getI (pc := 1) X dX12_leaf_1 rfl (by decide) fl_X12_480 (Or.inl rfl) ?_
  refine g_if_ne (pc := 4) X dX12_leaf_4 (tgt := 148) (by decide) (fun q1 => ?_) (fun q1 => ?_)
  · replace h := h.2 q1
    refine g_aload_0 (pc := 148) X dX12_leaf_148 ?_
    refine g_getI (pc := 149) X dX12_leaf_149 rfl (by decide) fl_X12_480 (Or.inl rfl) ?_
    refine g_iconst (pc := 152) X dX12_leaf_152 kiconst_1 ?_
    refine g_icmp_ne (pc := 153) X dX12_leaf_153 (tgt := 240) (by decide) (fun q2 => ?_) (fun q2 => ?_)
    · replace h := h.2 q2
      refine g_iconst (pc := 240) X dX12_leaf_240 kiconst_0 ?_
      refine g_istore_3 (pc := 241) X dX12_leaf_241 (by decide) rfl ?_
      refine g_iconst (pc := 242) X dX12_leaf_242 kiconst_0 ?_
      refine g_istore_4 (pc := 243) X dX12_leaf_243 (by decide) rfl ?_
      obtain ⟨n29, h⟩ := h
      have hL : ∀  (K : Int32 → Prop) (_ : ∀ (y5 : Int32), K y5 → G o γ 0 0 116 σ 346 [some (.ref (ad o 65)), none, none, some (.int y5), none, none] []) (n : Nat) (v3 : Int32) (v4 : Int32), L_X12_leaf_245 Q σ K n v3 v4 → G o γ 0 0 116 σ 245 [some (.ref (ad o 65)), none, none, some (.int v3), some (.int v4), none] [] := by
        intro K hK n
        induction n with
        | zero => intro v3 v4 h; exact False.elim h
        | succ n ih =>
          intro v3 v4 h
          rw [L_X12_leaf_245] at h
          refine g_iload_4 (pc := 245) X dX12_leaf_245 ?_
          refine g_aload_0 (pc := 247) X dX12_leaf_247 ?_
          refine g_getI (pc := 248) X dX12_leaf_248 rfl (by decide) fl_X12_194 (Or.inl rfl) ?_
          refine g_icmp_ge (pc := 251) X dX12_leaf_251 (tgt := 346) (by decide) (fun q6 => ?_) (fun q6 => ?_)
          · replace h := h.1 q6
            exact g_drop (by simp [lsub]) (hK v3 h)
          · replace h := h.2 q6
            refine g_iload_4 (pc := 254) X dX12_leaf_254 ?_
            refine g_iconst (pc := 256) X dX12_leaf_256 kiconst_1 ?_
            refine g_iadd (pc := 257) X dX12_leaf_257 ?_
            refine g_istore_5 (pc := 258) X dX12_leaf_258 (by decide) rfl ?_
            obtain ⟨n27, h⟩ := h
            have hL : ∀ (c7 : Int32) (K : Int32 → Prop) (_ : ∀ (y10 : Int32), K y10 → G o γ 0 0 116 σ 340 [some (.ref (ad o 65)), none, none, some (.int y10), some (.int c7), none] []) (n : Nat) (v8 : Int32) (v9 : Int32), L_X12_leaf_260 Q c7 σ K n v8 v9 → G o γ 0 0 116 σ 260 [some (.ref (ad o 65)), none, none, some (.int v8), some (.int c7), some (.int v9)] [] := by
              intro c7 K hK n
              induction n with
              | zero => intro v8 v9 h; exact False.elim h
              | succ n ih =>
                intro v8 v9 h
                rw [L_X12_leaf_260] at h
                refine g_iload_5 (pc := 260) X dX12_leaf_260 ?_
                refine g_aload_0 (pc := 262) X dX12_leaf_262 ?_
                refine g_getI (pc := 263) X dX12_leaf_263 rfl (by decide) fl_X12_194 (Or.inl rfl) ?_
                refine g_icmp_ge (pc := 266) X dX12_leaf_266 (tgt := 340) (by decide) (fun q11 => ?_) (fun q11 => ?_)
                · replace h := h.1 q11
                  exact g_drop (by simp [lsub]) (hK v8 h)
                · replace h := h.2 q11
                  refine g_iload_3 (pc := 269) X dX12_leaf_269 ?_
                  refine g_aload_0 (pc := 270) X dX12_leaf_270 ?_
                  refine g_getRf (pc := 271) X dX12_leaf_271 fl_X12_141 rfl (by decide) rfl hR rfl ?_
                  refine g_iload_4 (pc := 274) X dX12_leaf_274 ?_
                  refine g_iaload_w (pc := 276) X dX12_leaf_276 rfl (by decide) h (fun x12 h => ?_)
                  refine g_aload_0 (pc := 277) X dX12_leaf_277 ?_
                  refine g_getRf (pc := 278) X dX12_leaf_278 fl_X12_141 rfl (by decide) rfl hR rfl ?_
                  refine g_iload_5 (pc := 281) X dX12_leaf_281 ?_
                  refine g_iaload_w (pc := 283) X dX12_leaf_283 rfl (by decide) h (fun x13 h => ?_)
                  replace h := h (fun x14 => G o γ 0 0 116 σ 292 [some (.ref (ad o 65)), none, none, none, some (.int c7), some (.int v9)] [.int x14, .int v8]) (by
                      intro x14 h
                      refine g_aload_0 (pc := 292) X dX12_leaf_292 ?_
                      refine g_getRf (pc := 293) X dX12_leaf_293 fl_X12_29 rfl (by decide) rfl hR rfl ?_
                      refine g_aload_0 (pc := 296) X dX12_leaf_296 ?_
                      refine g_getRf (pc := 297) X dX12_leaf_297 fl_X12_138 rfl (by decide) rfl hR rfl ?_
                      refine g_iload_4 (pc := 300) X dX12_leaf_300 ?_
                      refine g_iaload_w (pc := 302) X dX12_leaf_302 rfl (by decide) h (fun x16 h => ?_)
                      refine g_iaload_w (pc := 303) X dX12_leaf_303 rfl (by decide) h (fun x17 h => ?_)
                      refine g_aload_0 (pc := 304) X dX12_leaf_304 ?_
                      refine g_getRf (pc := 305) X dX12_leaf_305 fl_X12_29 rfl (by decide) rfl hR rfl ?_
                      refine g_aload_0 (pc := 308) X dX12_leaf_308 ?_
                      refine g_getRf (pc := 309) X dX12_leaf_309 fl_X12_138 rfl (by decide) rfl hR rfl ?_
                      refine g_iload_5 (pc := 312) X dX12_leaf_312 ?_
                      refine g_iaload_w (pc := 314) X dX12_leaf_314 rfl (by decide) h (fun x18 h => ?_)
                      refine g_iaload_w (pc := 315) X dX12_leaf_315 rfl (by decide) h (fun x19 h => ?_)
                      replace h := h (fun x20 => G o γ 0 0 116 σ 324 [some (.ref (ad o 65)), none, none, none, some (.int c7), some (.int v9)] [.int x20, .int x14, .int v8]) (by
                          intro x20 h
                          replace h := h (fun x22 => G o γ 0 0 116 σ 332 [some (.ref (ad o 65)), none, none, none, some (.int c7), some (.int v9)] [.int x22, .int v8]) (by
                              intro x22 h
                              refine g_iadd (pc := 332) X dX12_leaf_332 ?_
                              refine g_istore_3 (pc := 333) X dX12_leaf_333 (by decide) rfl ?_
                              refine g_iinc_5 (pc := 334) X dX12_leaf_334 (v := v9 + nI 1) rfl (by decide) rfl ?_
                              refine g_goto (pc := 337) X dX12_leaf_337 (tgt := 260) (by decide) ?_
                              exact ih (v8 + x22) (v9 + nI 1) h)
                          refine g_icmp_eq (pc := 324) X dX12_leaf_324 (tgt := 331) (by decide) (fun q24 => ?_) (fun q24 => ?_)
                          · replace h := h.1 q24
                            refine g_iconst (pc := 331) X dX12_leaf_331 kiconst_0 ?_
                            exact h
                          · replace h := h.2 q24
                            refine g_iconst (pc := 327) X dX12_leaf_327 kiconst_1 ?_
                            refine g_goto (pc := 328) X dX12_leaf_328 (tgt := 332) (by decide) ?_
                            exact h)
                      refine g_icmp_ne (pc := 316) X dX12_leaf_316 (tgt := 323) (by decide) (fun q25 => ?_) (fun q25 => ?_)
                      · replace h := h.2 q25
                        refine g_iconst (pc := 323) X dX12_leaf_323 kiconst_0 ?_
                        exact h
                      · replace h := h.1 q25
                        refine g_iconst (pc := 319) X dX12_leaf_319 kiconst_1 ?_
                        refine g_goto (pc := 320) X dX12_leaf_320 (tgt := 324) (by decide) ?_
                        exact h)
                  refine g_icmp_ne (pc := 284) X dX12_leaf_284 (tgt := 291) (by decide) (fun q26 => ?_) (fun q26 => ?_)
                  · replace h := h.2 q26
                    refine g_iconst (pc := 291) X dX12_leaf_291 kiconst_0 ?_
                    exact g_drop (by simp [lsub]) (h)
                  · replace h := h.1 q26
                    refine g_iconst (pc := 287) X dX12_leaf_287 kiconst_1 ?_
                    refine g_goto (pc := 288) X dX12_leaf_288 (tgt := 292) (by decide) ?_
                    exact g_drop (by simp [lsub]) (h)
            refine hL v4 _ (fun y28 h => ?_) n27 v3 (v4 + (nI 1)) h
            · refine g_iinc_4 (pc := 340) X dX12_leaf_340 (v := v4 + nI 1) rfl (by decide) rfl ?_
              refine g_goto (pc := 343) X dX12_leaf_343 (tgt := 245) (by decide) ?_
              exact ih y28 (v4 + nI 1) h
      refine g_drop (by simp [lsub]) (hL  _ (fun y30 h => ?_) n29 (nI 0) (nI 0) h)
      · refine g_aload_0 (pc := 346) X dX12_leaf_346 ?_
        refine g_getI (pc := 347) X dX12_leaf_347 rfl (by decide) fl_X12_538 (Or.inl rfl) ?_
        refine g_iconst (pc := 350) X dX12_leaf_350 kiconst_m1 ?_
        replace h := h (G o γ 0 0 116 σ 363 [some (.ref (ad o 65)), none, none, some (.int y30), none, none] []) (by
            intro  h
            refine g_aload_0 (pc := 363) X dX12_leaf_363 ?_
            refine g_iload_3 (pc := 364) X dX12_leaf_364 ?_
            refine g_putI_w (pc := 365) X dX12_leaf_365 fl_X12_538 rfl (by decide) rfl rfl hR h (fun s32 hR h => ?_)
            refine g_iconst (pc := 368) X dX12_leaf_368 kiconst_0 ?_
            refine g_istore_4 (pc := 369) X dX12_leaf_369 (by decide) rfl ?_
            obtain ⟨n39, h⟩ := h
            have hL : ∀  (K : gSt → Prop) (_ : ∀  (s35 : gSt), s35.2.2 = gRf b → K s35 → G o γ 0 0 116 s35 400 [some (.ref (ad o 65)), none, none, none, none, none] []) (n : Nat) (v33 : Int32) (s34 : gSt), s34.2.2 = gRf b → L_X12_leaf_371 Q K n v33 s34 → G o γ 0 0 116 s34 371 [some (.ref (ad o 65)), none, none, none, some (.int v33), none] [] := by
              intro K hK n
              induction n with
              | zero => intro v33 s34 hR h; exact False.elim h
              | succ n ih =>
                intro v33 s34 hR h
                rw [L_X12_leaf_371] at h
                refine g_iload_4 (pc := 371) X dX12_leaf_371 ?_
                refine g_aload_0 (pc := 373) X dX12_leaf_373 ?_
                refine g_getI (pc := 374) X dX12_leaf_374 rfl (by decide) fl_X12_194 (Or.inl rfl) ?_
                refine g_icmp_ge (pc := 377) X dX12_leaf_377 (tgt := 400) (by decide) (fun q36 => ?_) (fun q36 => ?_)
                · replace h := h.1 q36
                  exact g_drop (by simp [lsub]) (hK s34 hR h)
                · replace h := h.2 q36
                  refine g_aload_0 (pc := 380) X dX12_leaf_380 ?_
                  refine g_getRf (pc := 381) X dX12_leaf_381 fl_X12_150 rfl (by decide) rfl hR rfl ?_
                  refine g_iload_4 (pc := 384) X dX12_leaf_384 ?_
                  refine g_aload_0 (pc := 386) X dX12_leaf_386 ?_
                  refine g_getRf (pc := 387) X dX12_leaf_387 fl_X12_141 rfl (by decide) rfl hR rfl ?_
                  refine g_iload_4 (pc := 390) X dX12_leaf_390 ?_
                  refine g_iaload_w (pc := 392) X dX12_leaf_392 rfl (by decide) h (fun x37 h => ?_)
                  refine g_iastore_w (pc := 393) X dX12_leaf_393 rfl (by decide) hR h (fun s38 hR h => ?_)
                  refine g_iinc_4 (pc := 394) X dX12_leaf_394 (v := v33 + nI 1) rfl (by decide) rfl ?_
                  refine g_goto (pc := 397) X dX12_leaf_397 (tgt := 371) (by decide) ?_
                  exact ih (v33 + nI 1) s38 hR h
            refine g_drop (by simp [lsub]) (hL  _ (fun s40 hR h => ?_) n39 (nI 0) s32 hR h)
            · exact g_return (pc := 400) X Y dX12_leaf_400 (Nat.le_of_ble_eq_true rfl) (Nat.le_of_ble_eq_true rfl) ⟨rfl, hR, h⟩)
        refine g_icmp_eq (pc := 351) X dX12_leaf_351 (tgt := 363) (by decide) (fun q41 => ?_) (fun q41 => ?_)
        · replace h := h.1 q41
          exact h
        · replace h := h.2 q41
          refine g_iload_3 (pc := 354) X dX12_leaf_354 ?_
          refine g_aload_0 (pc := 355) X dX12_leaf_355 ?_
          refine g_getI (pc := 356) X dX12_leaf_356 rfl (by decide) fl_X12_538 (Or.inl rfl) ?_
          refine g_icmp_lt (pc := 359) X dX12_leaf_359 (tgt := 363) (by decide) (fun q42 => ?_) (fun q42 => ?_)
          · replace h := h.1 q42
            exact h
          · replace h := h.2 q42
            exact g_return (pc := 362) X Y dX12_leaf_362 (Nat.le_of_ble_eq_true rfl) (Nat.le_of_ble_eq_true rfl) ⟨rfl, hR, h⟩
    · replace h := h.1 q2
      refine g_aload_0 (pc := 156) X dX12_leaf_156 ?_
      refine g_getRf (pc := 157) X dX12_leaf_157 fl_X12_141 rfl (by decide) rfl hR rfl ?_
      refine g_aload_0 (pc := 160) X dX12_leaf_160 ?_
      refine g_getI (pc := 161) X dX12_leaf_161 rfl (by decide) fl_X12_532 (Or.inl rfl) ?_
      refine g_iaload_w (pc := 164) X dX12_leaf_164 rfl (by decide) h (fun x43 h => ?_)
      refine g_aload_0 (pc := 165) X dX12_leaf_165 ?_
      refine g_getRf (pc := 166) X dX12_leaf_166 fl_X12_141 rfl (by decide) rfl hR rfl ?_
      refine g_aload_0 (pc := 169) X dX12_leaf_169 ?_
      refine g_getI (pc := 170) X dX12_leaf_170 rfl (by decide) fl_X12_535 (Or.inl rfl) ?_
      refine g_iaload_w (pc := 173) X dX12_leaf_173 rfl (by decide) h (fun x44 h => ?_)
      replace h := h (fun x45 => G o γ 0 0 116 σ 182 [some (.ref (ad o 65)), some (.long p0), none, none, none, none] [.int x45]) (by
          intro x45 h
          refine g_istore_3 (pc := 182) X dX12_leaf_182 (by decide) rfl ?_
          refine g_iload_3 (pc := 183) X dX12_leaf_183 ?_
          replace h := h (fun s47 => s47.2.2 = gRf b → G o γ 0 0 116 s47 210 [some (.ref (ad o 65)), some (.long p0), none, some (.int x45), none, none] []) (by
              intro s47 h hR
              refine g_iload_3 (pc := 210) X dX12_leaf_210 ?_
              refine g_if_ne (pc := 211) X dX12_leaf_211 (tgt := 237) (by decide) (fun q49 => ?_) (fun q49 => ?_)
              · replace h := h.2 q49
                refine g_goto (pc := 237) X dX12_leaf_237 (tgt := 400) (by decide) ?_
                exact g_return (pc := 400) X Y dX12_leaf_400 (Nat.le_of_ble_eq_true rfl) (Nat.le_of_ble_eq_true rfl) ⟨rfl, hR, h⟩
              · replace h := h.1 q49
                refine g_aload_0 (pc := 214) X dX12_leaf_214 ?_
                refine g_getL (pc := 215) X dX12_leaf_215 rfl (by decide) fl_X12_486 rfl ?_
                refine g_lconst (pc := 218) X dX12_leaf_218 (v := lN 0) rfl ?_
                replace h := h (G o γ 0 0 116 s47 232 [some (.ref (ad o 65)), some (.long p0), none, none, none, none] []) (by
                    intro  h
                    refine g_aload_0 (pc := 232) X dX12_leaf_232 ?_
                    refine g_lload_1 (pc := 233) X dX12_leaf_233 ?_
                    refine g_putL_w (pc := 234) X dX12_leaf_234 fl_X12_486 rfl (by decide) rfl rfl hR h (fun s51 hR h => ?_)
                    refine g_goto (pc := 237) X dX12_leaf_237 (tgt := 400) (by decide) ?_
                    exact g_return (pc := 400) X Y dX12_leaf_400 (Nat.le_of_ble_eq_true rfl) (Nat.le_of_ble_eq_true rfl) ⟨rfl, hR, h⟩)
                refine g_lcmp_lt (pc := 219) X dX12_leaf_219 dX12_leaf_220 (tgt := 232) (by decide) (fun q52 => ?_) (fun q52 => ?_)
                · replace h := h.1 q52
                  exact g_drop (by simp [lsub]) (h)
                · replace h := h.2 q52
                  refine g_lload_1 (pc := 223) X dX12_leaf_223 ?_
                  refine g_aload_0 (pc := 224) X dX12_leaf_224 ?_
                  refine g_getL (pc := 225) X dX12_leaf_225 rfl (by decide) fl_X12_486 rfl ?_
                  refine g_lcmp_ge (pc := 228) X dX12_leaf_228 dX12_leaf_229 (tgt := 237) (by decide) (fun q53 => ?_) (fun q53 => ?_)
                  · replace h := h.2 q53
                    refine g_goto (pc := 237) X dX12_leaf_237 (tgt := 400) (by decide) ?_
                    exact g_return (pc := 400) X Y dX12_leaf_400 (Nat.le_of_ble_eq_true rfl) (Nat.le_of_ble_eq_true rfl) ⟨rfl, hR, h⟩
                  · replace h := h.1 q53
                    exact g_drop (by simp [lsub]) (h))
          refine g_if_eq (pc := 184) X dX12_leaf_184 (tgt := 210) (by decide) (fun q54 => ?_) (fun q54 => ?_)
          · replace h := h.1 q54
            exact h hR
          · replace h := h.2 q54
            refine g_aload_0 (pc := 187) X dX12_leaf_187 ?_
            refine g_getL (pc := 188) X dX12_leaf_188 rfl (by decide) fl_X12_489 rfl ?_
            refine g_lconst (pc := 191) X dX12_leaf_191 (v := lN 0) rfl ?_
            replace h := h (G o γ 0 0 116 σ 205 [some (.ref (ad o 65)), some (.long p0), none, some (.int x45), none, none] []) (by
                intro  h
                refine g_aload_0 (pc := 205) X dX12_leaf_205 ?_
                refine g_lload_1 (pc := 206) X dX12_leaf_206 ?_
                refine g_putL_w (pc := 207) X dX12_leaf_207 fl_X12_489 rfl (by decide) rfl rfl hR h (fun s56 hR h => ?_)
                exact h hR)
            refine g_lcmp_lt (pc := 192) X dX12_leaf_192 dX12_leaf_193 (tgt := 205) (by decide) (fun q57 => ?_) (fun q57 => ?_)
            · replace h := h.1 q57
              exact h
            · replace h := h.2 q57
              refine g_lload_1 (pc := 196) X dX12_leaf_196 ?_
              refine g_aload_0 (pc := 197) X dX12_leaf_197 ?_
              refine g_getL (pc := 198) X dX12_leaf_198 rfl (by decide) fl_X12_489 rfl ?_
              refine g_lcmp_ge (pc := 201) X dX12_leaf_201 dX12_leaf_202 (tgt := 210) (by decide) (fun q58 => ?_) (fun q58 => ?_)
              · replace h := h.2 q58
                exact h hR
              · replace h := h.1 q58
                exact h)
      refine g_icmp_ne (pc := 174) X dX12_leaf_174 (tgt := 181) (by decide) (fun q59 => ?_) (fun q59 => ?_)
      · replace h := h.2 q59
        refine g_iconst (pc := 181) X dX12_leaf_181 kiconst_0 ?_
        exact h
      · replace h := h.1 q59
        refine g_iconst (pc := 177) X dX12_leaf_177 kiconst_1 ?_
        refine g_goto (pc := 178) X dX12_leaf_178 (tgt := 182) (by decide) ?_
        exact h
  · replace h := h.1 q1
    refine g_aload_0 (pc := 7) X dX12_leaf_7 ?_
    refine g_getL (pc := 8) X dX12_leaf_8 rfl (by decide) fl_X12_483 rfl ?_
    refine g_lconst (pc := 11) X dX12_leaf_11 (v := lN 0) rfl ?_
    replace h := h (fun s60 => s60.2.2 = gRf b → G o γ 0 0 116 s60 80 [some (.ref (ad o 65)), none, none, none, none, none] []) (by
        intro s60 h hR
        refine g_aload_0 (pc := 80) X dX12_leaf_80 ?_
        refine g_callV_L (pc := 81) X Y dX12_leaf_81 miX12_maskNow li_X12_529 (t_X12_maskNow hR  h) rfl (by decide) rfl ⟨_, rfl⟩ rfl ⟨Nat.le_of_ble_eq_true rfl, Nat.le_of_ble_eq_true rfl⟩ (Nat.le_of_ble_eq_true rfl) (Nat.le_of_ble_eq_true rfl) rfl (by exact Nat.le_of_ble_eq_true rfl) (fun x62 σ9 hp => ?_)
        obtain ⟨rfl, h⟩ := hp
        refine g_lstore_3 (pc := 84) X dX12_leaf_84 (by decide) rfl ?_
        refine g_aload_0 (pc := 85) X dX12_leaf_85 ?_
        refine g_dup (pc := 86) X dX12_leaf_86 rfl ?_
        refine g_getI (pc := 87) X dX12_leaf_87 rfl (by decide) fl_X12_517 (Or.inl rfl) ?_
        refine g_iconst (pc := 90) X dX12_leaf_90 kiconst_1 ?_
        refine g_iadd (pc := 91) X dX12_leaf_91 ?_
        refine g_putI_w (pc := 92) X dX12_leaf_92 fl_X12_517 rfl (by decide) rfl rfl hR h (fun s63 hR h => ?_)
        refine g_aload_0 (pc := 95) X dX12_leaf_95 ?_
        refine g_dup (pc := 96) X dX12_leaf_96 rfl ?_
        refine g_getL (pc := 97) X dX12_leaf_97 rfl (by decide) fl_X12_523 rfl ?_
        refine g_lload_3 (pc := 100) X dX12_leaf_100 ?_
        refine g_land (pc := 101) X dX12_leaf_101 ?_
        refine g_putL_w (pc := 102) X dX12_leaf_102 fl_X12_523 rfl (by decide) rfl rfl hR h (fun s64 hR h => ?_)
        refine g_aload_0 (pc := 105) X dX12_leaf_105 ?_
        refine g_dup (pc := 106) X dX12_leaf_106 rfl ?_
        refine g_getL (pc := 107) X dX12_leaf_107 rfl (by decide) fl_X12_526 rfl ?_
        refine g_lload_3 (pc := 110) X dX12_leaf_110 ?_
        refine g_lor (pc := 111) X dX12_leaf_111 ?_
        refine g_putL_w (pc := 112) X dX12_leaf_112 fl_X12_526 rfl (by decide) rfl rfl hR h (fun s65 hR h => ?_)
        refine g_aload_0 (pc := 115) X dX12_leaf_115 ?_
        refine g_getI (pc := 116) X dX12_leaf_116 rfl (by decide) fl_X12_520 (Or.inl rfl) ?_
        refine g_sipush (pc := 119) X dX12_leaf_119 ksipush_200 ?_
        replace h := h (fun s66 => s66.2.2 = gRf b → G o γ 0 0 116 s66 135 [some (.ref (ad o 65)), none, none, none, none, none] []) (by
            intro s66 h hR
            refine g_aload_0 (pc := 135) X dX12_leaf_135 ?_
            refine g_dup (pc := 136) X dX12_leaf_136 rfl ?_
            refine g_getI (pc := 137) X dX12_leaf_137 rfl (by decide) fl_X12_520 (Or.inl rfl) ?_
            refine g_iconst (pc := 140) X dX12_leaf_140 kiconst_1 ?_
            refine g_iadd (pc := 141) X dX12_leaf_141 ?_
            refine g_putI_w (pc := 142) X dX12_leaf_142 fl_X12_520 rfl (by decide) rfl rfl hR h (fun s68 hR h => ?_)
            refine g_goto (pc := 145) X dX12_leaf_145 (tgt := 400) (by decide) ?_
            exact g_return (pc := 400) X Y dX12_leaf_400 (Nat.le_of_ble_eq_true rfl) (Nat.le_of_ble_eq_true rfl) ⟨rfl, hR, h⟩)
        refine g_icmp_ge (pc := 122) X dX12_leaf_122 (tgt := 135) (by decide) (fun q69 => ?_) (fun q69 => ?_)
        · replace h := h.1 q69
          exact g_drop (by simp [lsub]) (h hR)
        · replace h := h.2 q69
          refine g_aload_0 (pc := 125) X dX12_leaf_125 ?_
          refine g_getRf (pc := 126) X dX12_leaf_126 fl_X12_153 rfl (by decide) rfl hR rfl ?_
          refine g_aload_0 (pc := 129) X dX12_leaf_129 ?_
          refine g_getI (pc := 130) X dX12_leaf_130 rfl (by decide) fl_X12_520 (Or.inl rfl) ?_
          refine g_lload_3 (pc := 133) X dX12_leaf_133 ?_
          refine g_lastore_w (pc := 134) X dX12_leaf_134 rfl (by decide) hR h (fun s70 hR h => ?_)
          exact g_drop (by simp [lsub]) (h hR))
    replace h := h (G o γ 0 0 116 σ 25 [some (.ref (ad o 65)), some (.long p0), none, none, none, none] []) (by
        intro  h
        refine g_aload_0 (pc := 25) X dX12_leaf_25 ?_
        refine g_lload_1 (pc := 26) X dX12_leaf_26 ?_
        refine g_putL_w (pc := 27) X dX12_leaf_27 fl_X12_483 rfl (by decide) rfl rfl hR h (fun s72 hR h => ?_)
        refine g_aload_0 (pc := 30) X dX12_leaf_30 ?_
        refine g_iconst (pc := 31) X dX12_leaf_31 kiconst_0 ?_
        refine g_putI_w (pc := 32) X dX12_leaf_32 fl_X12_517 rfl (by decide) rfl rfl hR h (fun s73 hR h => ?_)
        refine g_aload_0 (pc := 35) X dX12_leaf_35 ?_
        refine g_iconst (pc := 36) X dX12_leaf_36 kiconst_0 ?_
        refine g_putI_w (pc := 37) X dX12_leaf_37 fl_X12_520 rfl (by decide) rfl rfl hR h (fun s74 hR h => ?_)
        refine g_aload_0 (pc := 40) X dX12_leaf_40 ?_
        refine g_ldc2 (pc := 41) X dX12_leaf_41 ct_X12_468 ?_
        refine g_putL_w (pc := 44) X dX12_leaf_44 fl_X12_523 rfl (by decide) rfl rfl hR h (fun s75 hR h => ?_)
        refine g_aload_0 (pc := 47) X dX12_leaf_47 ?_
        refine g_lconst (pc := 48) X dX12_leaf_48 (v := lN 0) rfl ?_
        refine g_putL_w (pc := 49) X dX12_leaf_49 fl_X12_526 rfl (by decide) rfl rfl hR h (fun s76 hR h => ?_)
        refine g_iconst (pc := 52) X dX12_leaf_52 kiconst_0 ?_
        refine g_istore_3 (pc := 53) X dX12_leaf_53 (by decide) rfl ?_
        obtain ⟨n83, h⟩ := h
        have hL : ∀  (K : gSt → Prop) (_ : ∀  (s79 : gSt), s79.2.2 = gRf b → K s79 → G o γ 0 0 116 s79 80 [some (.ref (ad o 65)), none, none, none, none, none] []) (n : Nat) (v77 : Int32) (s78 : gSt), s78.2.2 = gRf b → L_X12_leaf_54 Q K n v77 s78 → G o γ 0 0 116 s78 54 [some (.ref (ad o 65)), none, none, some (.int v77), none, none] [] := by
          intro K hK n
          induction n with
          | zero => intro v77 s78 hR h; exact False.elim h
          | succ n ih =>
            intro v77 s78 hR h
            rw [L_X12_leaf_54] at h
            refine g_iload_3 (pc := 54) X dX12_leaf_54 ?_
            refine g_aload_0 (pc := 55) X dX12_leaf_55 ?_
            refine g_getI (pc := 56) X dX12_leaf_56 rfl (by decide) fl_X12_194 (Or.inl rfl) ?_
            refine g_icmp_ge (pc := 59) X dX12_leaf_59 (tgt := 80) (by decide) (fun q80 => ?_) (fun q80 => ?_)
            · replace h := h.1 q80
              exact g_drop (by simp [lsub]) (hK s78 hR h)
            · replace h := h.2 q80
              refine g_aload_0 (pc := 62) X dX12_leaf_62 ?_
              refine g_getRf (pc := 63) X dX12_leaf_63 fl_X12_147 rfl (by decide) rfl hR rfl ?_
              refine g_iload_3 (pc := 66) X dX12_leaf_66 ?_
              refine g_aload_0 (pc := 67) X dX12_leaf_67 ?_
              refine g_getRf (pc := 68) X dX12_leaf_68 fl_X12_141 rfl (by decide) rfl hR rfl ?_
              refine g_iload_3 (pc := 71) X dX12_leaf_71 ?_
              refine g_iaload_w (pc := 72) X dX12_leaf_72 rfl (by decide) h (fun x81 h => ?_)
              refine g_iastore_w (pc := 73) X dX12_leaf_73 rfl (by decide) hR h (fun s82 hR h => ?_)
              refine g_iinc_3 (pc := 74) X dX12_leaf_74 (v := v77 + nI 1) rfl (by decide) rfl ?_
              refine g_goto (pc := 77) X dX12_leaf_77 (tgt := 54) (by decide) ?_
              exact ih (v77 + nI 1) s82 hR h
        refine g_drop (by simp [lsub]) (hL  _ (fun s84 hR h => ?_) n83 (nI 0) s76 hR h)
        · exact h hR)
    refine g_lcmp_lt (pc := 12) X dX12_leaf_12 dX12_leaf_13 (tgt := 25) (by decide) (fun q85 => ?_) (fun q85 => ?_)
    · replace h := h.1 q85
      exact h
    · replace h := h.2 q85
      refine g_lload_1 (pc := 16) X dX12_leaf_16 ?_
      refine g_aload_0 (pc := 17) X dX12_leaf_17 ?_
      refine g_getL (pc := 18) X dX12_leaf_18 rfl (by decide) fl_X12_483 rfl ?_
      refine g_lcmp_ge (pc := 21) X dX12_leaf_21 dX12_leaf_22 (tgt := 80) (by decide) (fun q86 => ?_) (fun q86 => ?_)
      · replace h := h.2 q86
        exact g_drop (by simp [lsub]) (h hR)
      · replace h := h.1 q86
        exact h
def L_X12_walk_26 (R_X12_walk : Int32 → Int64 → (gSt → Prop) → gSt → Prop) (Q : gSt → Prop) (c4 : Int32) (c5 : Int64) (K : gSt → Prop) : Nat → Int32 → gSt → Prop
  | 0, _, _ => False
  | n26 + 1, v6, s7 => (((s7.1 65 69) < v6 → (K s7)) ∧ (¬ (s7.1 65 69) < v6 → (W_X12_mayCome c4 v6 (fun x10 => ((x10 = 0 → (L_X12_walk_26 R_X12_walk Q c4 c5 K n26 (v6 + nI 1) s7)) ∧ (¬ x10 = 0 → (W_X12_adds c4 v6 (fun x12 => wI s7 106 10 c4 v6 (fun s13 => ∀ J15 : Int32 → Prop, (∀ x14, (∀ J17 : Int32 → Prop, (∀ x16, (wI s13 107 10 v6 x16 (fun s18 => ∀ J20 : Int32 → Prop, (∀ x19, (fI s18 65 69 ((s18.1 65 69) + x19) (fun s21 => R_X12_walk (c4 + (nI 1)) (c5 + x12) (fun s22 => ∀ J24 : Int32 → Prop, (∀ x23, (fI s22 65 69 ((s22.1 65 69) - x23) (fun s25 => rI s25 107 10 v6 (fun x26 => wI s25 107 10 v6 (x26 - (nI 1)) (fun s27 => L_X12_walk_26 R_X12_walk Q c4 c5 K n26 (v6 + nI 1) s27)))) → J24 x23) → ((x14 = 0 → (J24 (nI 0))) ∧ (¬ x14 = 0 → (J24 (nI 1))))) s21)) → J20 x19) → ((x14 = 0 → (J20 (nI 0))) ∧ (¬ x14 = 0 → (J20 (nI 1)))))) → J17 x16) → ((x14 = 0 → (rI s13 107 10 v6 (fun x31 => J17 (x31 + (nI 1))))) ∧ (¬ x14 = 0 → (J17 (nI 1))))) → J15 x14) → ((v6 = (s13.1 65 69) → (J15 (nI 1))) ∧ (¬ v6 = (s13.1 65 69) → (J15 (nI 0)))))) s7)))) s7)))
def S_X12_walk (R_X12_walk : Int32 → Int64 → (gSt → Prop) → gSt → Prop) (p0 : Int32) (p1 : Int64) (Q : gSt → Prop) (σ : gSt) : Prop := W_X12_isTooDear p1 (fun x1 => ((x1 = 0 → (((p0 = (σ.1 65 64) → (W_X12_leaf p1 (fun s35 => Q s35) σ)) ∧ (¬ p0 = (σ.1 65 64) → (∃ m26, L_X12_walk_26 R_X12_walk Q p0 p1 (fun s34 => Q s34) m26 (nI 0) σ))))) ∧ (¬ x1 = 0 → (Q σ)))) σ
set_option maxHeartbeats 4000000 in
theorem ts_X12_walk {o : gOm} {l : Launch} {d1 : Nat} {b : Bool} {R_X12_walk : Int32 → Int64 → (gSt → Prop) → gSt → Prop} (hR_X12_walk : ∀ {σ : gSt} (_ : σ.2.2 = gRf b) {a0 : Int32} {a1 : Int64} {Q : gSt → Prop} (_ : R_X12_walk a0 a1 Q σ), Sp o l mX12_walk d1 0 0 [.ref (ad o 65), .int a0, .long a1] 116 116 σ (pV (fun s => s.2.2 = gRf b ∧ Q s))) (hd1 : 3 ≤ d1) {σ : gSt} (hR : σ.2.2 = gRf b) {p0 : Int32} {p1 : Int64} {Q : gSt → Prop} (h : S_X12_walk R_X12_walk p0 p1 Q σ) : Sp o l mX12_walk (d1 + 1) 0 0 [.ref (ad o 65), .int p0, .long p1] 116 116 σ (pV (fun s => s.2.2 = gRf b ∧ Q s)) := by
  unfold S_X12_walk at h
  refine Sp.of (ls0 := [some (.ref (ad o 65)), some (.int p0), some (.long p1), none, none, none, none, none]) miX12_walk rfl (Nat.le_of_ble_eq_true rfl) rfl (fun γ hγ hnm X Y => ?_)
  subst hγ
  have X : gX o γ cX12_walk 8 RX12 := X
  refine g_aload_0 (pc := 0) X dX12_walk_0 ?_
  refine g_lload_2 (pc := 1) X dX12_walk_1 ?_
  refine g_callV_I (pc := 2) X Y dX12_walk_2 miX12_isTooDear li_X12_495 (t_X12_isTooDear hR  h) rfl (by decide) rfl ⟨_, rfl⟩ rfl ⟨by omega, by show 8 + (3 + 11) + 40 * 1 ≤ 40 * (d1 + 1); omega⟩ (Nat.le_of_ble_eq_true rfl) (Nat.le_of_ble_eq_true rfl) rfl (by exact Nat.le_of_ble_eq_true rfl) (fun x1 σ9 hp => ?_)
  obtain ⟨rfl, h⟩ := hp
  refine g_if_eq (pc := 5) X dX12_walk_5 (tgt := 9) (by decide) (fun q2 => ?_) (fun q2 => ?_)
  · replace h := h.1 q2
    refine g_iload_1 (pc := 9) X dX12_walk_9 ?_
    refine g_aload_0 (pc := 10) X dX12_walk_10 ?_
    refine g_getI (pc := 11) X dX12_walk_11 rfl (by decide) fl_X12_194 (Or.inl rfl) ?_
    refine g_icmp_ne (pc := 14) X dX12_walk_14 (tgt := 23) (by decide) (fun q3 => ?_) (fun q3 => ?_)
    · replace h := h.2 q3
      refine g_iconst (pc := 23) X dX12_walk_23 kiconst_0 ?_
      refine g_istore_4 (pc := 24) X dX12_walk_24 (by decide) rfl ?_
      obtain ⟨n33, h⟩ := h
      have hL : ∀ (c4 : Int32) (c5 : Int64) (K : gSt → Prop) (_ : ∀  (s8 : gSt), s8.2.2 = gRf b → K s8 → G o γ 0 0 116 s8 172 [some (.ref (ad o 65)), some (.int c4), some (.long c5), none, none, none, none, none] []) (n : Nat) (v6 : Int32) (s7 : gSt), s7.2.2 = gRf b → L_X12_walk_26 R_X12_walk Q c4 c5 K n v6 s7 → G o γ 0 0 116 s7 26 [some (.ref (ad o 65)), some (.int c4), some (.long c5), none, some (.int v6), none, none, none] [] := by
        intro c4 c5 K hK n
        induction n with
        | zero => intro v6 s7 hR h; exact False.elim h
        | succ n ih =>
          intro v6 s7 hR h
          rw [L_X12_walk_26] at h
          refine g_iload_4 (pc := 26) X dX12_walk_26 ?_
          refine g_aload_0 (pc := 28) X dX12_walk_28 ?_
          refine g_getI (pc := 29) X dX12_walk_29 rfl (by decide) fl_X12_477 (Or.inl rfl) ?_
          refine g_icmp_gt (pc := 32) X dX12_walk_32 (tgt := 172) (by decide) (fun q9 => ?_) (fun q9 => ?_)
          · replace h := h.1 q9
            exact g_drop (by simp [lsub]) (hK s7 hR h)
          · replace h := h.2 q9
            refine g_aload_0 (pc := 35) X dX12_walk_35 ?_
            refine g_iload_1 (pc := 36) X dX12_walk_36 ?_
            refine g_iload_4 (pc := 37) X dX12_walk_37 ?_
            refine g_callV_I (pc := 39) X Y dX12_walk_39 miX12_mayCome li_X12_503 (t_X12_mayCome hR  h) rfl (by decide) rfl ⟨_, rfl⟩ rfl ⟨by omega, by show 8 + (5 + 11) + 40 * 1 ≤ 40 * (d1 + 1); omega⟩ (Nat.le_of_ble_eq_true rfl) (Nat.le_of_ble_eq_true rfl) rfl (by exact Nat.le_of_ble_eq_true rfl) (fun x10 σ9 hp => ?_)
            obtain ⟨rfl, h⟩ := hp
            refine g_if_ne (pc := 42) X dX12_walk_42 (tgt := 48) (by decide) (fun q11 => ?_) (fun q11 => ?_)
            · replace h := h.2 q11
              refine g_aload_0 (pc := 48) X dX12_walk_48 ?_
              refine g_iload_1 (pc := 49) X dX12_walk_49 ?_
              refine g_iload_4 (pc := 50) X dX12_walk_50 ?_
              refine g_callV_L (pc := 52) X Y dX12_walk_52 miX12_adds li_X12_506 (t_X12_adds hR  h) rfl (by decide) rfl ⟨_, rfl⟩ rfl ⟨by omega, by show 8 + (7 + 11) + 40 * 1 ≤ 40 * (d1 + 1); omega⟩ (Nat.le_of_ble_eq_true rfl) (Nat.le_of_ble_eq_true rfl) rfl (by exact Nat.le_of_ble_eq_true rfl) (fun x12 σ9 hp => ?_)
              obtain ⟨rfl, h⟩ := hp
              refine g_lstore_5 (pc := 55) X dX12_walk_55 (by decide) rfl ?_
              refine g_aload_0 (pc := 57) X dX12_walk_57 ?_
              refine g_getRf (pc := 58) X dX12_walk_58 fl_X12_141 rfl (by decide) rfl hR rfl ?_
              refine g_iload_1 (pc := 61) X dX12_walk_61 ?_
              refine g_iload_4 (pc := 62) X dX12_walk_62 ?_
              refine g_iastore_w (pc := 64) X dX12_walk_64 rfl (by decide) hR h (fun s13 hR h => ?_)
              refine g_iload_4 (pc := 65) X dX12_walk_65 ?_
              refine g_aload_0 (pc := 67) X dX12_walk_67 ?_
              refine g_getI (pc := 68) X dX12_walk_68 rfl (by decide) fl_X12_477 (Or.inl rfl) ?_
              replace h := h (fun x14 => G o γ 0 0 116 s13 79 [some (.ref (ad o 65)), some (.int c4), some (.long c5), none, some (.int v6), some (.long x12), none, none] [.int x14]) (by
                  intro x14 h
                  refine g_istore_7 (pc := 79) X dX12_walk_79 (by decide) rfl ?_
                  refine g_aload_0 (pc := 81) X dX12_walk_81 ?_
                  refine g_getRf (pc := 82) X dX12_walk_82 fl_X12_144 rfl (by decide) rfl hR rfl ?_
                  refine g_iload_4 (pc := 85) X dX12_walk_85 ?_
                  refine g_iload_7 (pc := 87) X dX12_walk_87 ?_
                  replace h := h (fun x16 => G o γ 0 0 116 s13 105 [some (.ref (ad o 65)), some (.int c4), some (.long c5), none, some (.int v6), some (.long x12), none, some (.int x14)] [.int x16, .int v6, .ref (ad o 107)]) (by
                      intro x16 h
                      refine g_iastore_w (pc := 105) X dX12_walk_105 rfl (by decide) hR h (fun s18 hR h => ?_)
                      refine g_aload_0 (pc := 106) X dX12_walk_106 ?_
                      refine g_dup (pc := 107) X dX12_walk_107 rfl ?_
                      refine g_getI (pc := 108) X dX12_walk_108 rfl (by decide) fl_X12_477 (Or.inl rfl) ?_
                      refine g_iload_7 (pc := 111) X dX12_walk_111 ?_
                      replace h := h (fun x19 => G o γ 0 0 116 s18 121 [some (.ref (ad o 65)), some (.int c4), some (.long c5), none, some (.int v6), some (.long x12), none, some (.int x14)] [.int x19, .int (s18.1 65 69), .ref (ad o 65)]) (by
                          intro x19 h
                          refine g_iadd (pc := 121) X dX12_walk_121 ?_
                          refine g_putI_w (pc := 122) X dX12_walk_122 fl_X12_477 rfl (by decide) rfl rfl hR h (fun s21 hR h => ?_)
                          refine g_aload_0 (pc := 125) X dX12_walk_125 ?_
                          refine g_iload_1 (pc := 126) X dX12_walk_126 ?_
                          refine g_iconst (pc := 127) X dX12_walk_127 kiconst_1 ?_
                          refine g_iadd (pc := 128) X dX12_walk_128 ?_
                          refine g_lload_2 (pc := 129) X dX12_walk_129 ?_
                          refine g_lload_5 (pc := 130) X dX12_walk_130 ?_
                          refine g_ladd (pc := 132) X dX12_walk_132 ?_
                          refine g_callV_V (pc := 133) X Y dX12_walk_133 miX12_walk li_X12_510 (hR_X12_walk hR  h) rfl (by decide) rfl ⟨_, rfl⟩ rfl ⟨by omega, by show 8 + (8 + 11) + 40 * d1 ≤ 40 * (d1 + 1); omega⟩ (Nat.le_of_ble_eq_true rfl) (Nat.le_of_ble_eq_true rfl) rfl (by exact Nat.le_of_ble_eq_true rfl) (fun s22 hp => ?_)
                          obtain ⟨hR, h⟩ := hp
                          refine g_aload_0 (pc := 136) X dX12_walk_136 ?_
                          refine g_dup (pc := 137) X dX12_walk_137 rfl ?_
                          refine g_getI (pc := 138) X dX12_walk_138 rfl (by decide) fl_X12_477 (Or.inl rfl) ?_
                          refine g_iload_7 (pc := 141) X dX12_walk_141 ?_
                          replace h := h (fun x23 => G o γ 0 0 116 s22 151 [some (.ref (ad o 65)), some (.int c4), some (.long c5), none, some (.int v6), none, none, none] [.int x23, .int (s22.1 65 69), .ref (ad o 65)]) (by
                              intro x23 h
                              refine g_isub (pc := 151) X dX12_walk_151 ?_
                              refine g_putI_w (pc := 152) X dX12_walk_152 fl_X12_477 rfl (by decide) rfl rfl hR h (fun s25 hR h => ?_)
                              refine g_aload_0 (pc := 155) X dX12_walk_155 ?_
                              refine g_getRf (pc := 156) X dX12_walk_156 fl_X12_144 rfl (by decide) rfl hR rfl ?_
                              refine g_iload_4 (pc := 159) X dX12_walk_159 ?_
                              refine g_dup2 (pc := 161) X dX12_walk_161 rfl rfl ?_
                              refine g_iaload_w (pc := 162) X dX12_walk_162 rfl (by decide) h (fun x26 h => ?_)
                              refine g_iconst (pc := 163) X dX12_walk_163 kiconst_1 ?_
                              refine g_isub (pc := 164) X dX12_walk_164 ?_
                              refine g_iastore_w (pc := 165) X dX12_walk_165 rfl (by decide) hR h (fun s27 hR h => ?_)
                              refine g_iinc_4 (pc := 166) X dX12_walk_166 (v := v6 + nI 1) rfl (by decide) rfl ?_
                              refine g_goto (pc := 169) X dX12_walk_169 (tgt := 26) (by decide) ?_
                              exact ih (v6 + nI 1) s27 hR h)
                          refine g_if_eq (pc := 143) X dX12_walk_143 (tgt := 150) (by decide) (fun q28 => ?_) (fun q28 => ?_)
                          · replace h := h.1 q28
                            refine g_iconst (pc := 150) X dX12_walk_150 kiconst_0 ?_
                            exact g_drop (by simp [lsub]) (h)
                          · replace h := h.2 q28
                            refine g_iconst (pc := 146) X dX12_walk_146 kiconst_1 ?_
                            refine g_goto (pc := 147) X dX12_walk_147 (tgt := 151) (by decide) ?_
                            exact g_drop (by simp [lsub]) (h))
                      refine g_if_eq (pc := 113) X dX12_walk_113 (tgt := 120) (by decide) (fun q29 => ?_) (fun q29 => ?_)
                      · replace h := h.1 q29
                        refine g_iconst (pc := 120) X dX12_walk_120 kiconst_0 ?_
                        exact h
                      · replace h := h.2 q29
                        refine g_iconst (pc := 116) X dX12_walk_116 kiconst_1 ?_
                        refine g_goto (pc := 117) X dX12_walk_117 (tgt := 121) (by decide) ?_
                        exact h)
                  refine g_if_eq (pc := 89) X dX12_walk_89 (tgt := 96) (by decide) (fun q30 => ?_) (fun q30 => ?_)
                  · replace h := h.1 q30
                    refine g_aload_0 (pc := 96) X dX12_walk_96 ?_
                    refine g_getRf (pc := 97) X dX12_walk_97 fl_X12_144 rfl (by decide) rfl hR rfl ?_
                    refine g_iload_4 (pc := 100) X dX12_walk_100 ?_
                    refine g_iaload_w (pc := 102) X dX12_walk_102 rfl (by decide) h (fun x31 h => ?_)
                    refine g_iconst (pc := 103) X dX12_walk_103 kiconst_1 ?_
                    refine g_iadd (pc := 104) X dX12_walk_104 ?_
                    exact h
                  · replace h := h.2 q30
                    refine g_iconst (pc := 92) X dX12_walk_92 kiconst_1 ?_
                    refine g_goto (pc := 93) X dX12_walk_93 (tgt := 105) (by decide) ?_
                    exact h)
              refine g_icmp_ne (pc := 71) X dX12_walk_71 (tgt := 78) (by decide) (fun q32 => ?_) (fun q32 => ?_)
              · replace h := h.2 q32
                refine g_iconst (pc := 78) X dX12_walk_78 kiconst_0 ?_
                exact h
              · replace h := h.1 q32
                refine g_iconst (pc := 74) X dX12_walk_74 kiconst_1 ?_
                refine g_goto (pc := 75) X dX12_walk_75 (tgt := 79) (by decide) ?_
                exact h
            · replace h := h.1 q11
              refine g_goto (pc := 45) X dX12_walk_45 (tgt := 166) (by decide) ?_
              refine g_iinc_4 (pc := 166) X dX12_walk_166 (v := v6 + nI 1) rfl (by decide) rfl ?_
              refine g_goto (pc := 169) X dX12_walk_169 (tgt := 26) (by decide) ?_
              exact ih (v6 + nI 1) s7 hR h
      refine hL p0 p1 _ (fun s34 hR h => ?_) n33 (nI 0) σ hR h
      · exact g_return (pc := 172) X Y dX12_walk_172 (Nat.le_of_ble_eq_true rfl) (Nat.le_of_ble_eq_true rfl) ⟨rfl, hR, h⟩
    · replace h := h.1 q3
      refine g_aload_0 (pc := 17) X dX12_walk_17 ?_
      refine g_lload_2 (pc := 18) X dX12_walk_18 ?_
      refine g_callV_V (pc := 19) X Y dX12_walk_19 miX12_leaf li_X12_499 (t_X12_leaf hR  h) rfl (by decide) rfl ⟨_, rfl⟩ rfl ⟨by omega, by show 8 + (6 + 11) + 40 * 3 ≤ 40 * (d1 + 1); omega⟩ (Nat.le_of_ble_eq_true rfl) (Nat.le_of_ble_eq_true rfl) rfl (by exact Nat.le_of_ble_eq_true rfl) (fun s35 hp => ?_)
      obtain ⟨hR, h⟩ := hp
      exact g_return (pc := 22) X Y dX12_walk_22 (Nat.le_of_ble_eq_true rfl) (Nat.le_of_ble_eq_true rfl) ⟨rfl, hR, h⟩
  · replace h := h.2 q2
    exact g_return (pc := 8) X Y dX12_walk_8 (Nat.le_of_ble_eq_true rfl) (Nat.le_of_ble_eq_true rfl) ⟨rfl, hR, h⟩
def WR_X12_walk : Nat → (Int32 → Int64 → (gSt → Prop) → gSt → Prop)
  | 0 => ((fun _ _ _ _ => False))
  | n + 1 => (S_X12_walk ((WR_X12_walk n)))
theorem tr_X12_walk {o : gOm} {l : Launch} {b : Bool} : ∀ n : Nat, (∀ {σ : gSt} (_ : σ.2.2 = gRf b) {a0 : Int32} {a1 : Int64} {Q : gSt → Prop} (_ : (WR_X12_walk n) a0 a1 Q σ), Sp o l mX12_walk (3 + n) 0 0 [.ref (ad o 65), .int a0, .long a1] 116 116 σ (pV (fun s => s.2.2 = gRf b ∧ Q s))) ∧ True
  | 0 => ⟨fun {_} _ {_} {_} {_} h => False.elim h, trivial⟩
  | n + 1 => ⟨fun {_} hR {_} {_} {_} h => ts_X12_walk (d1 := 3 + n) ((tr_X12_walk (o := o) (l := l) (b := b) n).1) (by omega) hR h, trivial⟩
def W_X12_walk (a0 : Int32) (a1 : Int64) (Q : gSt → Prop) (σ : gSt) : Prop := (WR_X12_walk 12) a0 a1 Q σ
theorem t_X12_walk {o : gOm} {l : Launch} {b : Bool} {σ : gSt} (hR : σ.2.2 = gRf b) {a0 : Int32} {a1 : Int64} {Q : gSt → Prop} (h : W_X12_walk a0 a1 Q σ) : Sp o l mX12_walk 15 0 0 [.ref (ad o 65), .int a0, .long a1] 116 116 σ (pV (fun s => s.2.2 = gRf b ∧ Q s)) := (tr_X12_walk (o := o) (l := l) (b := b) 12).1 hR h
def W_X12_walks (p0 : Int32) (Q : gSt → Prop) (σ : gSt) : Prop := fI σ 65 68 p0 (fun s1 => fI s1 65 69 (nI 0) (fun s2 => W_X12_walk (nI 0) (lN 0) (fun s3 => Q s3) s2))
set_option maxHeartbeats 4000000 in
theorem t_X12_walks {o : gOm} {l : Launch} {b : Bool}   {σ : gSt} (hR : σ.2.2 = gRf b) {p0 : Int32} {Q : gSt → Prop} (h : W_X12_walks p0 Q σ) : Sp o l mX12_walks 16 0 0 [.ref (ad o 65), .int p0] 116 116 σ (pV (fun s => s.2.2 = gRf b ∧ Q s)) := by
  unfold W_X12_walks at h
  refine Sp.of (ls0 := [some (.ref (ad o 65)), some (.int p0)]) miX12_walks rfl (Nat.le_of_ble_eq_true rfl) rfl (fun γ hγ hnm X Y => ?_)
  subst hγ
  have X : gX o γ cX12_walks 2 RX12 := X
  refine g_aload_0 (pc := 0) X dX12_walks_0 ?_
  refine g_iload_1 (pc := 1) X dX12_walks_1 ?_
  refine g_putI_w (pc := 2) X dX12_walks_2 fl_X12_480 rfl (by decide) rfl rfl hR h (fun s1 hR h => ?_)
  refine g_aload_0 (pc := 5) X dX12_walks_5 ?_
  refine g_iconst (pc := 6) X dX12_walks_6 kiconst_0 ?_
  refine g_putI_w (pc := 7) X dX12_walks_7 fl_X12_477 rfl (by decide) rfl rfl hR h (fun s2 hR h => ?_)
  refine g_aload_0 (pc := 10) X dX12_walks_10 ?_
  refine g_iconst (pc := 11) X dX12_walks_11 kiconst_0 ?_
  refine g_lconst (pc := 12) X dX12_walks_12 (v := lN 0) rfl ?_
  refine g_callV_V (pc := 13) X Y dX12_walks_13 miX12_walk li_X12_510 (t_X12_walk hR  h) rfl (by decide) rfl ⟨_, rfl⟩ rfl ⟨Nat.le_of_ble_eq_true rfl, Nat.le_of_ble_eq_true rfl⟩ (Nat.le_of_ble_eq_true rfl) (Nat.le_of_ble_eq_true rfl) rfl (by exact Nat.le_of_ble_eq_true rfl) (fun s3 hp => ?_)
  obtain ⟨hR, h⟩ := hp
  exact g_return (pc := 16) X Y dX12_walks_16 (Nat.le_of_ble_eq_true rfl) (Nat.le_of_ble_eq_true rfl) ⟨rfl, hR, h⟩
def W_X12_bests  (Q : Int32 → gSt → Prop) (σ : gSt) : Prop := (((σ.1 65 64) ≤ (nI 10) → (fL σ 65 75 ((-1 : Int64)) (fun s2 => fI s2 65 70 (nI 0) (fun s3 => W_X12_walks (nI 0) (fun s4 => (((s4.1 65 70) = 0 → (Q ((-1 : Int32)) s4)) ∧ (¬ (s4.1 65 70) = 0 → (Q (nI 0) s4)))) s3)))) ∧ (¬ (σ.1 65 64) ≤ (nI 10) → (Q ((-2 : Int32)) σ)))
set_option maxHeartbeats 4000000 in
theorem t_X12_bests {o : gOm} {l : Launch} {b : Bool}   {σ : gSt} (hR : σ.2.2 = gRf b)  {Q : Int32 → gSt → Prop} (h : W_X12_bests  Q σ) : Sp o l mX12_bests 17 0 0 [.ref (ad o 65)] 116 116 σ (pI (fun x s => s.2.2 = gRf b ∧ Q x s)) := by
  unfold W_X12_bests at h
  refine Sp.of (ls0 := [some (.ref (ad o 65))]) miX12_bests rfl (Nat.le_of_ble_eq_true rfl) rfl (fun γ hγ hnm X Y => ?_)
  subst hγ
  have X : gX o γ cX12_bests 1 RX12 := X
  refine g_aload_0 (pc := 0) X dX12_bests_0 ?_
  refine g_getI (pc := 1) X dX12_bests_1 rfl (by decide) fl_X12_194 (Or.inl rfl) ?_
  refine g_bipush (pc := 4) X dX12_bests_4 kbipush_10 ?_
  refine g_icmp_le (pc := 6) X dX12_bests_6 (tgt := 12) (by decide) (fun q1 => ?_) (fun q1 => ?_)
  · replace h := h.1 q1
    refine g_aload_0 (pc := 12) X dX12_bests_12 ?_
    refine g_ldc2 (pc := 13) X dX12_bests_13 ct_X12_468 ?_
    refine g_putL_w (pc := 16) X dX12_bests_16 fl_X12_483 rfl (by decide) rfl rfl hR h (fun s2 hR h => ?_)
    refine g_aload_0 (pc := 19) X dX12_bests_19 ?_
    refine g_iconst (pc := 20) X dX12_bests_20 kiconst_0 ?_
    refine g_putI_w (pc := 21) X dX12_bests_21 fl_X12_517 rfl (by decide) rfl rfl hR h (fun s3 hR h => ?_)
    refine g_aload_0 (pc := 24) X dX12_bests_24 ?_
    refine g_iconst (pc := 25) X dX12_bests_25 kiconst_0 ?_
    refine g_callV_V (pc := 26) X Y dX12_bests_26 miX12_walks li_X12_541 (t_X12_walks hR  h) rfl (by decide) rfl ⟨_, rfl⟩ rfl ⟨Nat.le_of_ble_eq_true rfl, Nat.le_of_ble_eq_true rfl⟩ (Nat.le_of_ble_eq_true rfl) (Nat.le_of_ble_eq_true rfl) rfl (by exact Nat.le_of_ble_eq_true rfl) (fun s4 hp => ?_)
    obtain ⟨hR, h⟩ := hp
    refine g_aload_0 (pc := 29) X dX12_bests_29 ?_
    refine g_getI (pc := 30) X dX12_bests_30 rfl (by decide) fl_X12_517 (Or.inl rfl) ?_
    refine g_if_ne (pc := 33) X dX12_bests_33 (tgt := 40) (by decide) (fun q5 => ?_) (fun q5 => ?_)
    · replace h := h.2 q5
      refine g_iconst (pc := 40) X dX12_bests_40 kiconst_0 ?_
      exact g_ireturn (pc := 41) X Y dX12_bests_41 (Nat.le_of_ble_eq_true rfl) (Nat.le_of_ble_eq_true rfl) ⟨_, rfl, hR, h⟩
    · replace h := h.1 q5
      refine g_iconst (pc := 36) X dX12_bests_36 kiconst_m1 ?_
      refine g_goto (pc := 37) X dX12_bests_37 (tgt := 41) (by decide) ?_
      exact g_ireturn (pc := 41) X Y dX12_bests_41 (Nat.le_of_ble_eq_true rfl) (Nat.le_of_ble_eq_true rfl) ⟨_, rfl, hR, h⟩
  · replace h := h.2 q1
    refine g_bipush (pc := 9) X dX12_bests_9 kbipush_m2 ?_
    exact g_ireturn (pc := 11) X Y dX12_bests_11 (Nat.le_of_ble_eq_true rfl) (Nat.le_of_ble_eq_true rfl) ⟨_, rfl, hR, h⟩
def W_X12_partOf (p0 : Int32) (Q : Int32 → gSt → Prop) (σ : gSt) : Prop := W_X12_everyone (fun s1 => W_X12_findPart p0 (fun s2 => W_X12_bests (fun x3 s4 => Q x3 s4) s2) s1) σ
set_option maxHeartbeats 4000000 in
theorem t_X12_partOf {o : gOm} {l : Launch} {b : Bool}   {σ : gSt} (hR : σ.2.2 = gRf b) {p0 : Int32} {Q : Int32 → gSt → Prop} (h : W_X12_partOf p0 Q σ) : Sp o l mX12_partOf 18 0 0 [.ref (ad o 65), .int p0] 116 116 σ (pI (fun x s => s.2.2 = gRf b ∧ Q x s)) := by
  unfold W_X12_partOf at h
  refine Sp.of (ls0 := [some (.ref (ad o 65)), some (.int p0)]) miX12_partOf rfl (Nat.le_of_ble_eq_true rfl) rfl (fun γ hγ hnm X Y => ?_)
  subst hγ
  have X : gX o γ cX12_partOf 2 RX12 := X
  refine g_aload_0 (pc := 0) X dX12_partOf_0 ?_
  refine g_callV_V (pc := 1) X Y dX12_partOf_1 miX12_everyone li_X12_187 (t_X12_everyone hR  h) rfl (by decide) rfl ⟨_, rfl⟩ rfl ⟨Nat.le_of_ble_eq_true rfl, Nat.le_of_ble_eq_true rfl⟩ (Nat.le_of_ble_eq_true rfl) (Nat.le_of_ble_eq_true rfl) rfl (by exact Nat.le_of_ble_eq_true rfl) (fun s1 hp => ?_)
  obtain ⟨hR, h⟩ := hp
  refine g_aload_0 (pc := 4) X dX12_partOf_4 ?_
  refine g_iload_1 (pc := 5) X dX12_partOf_5 ?_
  refine g_callV_V (pc := 6) X Y dX12_partOf_6 miX12_findPart li_X12_190 (t_X12_findPart hR  h) rfl (by decide) rfl ⟨_, rfl⟩ rfl ⟨Nat.le_of_ble_eq_true rfl, Nat.le_of_ble_eq_true rfl⟩ (Nat.le_of_ble_eq_true rfl) (Nat.le_of_ble_eq_true rfl) rfl (by exact Nat.le_of_ble_eq_true rfl) (fun s2 hp => ?_)
  obtain ⟨hR, h⟩ := hp
  refine g_aload_0 (pc := 9) X dX12_partOf_9 ?_
  refine g_callV_I (pc := 10) X Y dX12_partOf_10 miX12_bests li_X12_544 (t_X12_bests hR  h) rfl (by decide) rfl ⟨_, rfl⟩ rfl ⟨Nat.le_of_ble_eq_true rfl, Nat.le_of_ble_eq_true rfl⟩ (Nat.le_of_ble_eq_true rfl) (Nat.le_of_ble_eq_true rfl) rfl (by exact Nat.le_of_ble_eq_true rfl) (fun x3 s4 hp => ?_)
  obtain ⟨hR, h⟩ := hp
  exact g_ireturn (pc := 13) X Y dX12_partOf_13 (Nat.le_of_ble_eq_true rfl) (Nat.le_of_ble_eq_true rfl) ⟨_, rfl, hR, h⟩
def L_X12_heapNumber_2 (k0 : Nat) (Q : Int32 → Prop) (c1 : Int32) (σ : gSt) (K : Int32 → Prop) : Nat → Int32 → Prop
  | 0, _ => False
  | n2 + 1, v2 => rI σ k0 ((lay k0).2) v2 (fun x4 => rI σ k0 ((lay k0).2) c1 (fun x5 => ((x4 = x5 → (K v2)) ∧ (¬ x4 = x5 → (L_X12_heapNumber_2 k0 Q c1 σ K n2 (v2 + nI 1))))))
def W_X12_heapNumber (k0 : Nat) (p1 : Int32) (Q : Int32 → Prop) (σ : gSt) : Prop := ∃ m2, L_X12_heapNumber_2 k0 Q p1 σ (fun y8 => rI σ 105 30 y8 (fun x9 => Q x9)) m2 (nI 0)
set_option maxHeartbeats 4000000 in
theorem t_X12_heapNumber {o : gOm} {l : Launch} {b : Bool}   {σ : gSt} (hR : σ.2.2 = gRf b) {k0 : Nat} {p1 : Int32} {Q : Int32 → Prop} (hk0 : k0 < 116) (hk00 : (lay k0).1 = 0) (h : W_X12_heapNumber k0 p1 Q σ) : Sp o l mX12_heapNumber 1 0 0 [.ref (ad o 65), .ref (ad o k0), .int p1] 116 116 σ (pI (fun x s => σ = s ∧ Q x)) := by
  have hk0y : lay k0 = (0, (lay k0).2) := Prod.ext hk00 rfl
  unfold W_X12_heapNumber at h
  refine Sp.of (ls0 := [some (.ref (ad o 65)), some (.ref (ad o k0)), some (.int p1), none]) miX12_heapNumber rfl (Nat.le_of_ble_eq_true rfl) rfl (fun γ hγ hnm X Y => ?_)
  subst hγ
  have X : gX o γ cX12_heapNumber 4 RX12 := X
  refine g_iconst (pc := 0) X dX12_heapNumber_0 kiconst_0 ?_
  refine g_istore_3 (pc := 1) X dX12_heapNumber_1 (by decide) rfl ?_
  obtain ⟨n7, h⟩ := h
  have hL : ∀ (c1 : Int32) (K : Int32 → Prop) (_ : ∀ (y3 : Int32), K y3 → G o γ 0 0 116 σ 17 [some (.ref (ad o 65)), some (.ref (ad o k0)), some (.int c1), some (.int y3)] []) (n : Nat) (v2 : Int32), L_X12_heapNumber_2 k0 Q c1 σ K n v2 → G o γ 0 0 116 σ 2 [some (.ref (ad o 65)), some (.ref (ad o k0)), some (.int c1), some (.int v2)] [] := by
    intro c1 K hK n
    induction n with
    | zero => intro v2 h; exact False.elim h
    | succ n ih =>
      intro v2 h
      rw [L_X12_heapNumber_2] at h
      refine g_aload_1 (pc := 2) X dX12_heapNumber_2 ?_
      refine g_iload_3 (pc := 3) X dX12_heapNumber_3 ?_
      refine g_iaload_w (pc := 4) X dX12_heapNumber_4 hk0y hk0 h (fun x4 h => ?_)
      refine g_aload_1 (pc := 5) X dX12_heapNumber_5 ?_
      refine g_iload_2 (pc := 6) X dX12_heapNumber_6 ?_
      refine g_iaload_w (pc := 7) X dX12_heapNumber_7 hk0y hk0 h (fun x5 h => ?_)
      refine g_icmp_eq (pc := 8) X dX12_heapNumber_8 (tgt := 17) (by decide) (fun q6 => ?_) (fun q6 => ?_)
      · replace h := h.1 q6
        exact hK v2 h
      · replace h := h.2 q6
        refine g_iinc_3 (pc := 11) X dX12_heapNumber_11 (v := v2 + nI 1) rfl (by decide) rfl ?_
        refine g_goto (pc := 14) X dX12_heapNumber_14 (tgt := 2) (by decide) ?_
        exact ih (v2 + nI 1) h
  refine hL p1 _ (fun y8 h => ?_) n7 (nI 0) h
  · refine g_aload_0 (pc := 17) X dX12_heapNumber_17 ?_
    refine g_getRf (pc := 18) X dX12_heapNumber_18 fl_X12_138 rfl (by decide) rfl hR rfl ?_
    refine g_iload_3 (pc := 21) X dX12_heapNumber_21 ?_
    refine g_iaload_w (pc := 22) X dX12_heapNumber_22 rfl (by decide) h (fun x9 h => ?_)
    exact g_ireturn (pc := 23) X Y dX12_heapNumber_23 (Nat.le_of_ble_eq_true rfl) (Nat.le_of_ble_eq_true rfl) ⟨_, rfl, rfl, h⟩
def L_X12_place_2 (Q : Int32 → Prop) (c1 : Int32) (σ : gSt) (K : Int32 → Prop) : Nat → Int32 → Prop
  | 0, _ => False
  | n2 + 1, v2 => rI σ 105 30 v2 (fun x4 => ((x4 = c1 → (K v2)) ∧ (¬ x4 = c1 → (L_X12_place_2 Q c1 σ K n2 (v2 + nI 1)))))
def W_X12_place (p0 : Int32) (Q : Int32 → Prop) (σ : gSt) : Prop := ∃ m2, L_X12_place_2 Q p0 σ (fun y7 => Q y7) m2 (nI 0)
set_option maxHeartbeats 4000000 in
theorem t_X12_place {o : gOm} {l : Launch} {b : Bool}   {σ : gSt} (hR : σ.2.2 = gRf b) {p0 : Int32} {Q : Int32 → Prop} (h : W_X12_place p0 Q σ) : Sp o l mX12_place 1 0 0 [.ref (ad o 65), .int p0] 116 116 σ (pI (fun x s => σ = s ∧ Q x)) := by
  unfold W_X12_place at h
  refine Sp.of (ls0 := [some (.ref (ad o 65)), some (.int p0), none]) miX12_place rfl (Nat.le_of_ble_eq_true rfl) rfl (fun γ hγ hnm X Y => ?_)
  subst hγ
  have X : gX o γ cX12_place 3 RX12 := X
  refine g_iconst (pc := 0) X dX12_place_0 kiconst_0 ?_
  refine g_istore_2 (pc := 1) X dX12_place_1 (by decide) rfl ?_
  obtain ⟨n6, h⟩ := h
  have hL : ∀ (c1 : Int32) (K : Int32 → Prop) (_ : ∀ (y3 : Int32), K y3 → G o γ 0 0 116 σ 18 [some (.ref (ad o 65)), some (.int c1), some (.int y3)] []) (n : Nat) (v2 : Int32), L_X12_place_2 Q c1 σ K n v2 → G o γ 0 0 116 σ 2 [some (.ref (ad o 65)), some (.int c1), some (.int v2)] [] := by
    intro c1 K hK n
    induction n with
    | zero => intro v2 h; exact False.elim h
    | succ n ih =>
      intro v2 h
      rw [L_X12_place_2] at h
      refine g_aload_0 (pc := 2) X dX12_place_2 ?_
      refine g_getRf (pc := 3) X dX12_place_3 fl_X12_138 rfl (by decide) rfl hR rfl ?_
      refine g_iload_2 (pc := 6) X dX12_place_6 ?_
      refine g_iaload_w (pc := 7) X dX12_place_7 rfl (by decide) h (fun x4 h => ?_)
      refine g_iload_1 (pc := 8) X dX12_place_8 ?_
      refine g_icmp_eq (pc := 9) X dX12_place_9 (tgt := 18) (by decide) (fun q5 => ?_) (fun q5 => ?_)
      · replace h := h.1 q5
        exact hK v2 h
      · replace h := h.2 q5
        refine g_iinc_2 (pc := 12) X dX12_place_12 (v := v2 + nI 1) rfl (by decide) rfl ?_
        refine g_goto (pc := 15) X dX12_place_15 (tgt := 2) (by decide) ?_
        exact ih (v2 + nI 1) h
  refine hL p0 _ (fun y7 h => ?_) n6 (nI 0) h
  · refine g_iload_2 (pc := 18) X dX12_place_18 ?_
    exact g_ireturn (pc := 19) X Y dX12_place_19 (Nat.le_of_ble_eq_true rfl) (Nat.le_of_ble_eq_true rfl) ⟨_, rfl, rfl, h⟩
