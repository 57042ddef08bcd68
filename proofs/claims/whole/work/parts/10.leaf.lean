set_option maxHeartbeats 4000000 in
theorem s_trait {o : gOm} {l : Launch} {σ : gSt} (hR : ∃ b, σ.2.2 = gRf b) (e w : Nat) (he : e < 30) (hw : w < 5) : Sp o l mX1_trait 1 0 0 [.ref (ad o 1), .int (nI e), .int (nI w)] 116 116 σ (pI (fun x σ1 => x = σ.1 2 (e * 5 + w) ∧ σ1 = σ)) := by
  obtain ⟨b, hR⟩ := hR
  refine Sp.of (ls0 := [some (.ref (ad o 1)), some (.int (nI e)), some (.int (nI w))]) miX1_trait rfl (Nat.le_of_ble_eq_true rfl) rfl (fun γ hγ hnm X Y => ?_)
  subst hγ
  have X : gX o γ cX1_trait 3 RX1 := X
  refine g_aload_0 (pc := 0) X dX1_trait_0 ?_
  refine g_getRf (pc := 1) X dX1_trait_1 fl_X1_9 rfl (by decide) rfl hR rfl ?_
  refine g_iload_1 (pc := 4) X dX1_trait_4 ?_
  refine g_iconst (pc := 5) X dX1_trait_5 kiconst_5 ?_
  first | refine g_imul_n (pc := 6) X dX1_trait_6 ?_ | refine g_imul (pc := 6) X dX1_trait_6 ?_
  refine g_iload_2 (pc := 7) X dX1_trait_7 ?_
  first | refine g_iadd_n (pc := 8) X dX1_trait_8 ?_ | refine g_iadd (pc := 8) X dX1_trait_8 ?_
  refine g_iaload_n (pc := 9) X dX1_trait_9 rfl (by decide) (rfl) (by omega) ?_
  exact g_ireturn (pc := 10) X Y dX1_trait_10 (Nat.le_of_ble_eq_true rfl) (Nat.le_of_ble_eq_true rfl) (⟨_, rfl, rfl, rfl⟩)
set_option maxHeartbeats 4000000 in
theorem s_pull {o : gOm} {l : Launch} {σ : gSt} (hR : ∃ b, σ.2.2 = gRf b) (a b : Nat) (ha : a < 30) (hb : b < 30) : Sp o l mX4_pull 1 0 0 [.ref (ad o 16), .int (nI a), .int (nI b)] 116 116 σ (pI (fun x σ1 => x = σ.1 24 (a * 30 + b) ∧ σ1 = σ)) := by
  obtain ⟨bb, hR⟩ := hR
  refine Sp.of (ls0 := [some (.ref (ad o 16)), some (.int (nI a)), some (.int (nI b))]) miX4_pull rfl (Nat.le_of_ble_eq_true rfl) rfl (fun γ hγ hnm X Y => ?_)
  subst hγ
  have X : gX o γ cX4_pull 3 RX4 := X
  refine g_aload_0 (pc := 0) X dX4_pull_0 ?_
  refine g_getRf (pc := 1) X dX4_pull_1 fl_X4_18 rfl (by decide) rfl hR rfl ?_
  refine g_iload_1 (pc := 4) X dX4_pull_4 ?_
  refine g_bipush (pc := 5) X dX4_pull_5 kbipush_30 ?_
  first | refine g_imul_n (pc := 7) X dX4_pull_7 ?_ | refine g_imul (pc := 7) X dX4_pull_7 ?_
  refine g_iload_2 (pc := 8) X dX4_pull_8 ?_
  first | refine g_iadd_n (pc := 9) X dX4_pull_9 ?_ | refine g_iadd (pc := 9) X dX4_pull_9 ?_
  refine g_iaload_n (pc := 10) X dX4_pull_10 rfl (by decide) (rfl) (by omega) ?_
  exact g_ireturn (pc := 11) X Y dX4_pull_11 (Nat.le_of_ble_eq_true rfl) (Nat.le_of_ble_eq_true rfl) (⟨_, rfl, rfl, rfl⟩)
set_option maxHeartbeats 4000000 in
theorem s_within {o : gOm} {l : Launch} {σ : gSt} (v a b : Int32) : Sp o l mX12_within 1 0 0 [.int v, .int a, .int b] 116 116 σ (pI (fun x σ1 => x = (if a ≤ v ∧ v ≤ b then 1 else 0) ∧ σ1 = σ)) := by
  refine Sp.of (ls0 := [some (.int v), some (.int a), some (.int b)]) miX12_within rfl (Nat.le_of_ble_eq_true rfl) rfl (fun γ hγ hnm X Y => ?_)
  subst hγ
  have X : gX o γ cX12_within 3 RX12 := X
  refine g_iload_0 (pc := 0) X dX12_within_0 ?_
  refine g_iload_1 (pc := 1) X dX12_within_1 ?_
  first | refine g_icmp_lt_n (pc := 2) X dX12_within_2 (tgt := 14) (by decide) (by omega) (by omega) (fun h2 => ?_) (fun h2 => ?_) | refine g_icmp_lt (pc := 2) X dX12_within_2 (tgt := 14) (by decide) (fun h2 => ?_) (fun h2 => ?_)
  · refine g_iconst (pc := 14) X dX12_within_14 kiconst_0 ?_
    exact g_zreturn (pc := 15) X Y dX12_within_15 (Or.inl rfl) (Nat.le_of_ble_eq_true rfl) (Nat.le_of_ble_eq_true rfl) (⟨_, rfl, by simp_all, rfl⟩)
  · refine g_iload_0 (pc := 5) X dX12_within_5 ?_
    refine g_iload_2 (pc := 6) X dX12_within_6 ?_
    first | refine g_icmp_gt_n (pc := 7) X dX12_within_7 (tgt := 14) (by decide) (by omega) (by omega) (fun h7 => ?_) (fun h7 => ?_) | refine g_icmp_gt (pc := 7) X dX12_within_7 (tgt := 14) (by decide) (fun h7 => ?_) (fun h7 => ?_)
    · refine g_iconst (pc := 14) X dX12_within_14 kiconst_0 ?_
      exact g_zreturn (pc := 15) X Y dX12_within_15 (Or.inl rfl) (Nat.le_of_ble_eq_true rfl) (Nat.le_of_ble_eq_true rfl) (⟨_, rfl, by simp_all, rfl⟩)
    · refine g_iconst (pc := 10) X dX12_within_10 kiconst_1 ?_
      refine g_goto (pc := 11) X dX12_within_11 (tgt := 15) (by decide) ?_
      exact g_zreturn (pc := 15) X Y dX12_within_15 (Or.inl rfl) (Nat.le_of_ble_eq_true rfl) (Nat.le_of_ble_eq_true rfl) (⟨_, rfl, by simp_all, rfl⟩)
