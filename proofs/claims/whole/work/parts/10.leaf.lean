theorem tst3 : ∀ w ∈ (vx_at0 RX11 388 "java/util/NoSuchElementException" ["java/lang/RuntimeException", "java/lang/Exception"]), w ∈ BIG := fun w hw => by
  have h : ((vx_at0 RX11 388 "java/util/NoSuchElementException" ["java/lang/RuntimeException", "java/lang/Exception"]).all (fun w => decide (w ∈ lw_tbl) && goodWord w)) = true := by decide +kernel
  have h1 := List.all_eq_true.mp h w hw
  simp only [Bool.and_eq_true, decide_eq_true_eq] at h1
  exact big_of h1.1 h1.2
set_option maxHeartbeats 4000000 in
theorem s_within {o : gOm} {l : Launch} {σ : gSt} (v a b : Int32) : Sp o l mX12_within 1 0 0 [.int v, .int a, .int b] 116 116 σ (pI (fun x σ1 => x = zI (decide (a ≤ v) && decide (v ≤ b)) ∧ σ1 = σ)) := by
  refine Sp.of (ls0 := [some (.int v), some (.int a), some (.int b)]) miX12_within rfl (Nat.le_of_ble_eq_true rfl) rfl (fun γ hγ hnm X Y => ?_)
  subst hγ
  have X : gX o γ cX12_within 3 RX12 := X
  refine g_iload_0 (pc := 0) X dX12_within_0 ?_
  refine g_iload_1 (pc := 1) X dX12_within_1 ?_
  first | refine g_icmp_lt_n (pc := 2) X dX12_within_2 (tgt := 14) (by decide) (by omega) (by omega) (fun h2 => ?_) (fun h2 => ?_) | refine g_icmp_lt (pc := 2) X dX12_within_2 (tgt := 14) (by decide) (fun h2 => ?_) (fun h2 => ?_)
  · refine g_iconst (pc := 14) X dX12_within_14 kiconst_0 ?_
    exact g_zreturn (pc := 15) X Y dX12_within_15 (by first | exact Or.inl rfl | exact Or.inr rfl | exact zI_01 _) (Nat.le_of_ble_eq_true rfl) (Nat.le_of_ble_eq_true rfl) (⟨_, rfl, by simp_all [zI, ← Int32.not_le], rfl⟩)
  · refine g_iload_0 (pc := 5) X dX12_within_5 ?_
    refine g_iload_2 (pc := 6) X dX12_within_6 ?_
    first | refine g_icmp_gt_n (pc := 7) X dX12_within_7 (tgt := 14) (by decide) (by omega) (by omega) (fun h7 => ?_) (fun h7 => ?_) | refine g_icmp_gt (pc := 7) X dX12_within_7 (tgt := 14) (by decide) (fun h7 => ?_) (fun h7 => ?_)
    · refine g_iconst (pc := 14) X dX12_within_14 kiconst_0 ?_
      exact g_zreturn (pc := 15) X Y dX12_within_15 (by first | exact Or.inl rfl | exact Or.inr rfl | exact zI_01 _) (Nat.le_of_ble_eq_true rfl) (Nat.le_of_ble_eq_true rfl) (⟨_, rfl, by simp_all [zI, ← Int32.not_le], rfl⟩)
    · refine g_iconst (pc := 10) X dX12_within_10 kiconst_1 ?_
      refine g_goto (pc := 11) X dX12_within_11 (tgt := 15) (by decide) ?_
      exact g_zreturn (pc := 15) X Y dX12_within_15 (by first | exact Or.inl rfl | exact Or.inr rfl | exact zI_01 _) (Nat.le_of_ble_eq_true rfl) (Nat.le_of_ble_eq_true rfl) (⟨_, rfl, by simp_all [zI, ← Int32.not_le], rfl⟩)
set_option maxHeartbeats 4000000 in
theorem s_heapCount {o : gOm} {l : Launch} {σ : gSt} {b : Bool} (hR : σ.2.2 = gRf b) (N : Nat) (hN : N ≤ 30) (hsz : σ.1 33 1 = nI N) : Sp o l mX2_heapCount 1 0 0 [.ref (ad o 33)] 116 116 σ (pI (fun x σ1 => x = nI (fa_cnt (fun i => decide (σ.1 34 i = nI i)) N) ∧ σ1 = σ)) := by
  refine Sp.of (ls0 := [some (.ref (ad o 33)), none, none]) miX2_heapCount rfl (Nat.le_of_ble_eq_true rfl) rfl (fun γ hγ hnm X Y => ?_)
  subst hγ
  have X : gX o γ cX2_heapCount 3 RX2 := X
  have hL : ∀ (m i : Nat), i ≤ N → N + 1 ≤ i + m → G o γ 0 0 116 σ 4 [some (.ref (ad o 33)), some (.int (nI (fa_cnt (fun i => decide (σ.1 34 i = nI i)) i))), some (.int (nI i))] [] := by
    intro m
    induction m with
    | zero => intro i q1 q2; omega
    | succ m ihhL =>
      intro i q1 q2 
      refine g_iload_2 (pc := 4) X dX2_heapCount_4 ?_
      refine g_aload_0 (pc := 5) X dX2_heapCount_5 ?_
      refine g_getI (pc := 6) X dX2_heapCount_6 rfl (by decide) fl_X2_32 (Or.inl rfl) ?_
      rw [hsz]
      first | refine g_icmp_ge_n (pc := 9) X dX2_heapCount_9 (tgt := 31) (by decide) (by omega) (by omega) (fun h9 => ?_) (fun h9 => ?_) | refine g_icmp_ge (pc := 9) X dX2_heapCount_9 (tgt := 31) (by decide) (fun h9 => ?_) (fun h9 => ?_)
      · refine g_iload_1 (pc := 31) X dX2_heapCount_31 ?_
        exact g_ireturn (pc := 32) X Y dX2_heapCount_32 (Nat.le_of_ble_eq_true rfl) (Nat.le_of_ble_eq_true rfl) (⟨_, rfl, by rw [show i = N by omega], rfl⟩)
      · refine g_aload_0 (pc := 12) X dX2_heapCount_12 ?_
        refine g_getRf (pc := 13) X dX2_heapCount_13 fl_X2_9 rfl (by decide) rfl hR rfl ?_
        refine g_iload_2 (pc := 16) X dX2_heapCount_16 ?_
        refine g_iaload_n (pc := 17) X dX2_heapCount_17 rfl (by decide) (rfl) (by omega) ?_
        refine g_iload_2 (pc := 18) X dX2_heapCount_18 ?_
        refine g_icmp_ne (pc := 19) X dX2_heapCount_19 (tgt := 25) (by decide) (fun h19 => ?_) (fun h19 => ?_)
        · first | refine g_iinc_2_n (pc := 25) X dX2_heapCount_25 (by decide) rfl ?_ | refine g_iinc_2 (pc := 25) X dX2_heapCount_25 rfl (by decide) rfl ?_
          refine g_goto (pc := 28) X dX2_heapCount_28 (tgt := 4) (by decide) ?_
          exact ihhL (i + 1) (by omega) (by omega)
        · have e : fa_cnt (fun i => decide (σ.1 34 i = nI i)) (i + 1) = fa_cnt (fun i => decide (σ.1 34 i = nI i)) i + 1 := fa_cnt_yes (by simp [h19])
          first | refine g_iinc_1_n (pc := 22) X dX2_heapCount_22 (by decide) rfl ?_ | refine g_iinc_1 (pc := 22) X dX2_heapCount_22 rfl (by decide) rfl ?_
          first | refine g_iinc_2_n (pc := 25) X dX2_heapCount_25 (by decide) rfl ?_ | refine g_iinc_2 (pc := 25) X dX2_heapCount_25 rfl (by decide) rfl ?_
          refine g_goto (pc := 28) X dX2_heapCount_28 (tgt := 4) (by decide) ?_
          exact ihhL (i + 1) (by omega) (by omega)
  refine g_iconst (pc := 0) X dX2_heapCount_0 kiconst_0 ?_
  refine g_istore_1 (pc := 1) X dX2_heapCount_1 (by decide) rfl ?_
  refine g_iconst (pc := 2) X dX2_heapCount_2 kiconst_0 ?_
  refine g_istore_2 (pc := 3) X dX2_heapCount_3 (by decide) rfl ?_
  exact hL (N + 1) 0 (by omega) (by omega)
