set_option maxHeartbeats 4000000 in
theorem s_trait {o : gOm} {l : Launch} {σ : gSt} {b : Bool} (hR : σ.2.2 = gRf b) (e w : Nat) (he : e < 30) (hw : w < 5) : Sp o l mX1_trait 1 0 0 [.ref (ad o 1), .int (nI e), .int (nI w)] 116 116 σ (pI (fun x σ1 => x = (σ.1 2 (e * 5 + w)) ∧ σ = σ1)) := by
  refine Sp.of (ls0 := [some (.ref (ad o 1)), some (.int (nI e)), some (.int (nI w))]) miX1_trait rfl (Nat.le_of_ble_eq_true rfl) rfl (fun γ hγ hnm X Y => ?_)
  subst hγ
  have X : gX o γ cX1_trait 3 RX1 := X
  refine g_aload_0 (pc := 0) X dX1_trait_0 ?_
  refine g_getRf (pc := 1) X dX1_trait_1 fl_X1_9 rfl (by decide) rfl hR rfl ?_
  refine g_iload_1 (pc := 4) X dX1_trait_4 ?_
  refine g_iconst (pc := 5) X dX1_trait_5 kiconst_5 ?_
  first | refine g_imul_n (pc := 6) X dX1_trait_6 ?_ | refine g_imul (pc := 6) X dX1_trait_6 ?_
  refine g_iload_2 (pc := 7) X dX1_trait_7 ?_
  first | refine g_iadd_n (pc := 8) X dX1_trait_8 ?_ | refine g_iadd (pc := 8) X dX1_trait_8 ?_
  refine g_iaload_n (pc := 9) X dX1_trait_9 rfl (by decide) (rfl) (by omega) ?_
  exact g_ireturn (pc := 10) X Y dX1_trait_10 (Nat.le_of_ble_eq_true rfl) (Nat.le_of_ble_eq_true rfl) (⟨_, rfl, rfl, rfl⟩)
def absI (x : Int32) : Int32 := if 0 ≤ x then x else 0 - x
set_option maxHeartbeats 4000000 in
theorem s_years {o : gOm} {l : Launch} {σ : gSt} {b : Bool} (hR : σ.2.2 = gRf b) (a c : Nat) (ha : a < 30) (hc : c < 30) : Sp o l mX1_yearsBetween 2 0 0 [.ref (ad o 1), .int (nI a), .int (nI c)] 116 116 σ (pI (fun x σ1 => x = (absI (σ.1 2 (a * 5 + 3) - σ.1 2 (c * 5 + 3))) ∧ σ = σ1)) := by
  refine Sp.of (ls0 := [some (.ref (ad o 1)), some (.int (nI a)), some (.int (nI c))]) miX1_yearsBetween rfl (Nat.le_of_ble_eq_true rfl) rfl (fun γ hγ hnm X Y => ?_)
  subst hγ
  have X : gX o γ cX1_yearsBetween 3 RX1 := X
  refine g_aload_0 (pc := 0) X dX1_yearsBetween_0 ?_
  refine g_iload_1 (pc := 1) X dX1_yearsBetween_1 ?_
  refine g_iconst (pc := 2) X dX1_yearsBetween_2 kiconst_3 ?_
  refine g_callV_I (pc := 3) X Y dX1_yearsBetween_3 miX1_trait li_X1_22 (s_trait hR a 3 (by omega) (by decide)) rfl (by decide) rfl ⟨_, rfl⟩ rfl ⟨Nat.le_of_ble_eq_true rfl, Nat.le_of_ble_eq_true rfl⟩ (Nat.le_of_ble_eq_true rfl) (Nat.le_of_ble_eq_true rfl) rfl (by exact Nat.le_of_ble_eq_true rfl) (fun x9 σ1 hp => ?_)
  obtain ⟨rfl, rfl⟩ := hp
  refine g_aload_0 (pc := 6) X dX1_yearsBetween_6 ?_
  refine g_iload_2 (pc := 7) X dX1_yearsBetween_7 ?_
  refine g_iconst (pc := 8) X dX1_yearsBetween_8 kiconst_3 ?_
  refine g_callV_I (pc := 9) X Y dX1_yearsBetween_9 miX1_trait li_X1_22 (s_trait hR c 3 (by omega) (by decide)) rfl (by decide) rfl ⟨_, rfl⟩ rfl ⟨Nat.le_of_ble_eq_true rfl, Nat.le_of_ble_eq_true rfl⟩ (Nat.le_of_ble_eq_true rfl) (Nat.le_of_ble_eq_true rfl) rfl (by exact Nat.le_of_ble_eq_true rfl) (fun x9 σ1 hp => ?_)
  obtain ⟨rfl, rfl⟩ := hp
  refine g_isub (pc := 12) X dX1_yearsBetween_12 ?_
  refine g_mabs (pc := 13) X Y dX1_yearsBetween_13 li_X1_26 (by decide) (Nat.le_refl _) (Nat.le_refl _) (Nat.le_of_ble_eq_true rfl) ?_
  exact g_ireturn (pc := 16) X Y dX1_yearsBetween_16 (Nat.le_of_ble_eq_true rfl) (Nat.le_of_ble_eq_true rfl) (⟨_, rfl, rfl, rfl⟩)
set_option maxHeartbeats 4000000 in
theorem s_sameBook {o : gOm} {l : Launch} {σ : gSt} {b : Bool} (hR : σ.2.2 = gRf b) (a c : Nat) (ha : a < 30) (hc : c < 30) : Sp o l mX1_sameBook 2 0 0 [.ref (ad o 1), .int (nI a), .int (nI c)] 116 116 σ (pI (fun x σ1 => x = (zI (decide (σ.1 2 (a * 5) = σ.1 2 (c * 5)))) ∧ σ = σ1)) := by
  refine Sp.of (ls0 := [some (.ref (ad o 1)), some (.int (nI a)), some (.int (nI c))]) miX1_sameBook rfl (Nat.le_of_ble_eq_true rfl) rfl (fun γ hγ hnm X Y => ?_)
  subst hγ
  have X : gX o γ cX1_sameBook 3 RX1 := X
  refine g_aload_0 (pc := 0) X dX1_sameBook_0 ?_
  refine g_iload_1 (pc := 1) X dX1_sameBook_1 ?_
  refine g_iconst (pc := 2) X dX1_sameBook_2 kiconst_0 ?_
  refine g_callV_I (pc := 3) X Y dX1_sameBook_3 miX1_trait li_X1_22 (s_trait hR a 0 (by omega) (by decide)) rfl (by decide) rfl ⟨_, rfl⟩ rfl ⟨Nat.le_of_ble_eq_true rfl, Nat.le_of_ble_eq_true rfl⟩ (Nat.le_of_ble_eq_true rfl) (Nat.le_of_ble_eq_true rfl) rfl (by exact Nat.le_of_ble_eq_true rfl) (fun x9 σ1 hp => ?_)
  obtain ⟨rfl, rfl⟩ := hp
  refine g_aload_0 (pc := 6) X dX1_sameBook_6 ?_
  refine g_iload_2 (pc := 7) X dX1_sameBook_7 ?_
  refine g_iconst (pc := 8) X dX1_sameBook_8 kiconst_0 ?_
  refine g_callV_I (pc := 9) X Y dX1_sameBook_9 miX1_trait li_X1_22 (s_trait hR c 0 (by omega) (by decide)) rfl (by decide) rfl ⟨_, rfl⟩ rfl ⟨Nat.le_of_ble_eq_true rfl, Nat.le_of_ble_eq_true rfl⟩ (Nat.le_of_ble_eq_true rfl) (Nat.le_of_ble_eq_true rfl) rfl (by exact Nat.le_of_ble_eq_true rfl) (fun x9 σ1 hp => ?_)
  obtain ⟨rfl, rfl⟩ := hp
  refine g_icmp_ne (pc := 12) X dX1_sameBook_12 (tgt := 19) (by decide) (fun h12 => ?_) (fun h12 => ?_)
  · refine g_iconst (pc := 19) X dX1_sameBook_19 kiconst_0 ?_
    exact g_zreturn (pc := 20) X Y dX1_sameBook_20 (by first | exact Or.inl rfl | exact Or.inr rfl | exact zI_01 _) (Nat.le_of_ble_eq_true rfl) (Nat.le_of_ble_eq_true rfl) (⟨_, rfl, by simp_all [zI], rfl⟩)
  · refine g_iconst (pc := 15) X dX1_sameBook_15 kiconst_1 ?_
    refine g_goto (pc := 16) X dX1_sameBook_16 (tgt := 20) (by decide) ?_
    exact g_zreturn (pc := 20) X Y dX1_sameBook_20 (by first | exact Or.inl rfl | exact Or.inr rfl | exact zI_01 _) (Nat.le_of_ble_eq_true rfl) (Nat.le_of_ble_eq_true rfl) (⟨_, rfl, by simp_all [zI], rfl⟩)
def cLike (σ : gSt) (a c : Nat) : Int32 := if σ.1 2 (a * 5 + 1) = σ.1 2 (c * 5 + 1) then nI 100 else σ.1 3 ((σ.1 2 (a * 5 + 1)).toNatClampNeg * 16 + (σ.1 2 (c * 5 + 1)).toNatClampNeg)
set_option maxHeartbeats 4000000 in
theorem s_likeOf {o : gOm} {l : Launch} {σ : gSt} {b : Bool} (hR : σ.2.2 = gRf b) (a c na nc : Nat) (ha : a < 30) (hc : c < 30) (h1 : σ.1 2 (a * 5 + 1) = nI na) (h2 : σ.1 2 (c * 5 + 1) = nI nc) (hna : na < 16) (hnc : nc < 16) : Sp o l mX1_likeOf 2 0 0 [.ref (ad o 1), .int (nI a), .int (nI c)] 116 116 σ (pI (fun x σ1 => x = (if na = nc then nI 100 else σ.1 3 (na * 16 + nc)) ∧ σ = σ1)) := by
  refine Sp.of (ls0 := [some (.ref (ad o 1)), some (.int (nI a)), some (.int (nI c)), none, none]) miX1_likeOf rfl (Nat.le_of_ble_eq_true rfl) rfl (fun γ hγ hnm X Y => ?_)
  subst hγ
  have X : gX o γ cX1_likeOf 5 RX1 := X
  refine g_aload_0 (pc := 0) X dX1_likeOf_0 ?_
  refine g_iload_1 (pc := 1) X dX1_likeOf_1 ?_
  refine g_iconst (pc := 2) X dX1_likeOf_2 kiconst_1 ?_
  refine g_callV_I (pc := 3) X Y dX1_likeOf_3 miX1_trait li_X1_22 (s_trait hR a 1 (by omega) (by decide)) rfl (by decide) rfl ⟨_, rfl⟩ rfl ⟨Nat.le_of_ble_eq_true rfl, Nat.le_of_ble_eq_true rfl⟩ (Nat.le_of_ble_eq_true rfl) (Nat.le_of_ble_eq_true rfl) rfl (by exact Nat.le_of_ble_eq_true rfl) (fun x9 σ1 hp => ?_)
  obtain ⟨rfl, rfl⟩ := hp
  rw [h1]
  refine g_istore_3 (pc := 6) X dX1_likeOf_6 (by decide) rfl ?_
  refine g_aload_0 (pc := 7) X dX1_likeOf_7 ?_
  refine g_iload_2 (pc := 8) X dX1_likeOf_8 ?_
  refine g_iconst (pc := 9) X dX1_likeOf_9 kiconst_1 ?_
  refine g_callV_I (pc := 10) X Y dX1_likeOf_10 miX1_trait li_X1_22 (s_trait hR c 1 (by omega) (by decide)) rfl (by decide) rfl ⟨_, rfl⟩ rfl ⟨Nat.le_of_ble_eq_true rfl, Nat.le_of_ble_eq_true rfl⟩ (Nat.le_of_ble_eq_true rfl) (Nat.le_of_ble_eq_true rfl) rfl (by exact Nat.le_of_ble_eq_true rfl) (fun x9 σ1 hp => ?_)
  obtain ⟨rfl, rfl⟩ := hp
  rw [h2]
  refine g_istore_4 (pc := 13) X dX1_likeOf_13 (by decide) rfl ?_
  refine g_iload_3 (pc := 15) X dX1_likeOf_15 ?_
  refine g_iload_4 (pc := 16) X dX1_likeOf_16 ?_
  first | refine g_icmp_ne_n (pc := 18) X dX1_likeOf_18 (tgt := 26) (by decide) (by omega) (by omega) (fun h18 => ?_) (fun h18 => ?_) | refine g_icmp_ne (pc := 18) X dX1_likeOf_18 (tgt := 26) (by decide) (fun h18 => ?_) (fun h18 => ?_)
  · refine g_aload_0 (pc := 26) X dX1_likeOf_26 ?_
    refine g_getRf (pc := 27) X dX1_likeOf_27 fl_X1_15 rfl (by decide) rfl hR rfl ?_
    refine g_iload_3 (pc := 30) X dX1_likeOf_30 ?_
    refine g_bipush (pc := 31) X dX1_likeOf_31 kbipush_16 ?_
    first | refine g_imul_n (pc := 33) X dX1_likeOf_33 ?_ | refine g_imul (pc := 33) X dX1_likeOf_33 ?_
    refine g_iload_4 (pc := 34) X dX1_likeOf_34 ?_
    first | refine g_iadd_n (pc := 36) X dX1_likeOf_36 ?_ | refine g_iadd (pc := 36) X dX1_likeOf_36 ?_
    refine g_iaload_n (pc := 37) X dX1_likeOf_37 rfl (by decide) (rfl) (by omega) ?_
    exact g_ireturn (pc := 38) X Y dX1_likeOf_38 (Nat.le_of_ble_eq_true rfl) (Nat.le_of_ble_eq_true rfl) (⟨_, rfl, by simp_all, rfl⟩)
  · refine g_bipush (pc := 21) X dX1_likeOf_21 kbipush_100 ?_
    refine g_goto (pc := 23) X dX1_likeOf_23 (tgt := 38) (by decide) ?_
    exact g_ireturn (pc := 38) X Y dX1_likeOf_38 (Nat.le_of_ble_eq_true rfl) (Nat.le_of_ble_eq_true rfl) (⟨_, rfl, by simp_all, rfl⟩)
set_option maxHeartbeats 4000000 in
theorem s_everyone {o : gOm} {l : Launch} {σ : gSt} {b : Bool} (hR : σ.2.2 = gRf b) (N : Nat) (hN : N ≤ 30) (hsz : σ.1 1 0 = nI N) : Sp o l mX1_everyone 1 0 0 [.ref (ad o 1)] 116 116 σ (pI (fun x σ1 => x = (nI 1 <<< (nI N &&& 31) - nI 1) ∧ σ = σ1)) := by
  refine Sp.of (ls0 := [some (.ref (ad o 1))]) miX1_everyone rfl (Nat.le_of_ble_eq_true rfl) rfl (fun γ hγ hnm X Y => ?_)
  subst hγ
  have X : gX o γ cX1_everyone 1 RX1 := X
  refine g_iconst (pc := 0) X dX1_everyone_0 kiconst_1 ?_
  refine g_aload_0 (pc := 1) X dX1_everyone_1 ?_
  refine g_getI (pc := 2) X dX1_everyone_2 rfl (by decide) fl_X1_18 (Or.inl rfl) ?_
  rw [hsz]
  refine g_ishl (pc := 5) X dX1_everyone_5 ?_
  refine g_iconst (pc := 6) X dX1_everyone_6 kiconst_1 ?_
  refine g_isub (pc := 7) X dX1_everyone_7 ?_
  exact g_ireturn (pc := 8) X Y dX1_everyone_8 (Nat.le_of_ble_eq_true rfl) (Nat.le_of_ble_eq_true rfl) (⟨_, rfl, rfl, rfl⟩)
