set_option maxHeartbeats 4000000 in
theorem s_setBit {o : gOm} {l : Launch} {σ : gSt} {k len a c : Nat} {on : Bool} (hk : k < 116) (hlay : lay k = (0, len)) (ha : a < len) (hc : c < len) (hl : len ≤ 32) : Sp o l mX11_setBit 1 0 0 [.ref (ad o k), .int (nI a), .int (nI c), .int (zI on)] 116 116 σ (pV (fun σ1 => Off [k] σ σ1 ∧ rowSet (σ.1 k) (σ1.1 k) a c on)) := by
  refine Sp.of (ls0 := [some (.ref (ad o k)), some (.int (nI a)), some (.int (nI c)), some (.int (zI on))]) miX11_setBit rfl (Nat.le_of_ble_eq_true rfl) rfl (fun γ hγ hnm X Y => ?_)
  subst hγ
  have X : gX o γ cX11_setBit 4 RX11 := X
  refine g_iload_3 (pc := 0) X dX11_setBit_0 ?_
  first | refine g_if_eq_z (pc := 1) X dX11_setBit_1 (tgt := 25) (by decide) (fun h1 => ?_) (fun h1 => ?_) | refine g_if_eq (pc := 1) X dX11_setBit_1 (tgt := 25) (by decide) (fun h1 => ?_) (fun h1 => ?_)
  · refine g_aload_0 (pc := 25) X dX11_setBit_25 ?_
    refine g_iload_1 (pc := 26) X dX11_setBit_26 ?_
    refine g_dup2 (pc := 27) X dX11_setBit_27 rfl rfl ?_
    refine g_iaload_n (pc := 28) X dX11_setBit_28 hlay hk (rfl) (by omega) ?_
    refine g_iconst (pc := 29) X dX11_setBit_29 kiconst_1 ?_
    refine g_iload_2 (pc := 30) X dX11_setBit_30 ?_
    refine g_ishl (pc := 31) X dX11_setBit_31 ?_
    refine g_iconst (pc := 32) X dX11_setBit_32 kiconst_m1 ?_
    refine g_ixor (pc := 33) X dX11_setBit_33 ?_
    refine g_iand (pc := 34) X dX11_setBit_34 ?_
    refine g_iastore_n (pc := 35) X dX11_setBit_35 hlay hk (rfl) (by omega) ?_
    refine g_aload_0 (pc := 36) X dX11_setBit_36 ?_
    refine g_iload_2 (pc := 37) X dX11_setBit_37 ?_
    refine g_dup2 (pc := 38) X dX11_setBit_38 rfl rfl ?_
    refine g_iaload_n (pc := 39) X dX11_setBit_39 hlay hk (rfl) (by omega) ?_
    refine g_iconst (pc := 40) X dX11_setBit_40 kiconst_1 ?_
    refine g_iload_1 (pc := 41) X dX11_setBit_41 ?_
    refine g_ishl (pc := 42) X dX11_setBit_42 ?_
    refine g_iconst (pc := 43) X dX11_setBit_43 kiconst_m1 ?_
    refine g_ixor (pc := 44) X dX11_setBit_44 ?_
    refine g_iand (pc := 45) X dX11_setBit_45 ?_
    refine g_iastore_n (pc := 46) X dX11_setBit_46 hlay hk (rfl) (by omega) ?_
    exact g_return (pc := 47) X Y dX11_setBit_47 (Nat.le_of_ble_eq_true rfl) (Nat.le_of_ble_eq_true rfl) ⟨rfl, (Off.rf.i (by simp)).i (by simp), by rw [sI_k, sI_k, h1]; exact rowSet_off (by omega) (by omega)⟩
  · refine g_aload_0 (pc := 4) X dX11_setBit_4 ?_
    refine g_iload_1 (pc := 5) X dX11_setBit_5 ?_
    refine g_dup2 (pc := 6) X dX11_setBit_6 rfl rfl ?_
    refine g_iaload_n (pc := 7) X dX11_setBit_7 hlay hk (rfl) (by omega) ?_
    refine g_iconst (pc := 8) X dX11_setBit_8 kiconst_1 ?_
    refine g_iload_2 (pc := 9) X dX11_setBit_9 ?_
    refine g_ishl (pc := 10) X dX11_setBit_10 ?_
    refine g_ior (pc := 11) X dX11_setBit_11 ?_
    refine g_iastore_n (pc := 12) X dX11_setBit_12 hlay hk (rfl) (by omega) ?_
    refine g_aload_0 (pc := 13) X dX11_setBit_13 ?_
    refine g_iload_2 (pc := 14) X dX11_setBit_14 ?_
    refine g_dup2 (pc := 15) X dX11_setBit_15 rfl rfl ?_
    refine g_iaload_n (pc := 16) X dX11_setBit_16 hlay hk (rfl) (by omega) ?_
    refine g_iconst (pc := 17) X dX11_setBit_17 kiconst_1 ?_
    refine g_iload_1 (pc := 18) X dX11_setBit_18 ?_
    refine g_ishl (pc := 19) X dX11_setBit_19 ?_
    refine g_ior (pc := 20) X dX11_setBit_20 ?_
    refine g_iastore_n (pc := 21) X dX11_setBit_21 hlay hk (rfl) (by omega) ?_
    refine g_goto (pc := 22) X dX11_setBit_22 (tgt := 47) (by decide) ?_
    exact g_return (pc := 47) X Y dX11_setBit_47 (Nat.le_of_ble_eq_true rfl) (Nat.le_of_ble_eq_true rfl) ⟨rfl, (Off.rf.i (by simp)).i (by simp), by rw [sI_k, sI_k, h1]; exact rowSet_on (by omega) (by omega)⟩
set_option maxHeartbeats 4000000 in
theorem s_pull {o : gOm} {l : Launch} {σ : gSt} {b : Bool} (hR : σ.2.2 = gRf b) (a c : Nat) (ha : a < 30) (hc : c < 30) : Sp o l mX4_pull 1 0 0 [.ref (ad o 16), .int (nI a), .int (nI c)] 116 116 σ (pI (fun x σ1 => x = (σ.1 24 (a * 30 + c)) ∧ σ = σ1)) := by
  refine Sp.of (ls0 := [some (.ref (ad o 16)), some (.int (nI a)), some (.int (nI c))]) miX4_pull rfl (Nat.le_of_ble_eq_true rfl) rfl (fun γ hγ hnm X Y => ?_)
  subst hγ
  have X : gX o γ cX4_pull 3 RX4 := X
  refine g_aload_0 (pc := 0) X dX4_pull_0 ?_
  refine g_getRf (pc := 1) X dX4_pull_1 fl_X4_18 rfl (by decide) rfl hR rfl ?_
  refine g_iload_1 (pc := 4) X dX4_pull_4 ?_
  refine g_bipush (pc := 5) X dX4_pull_5 kbipush_30 ?_
  first | refine g_imul_n (pc := 7) X dX4_pull_7 ?_ | refine g_imul (pc := 7) X dX4_pull_7 ?_
  refine g_iload_2 (pc := 8) X dX4_pull_8 ?_
  first | refine g_iadd_n (pc := 9) X dX4_pull_9 ?_ | refine g_iadd (pc := 9) X dX4_pull_9 ?_
  refine g_iaload_n (pc := 10) X dX4_pull_10 rfl (by decide) (rfl) (by omega) ?_
  exact g_ireturn (pc := 11) X Y dX4_pull_11 (Nat.le_of_ble_eq_true rfl) (Nat.le_of_ble_eq_true rfl) (⟨_, rfl, rfl, rfl⟩)
set_option maxHeartbeats 4000000 in
theorem s_reasons {o : gOm} {l : Launch} {σ : gSt} {b : Bool} (hR : σ.2.2 = gRf b) (a c : Nat) (ha : a < 30) (hc : c < 30) : Sp o l mX4_reasons 1 0 0 [.ref (ad o 16), .int (nI a), .int (nI c)] 116 116 σ (pI (fun x σ1 => x = (σ.1 25 (a * 30 + c)) ∧ σ = σ1)) := by
  refine Sp.of (ls0 := [some (.ref (ad o 16)), some (.int (nI a)), some (.int (nI c))]) miX4_reasons rfl (Nat.le_of_ble_eq_true rfl) rfl (fun γ hγ hnm X Y => ?_)
  subst hγ
  have X : gX o γ cX4_reasons 3 RX4 := X
  refine g_aload_0 (pc := 0) X dX4_reasons_0 ?_
  refine g_getRf (pc := 1) X dX4_reasons_1 fl_X4_22 rfl (by decide) rfl hR rfl ?_
  refine g_iload_1 (pc := 4) X dX4_reasons_4 ?_
  refine g_bipush (pc := 5) X dX4_reasons_5 kbipush_30 ?_
  first | refine g_imul_n (pc := 7) X dX4_reasons_7 ?_ | refine g_imul (pc := 7) X dX4_reasons_7 ?_
  refine g_iload_2 (pc := 8) X dX4_reasons_8 ?_
  first | refine g_iadd_n (pc := 9) X dX4_reasons_9 ?_ | refine g_iadd (pc := 9) X dX4_reasons_9 ?_
  refine g_iaload_n (pc := 10) X dX4_reasons_10 rfl (by decide) (rfl) (by omega) ?_
  exact g_ireturn (pc := 11) X Y dX4_reasons_11 (Nat.le_of_ble_eq_true rfl) (Nat.le_of_ble_eq_true rfl) (⟨_, rfl, rfl, rfl⟩)
set_option maxHeartbeats 4000000 in
theorem s_isNever {o : gOm} {l : Launch} {σ : gSt} {b : Bool} (hR : σ.2.2 = gRf b) (a c : Nat) (ha : a < 30) (hc : c < 30) : Sp o l mX4_isNever 1 0 0 [.ref (ad o 16), .int (nI a), .int (nI c)] 116 116 σ (pI (fun x σ1 => x = (zI (bt (σ.1 26 a) c)) ∧ σ = σ1)) := by
  refine Sp.of (ls0 := [some (.ref (ad o 16)), some (.int (nI a)), some (.int (nI c))]) miX4_isNever rfl (Nat.le_of_ble_eq_true rfl) rfl (fun γ hγ hnm X Y => ?_)
  subst hγ
  have X : gX o γ cX4_isNever 3 RX4 := X
  refine g_aload_0 (pc := 0) X dX4_isNever_0 ?_
  refine g_getRf (pc := 1) X dX4_isNever_1 fl_X4_25 rfl (by decide) rfl hR rfl ?_
  refine g_iload_1 (pc := 4) X dX4_isNever_4 ?_
  refine g_iaload_n (pc := 5) X dX4_isNever_5 rfl (by decide) (rfl) (by omega) ?_
  refine g_iload_2 (pc := 6) X dX4_isNever_6 ?_
  refine g_iushr (pc := 7) X dX4_isNever_7 ?_
  refine g_iconst (pc := 8) X dX4_isNever_8 kiconst_1 ?_
  refine g_iand (pc := 9) X dX4_isNever_9 ?_
  refine g_if_eq (pc := 10) X dX4_isNever_10 (tgt := 17) (by decide) (fun h10 => ?_) (fun h10 => ?_)
  · have w := (bit_test (by omega)).mp h10
    refine g_iconst (pc := 17) X dX4_isNever_17 kiconst_0 ?_
    exact g_zreturn (pc := 18) X Y dX4_isNever_18 (by first | exact Or.inl rfl | exact Or.inr rfl | exact zI_01 _) (Nat.le_of_ble_eq_true rfl) (Nat.le_of_ble_eq_true rfl) (⟨_, rfl, by simp_all [zI], rfl⟩)
  · have w := mt (bit_test (by omega)).mpr h10
    refine g_iconst (pc := 13) X dX4_isNever_13 kiconst_1 ?_
    refine g_goto (pc := 14) X dX4_isNever_14 (tgt := 18) (by decide) ?_
    exact g_zreturn (pc := 18) X Y dX4_isNever_18 (by first | exact Or.inl rfl | exact Or.inr rfl | exact zI_01 _) (Nat.le_of_ble_eq_true rfl) (Nat.le_of_ble_eq_true rfl) (⟨_, rfl, by simp_all [zI], rfl⟩)
set_option maxHeartbeats 4000000 in
theorem s_isByHand {o : gOm} {l : Launch} {σ : gSt} {b : Bool} (hR : σ.2.2 = gRf b) (a c : Nat) (ha : a < 30) (hc : c < 30) : Sp o l mX4_isByHand 1 0 0 [.ref (ad o 16), .int (nI a), .int (nI c)] 116 116 σ (pI (fun x σ1 => x = (zI (bt (σ.1 28 a) c)) ∧ σ = σ1)) := by
  refine Sp.of (ls0 := [some (.ref (ad o 16)), some (.int (nI a)), some (.int (nI c))]) miX4_isByHand rfl (Nat.le_of_ble_eq_true rfl) rfl (fun γ hγ hnm X Y => ?_)
  subst hγ
  have X : gX o γ cX4_isByHand 3 RX4 := X
  refine g_aload_0 (pc := 0) X dX4_isByHand_0 ?_
  refine g_getRf (pc := 1) X dX4_isByHand_1 fl_X4_31 rfl (by decide) rfl hR rfl ?_
  refine g_iload_1 (pc := 4) X dX4_isByHand_4 ?_
  refine g_iaload_n (pc := 5) X dX4_isByHand_5 rfl (by decide) (rfl) (by omega) ?_
  refine g_iload_2 (pc := 6) X dX4_isByHand_6 ?_
  refine g_iushr (pc := 7) X dX4_isByHand_7 ?_
  refine g_iconst (pc := 8) X dX4_isByHand_8 kiconst_1 ?_
  refine g_iand (pc := 9) X dX4_isByHand_9 ?_
  refine g_if_eq (pc := 10) X dX4_isByHand_10 (tgt := 17) (by decide) (fun h10 => ?_) (fun h10 => ?_)
  · have w := (bit_test (by omega)).mp h10
    refine g_iconst (pc := 17) X dX4_isByHand_17 kiconst_0 ?_
    exact g_zreturn (pc := 18) X Y dX4_isByHand_18 (by first | exact Or.inl rfl | exact Or.inr rfl | exact zI_01 _) (Nat.le_of_ble_eq_true rfl) (Nat.le_of_ble_eq_true rfl) (⟨_, rfl, by simp_all [zI], rfl⟩)
  · have w := mt (bit_test (by omega)).mpr h10
    refine g_iconst (pc := 13) X dX4_isByHand_13 kiconst_1 ?_
    refine g_goto (pc := 14) X dX4_isByHand_14 (tgt := 18) (by decide) ?_
    exact g_zreturn (pc := 18) X Y dX4_isByHand_18 (by first | exact Or.inl rfl | exact Or.inr rfl | exact zI_01 _) (Nat.le_of_ble_eq_true rfl) (Nat.le_of_ble_eq_true rfl) (⟨_, rfl, by simp_all [zI], rfl⟩)
set_option maxHeartbeats 4000000 in
theorem s_room {o : gOm} {l : Launch} {σ : gSt} {b : Bool} (hR : σ.2.2 = gRf b) (m : Nat) (hm : m ≤ 30) (h : σ.1 30 5 = nI m) : Sp o l mX3_roomOfHeap 1 0 0 [.ref (ad o 30)] 116 116 σ (pI (fun x σ1 => x = (nI (if m = 0 then 30 else m)) ∧ σ = σ1)) := by
  refine Sp.of (ls0 := [some (.ref (ad o 30))]) miX3_roomOfHeap rfl (Nat.le_of_ble_eq_true rfl) rfl (fun γ hγ hnm X Y => ?_)
  subst hγ
  have X : gX o γ cX3_roomOfHeap 1 RX3 := X
  refine g_aload_0 (pc := 0) X dX3_roomOfHeap_0 ?_
  refine g_getI (pc := 1) X dX3_roomOfHeap_1 rfl (by decide) fl_X3_30 (Or.inl rfl) ?_
  rw [h]
  refine g_if_ne_n (pc := 4) X dX3_roomOfHeap_4 (tgt := 12) (by decide) (by omega) (fun h4 => ?_) (fun h4 => ?_)
  · refine g_aload_0 (pc := 12) X dX3_roomOfHeap_12 ?_
    refine g_getI (pc := 13) X dX3_roomOfHeap_13 rfl (by decide) fl_X3_30 (Or.inl rfl) ?_
    rw [h]
    exact g_ireturn (pc := 16) X Y dX3_roomOfHeap_16 (Nat.le_of_ble_eq_true rfl) (Nat.le_of_ble_eq_true rfl) (⟨_, rfl, by simp [h4], rfl⟩)
  · refine g_bipush (pc := 7) X dX3_roomOfHeap_7 kbipush_30 ?_
    refine g_goto (pc := 9) X dX3_roomOfHeap_9 (tgt := 16) (by decide) ?_
    exact g_ireturn (pc := 16) X Y dX3_roomOfHeap_16 (Nat.le_of_ble_eq_true rfl) (Nat.le_of_ble_eq_true rfl) (⟨_, rfl, by simp [h4], rfl⟩)
set_option maxHeartbeats 4000000 in
theorem s_isFixed {o : gOm} {l : Launch} {σ : gSt} {b : Bool} (hR : σ.2.2 = gRf b) (a c : Nat) (ha : a < 30) (hc : c < 30) : Sp o l mX3_isFixed 1 0 0 [.ref (ad o 30), .int (nI a), .int (nI c)] 116 116 σ (pI (fun x σ1 => x = (zI (bt (σ.1 31 a) c || bt (σ.1 32 a) c)) ∧ σ = σ1)) := by
  refine Sp.of (ls0 := [some (.ref (ad o 30)), some (.int (nI a)), some (.int (nI c))]) miX3_isFixed rfl (Nat.le_of_ble_eq_true rfl) rfl (fun γ hγ hnm X Y => ?_)
  subst hγ
  have X : gX o γ cX3_isFixed 3 RX3 := X
  refine g_aload_0 (pc := 0) X dX3_isFixed_0 ?_
  refine g_getRf (pc := 1) X dX3_isFixed_1 fl_X3_9 rfl (by decide) rfl hR rfl ?_
  refine g_iload_1 (pc := 4) X dX3_isFixed_4 ?_
  refine g_iaload_n (pc := 5) X dX3_isFixed_5 rfl (by decide) (rfl) (by omega) ?_
  refine g_aload_0 (pc := 6) X dX3_isFixed_6 ?_
  refine g_getRf (pc := 7) X dX3_isFixed_7 fl_X3_15 rfl (by decide) rfl hR rfl ?_
  refine g_iload_1 (pc := 10) X dX3_isFixed_10 ?_
  refine g_iaload_n (pc := 11) X dX3_isFixed_11 rfl (by decide) (rfl) (by omega) ?_
  refine g_ior (pc := 12) X dX3_isFixed_12 ?_
  refine g_iload_2 (pc := 13) X dX3_isFixed_13 ?_
  refine g_iushr (pc := 14) X dX3_isFixed_14 ?_
  refine g_iconst (pc := 15) X dX3_isFixed_15 kiconst_1 ?_
  refine g_iand (pc := 16) X dX3_isFixed_16 ?_
  refine g_if_eq (pc := 17) X dX3_isFixed_17 (tgt := 24) (by decide) (fun h17 => ?_) (fun h17 => ?_)
  · have w := (bit_test (by omega)).mp h17
    rw [b_or] at w
    refine g_iconst (pc := 24) X dX3_isFixed_24 kiconst_0 ?_
    exact g_zreturn (pc := 25) X Y dX3_isFixed_25 (by first | exact Or.inl rfl | exact Or.inr rfl | exact zI_01 _) (Nat.le_of_ble_eq_true rfl) (Nat.le_of_ble_eq_true rfl) (⟨_, rfl, by rw [w]; rfl, rfl⟩)
  · have w := mt (bit_test (by omega)).mpr h17
    rw [b_or] at w
    replace w := (Bool.not_eq_false _).mp w
    refine g_iconst (pc := 20) X dX3_isFixed_20 kiconst_1 ?_
    refine g_goto (pc := 21) X dX3_isFixed_21 (tgt := 25) (by decide) ?_
    exact g_zreturn (pc := 25) X Y dX3_isFixed_25 (by first | exact Or.inl rfl | exact Or.inr rfl | exact zI_01 _) (Nat.le_of_ble_eq_true rfl) (Nat.le_of_ble_eq_true rfl) (⟨_, rfl, by rw [w]; rfl, rfl⟩)
