set_option maxHeartbeats 4000000 in
theorem s_newLaws {o : gOm} {l : Launch} {σ : gSt} : Sp o l mX3_init 2 2 60 [.ref (ad o 30), .ref (ad o 1), .ref (ad o 16)] 31 33 σ (pV (fun σ1 => σ1 = (sR (sR (sI (sR (sZ (sR (sZ σ 31) 30 0 (some 31)) 32) 30 1 (some 32)) 30 7 (-1)) 30 3 (some 1)) 30 4 (some 16)))) := by
  refine Sp.of (ls0 := [some (.ref (ad o 30)), some (.ref (ad o 1)), some (.ref (ad o 16))]) miX3_init rfl (Nat.le_of_ble_eq_true rfl) rfl (fun γ hγ hnm X Y => ?_)
  subst hγ
  have X : gX o γ cX3_init 3 RX3 := X
  refine g_aload_0 (pc := 0) X dX3_init_0 ?_
  refine g_objInit (pc := 1) X Y dX3_init_1 oi_X3 (by decide) (Nat.le_of_ble_eq_true rfl) ?_
  refine g_aload_0 (pc := 4) X dX3_init_4 ?_
  refine g_bipush (pc := 5) X dX3_init_5 kbipush_30 ?_
  refine g_newai (pc := 7) X Y dX3_init_7 rfl (by decide) (by decide) (by decide) ?_
  refine g_putRF (pc := 9) X hnm dX3_init_9 fl_X3_9 rfl (by decide) rfl rfl rfl ?_
  refine g_aload_0 (pc := 12) X dX3_init_12 ?_
  refine g_bipush (pc := 13) X dX3_init_13 kbipush_30 ?_
  refine g_newai (pc := 15) X Y dX3_init_15 rfl (by decide) (by decide) (by decide) ?_
  refine g_putRF (pc := 17) X hnm dX3_init_17 fl_X3_15 rfl (by decide) rfl rfl rfl ?_
  refine g_aload_0 (pc := 20) X dX3_init_20 ?_
  refine g_iconst (pc := 21) X dX3_init_21 kiconst_m1 ?_
  refine g_putI (pc := 22) X dX3_init_22 fl_X3_18 rfl (by decide) rfl rfl ?_
  refine g_aload_0 (pc := 25) X dX3_init_25 ?_
  refine g_aload_1 (pc := 26) X dX3_init_26 ?_
  refine g_putRF (pc := 27) X hnm dX3_init_27 fl_X3_22 rfl (by decide) rfl rfl rfl ?_
  refine g_aload_0 (pc := 30) X dX3_init_30 ?_
  refine g_aload_2 (pc := 31) X dX3_init_31 ?_
  refine g_putRF (pc := 32) X hnm dX3_init_32 fl_X3_26 rfl (by decide) rfl rfl rfl ?_
  exact g_return (pc := 35) X Y dX3_init_35 (Nat.le_of_ble_eq_true rfl) (Nat.le_of_ble_eq_true rfl) (⟨rfl, rfl⟩)
set_option maxHeartbeats 4000000 in
theorem s_newHand {o : gOm} {l : Launch} {σ : gSt} : Sp o l mX2_init 2 4 247 [.ref (ad o 33), .ref (ad o 16), .ref (ad o 30)] 34 38 σ (pV (fun σ1 => σ1 = (sR (sR (sR (sZ (sR (sZ (sR (sZ (sR (sZ σ 34) 33 0 (some 34)) 35) 33 5 (some 35)) 36) 33 6 (some 36)) 37) 33 7 (some 37)) 33 3 (some 16)) 33 4 (some 30)))) := by
  refine Sp.of (ls0 := [some (.ref (ad o 33)), some (.ref (ad o 16)), some (.ref (ad o 30))]) miX2_init rfl (Nat.le_of_ble_eq_true rfl) rfl (fun γ hγ hnm X Y => ?_)
  subst hγ
  have X : gX o γ cX2_init 3 RX2 := X
  refine g_aload_0 (pc := 0) X dX2_init_0 ?_
  refine g_objInit (pc := 1) X Y dX2_init_1 oi_X2 (by decide) (Nat.le_of_ble_eq_true rfl) ?_
  refine g_aload_0 (pc := 4) X dX2_init_4 ?_
  refine g_bipush (pc := 5) X dX2_init_5 kbipush_30 ?_
  refine g_newai (pc := 7) X Y dX2_init_7 rfl (by decide) (by decide) (by decide) ?_
  refine g_putRF (pc := 9) X hnm dX2_init_9 fl_X2_9 rfl (by decide) rfl rfl rfl ?_
  refine g_aload_0 (pc := 12) X dX2_init_12 ?_
  refine g_bipush (pc := 13) X dX2_init_13 kbipush_31 ?_
  refine g_newai (pc := 15) X Y dX2_init_15 rfl (by decide) (by decide) (by decide) ?_
  refine g_putRF (pc := 17) X hnm dX2_init_17 fl_X2_15 rfl (by decide) rfl rfl rfl ?_
  refine g_aload_0 (pc := 20) X dX2_init_20 ?_
  refine g_sipush (pc := 21) X dX2_init_21 ksipush_180 ?_
  refine g_newai (pc := 24) X Y dX2_init_24 rfl (by decide) (by decide) (by decide) ?_
  refine g_putRF (pc := 26) X hnm dX2_init_26 fl_X2_18 rfl (by decide) rfl rfl rfl ?_
  refine g_aload_0 (pc := 29) X dX2_init_29 ?_
  refine g_bipush (pc := 30) X dX2_init_30 kbipush_6 ?_
  refine g_newai (pc := 32) X Y dX2_init_32 rfl (by decide) (by decide) (by decide) ?_
  refine g_putRF (pc := 34) X hnm dX2_init_34 fl_X2_21 rfl (by decide) rfl rfl rfl ?_
  refine g_aload_0 (pc := 37) X dX2_init_37 ?_
  refine g_aload_1 (pc := 38) X dX2_init_38 ?_
  refine g_putRF (pc := 39) X hnm dX2_init_39 fl_X2_24 rfl (by decide) rfl rfl rfl ?_
  refine g_aload_0 (pc := 42) X dX2_init_42 ?_
  refine g_aload_2 (pc := 43) X dX2_init_43 ?_
  refine g_putRF (pc := 44) X hnm dX2_init_44 fl_X2_28 rfl (by decide) rfl rfl rfl ?_
  exact g_return (pc := 47) X Y dX2_init_47 (Nat.le_of_ble_eq_true rfl) (Nat.le_of_ble_eq_true rfl) (⟨rfl, rfl⟩)
set_option maxHeartbeats 4000000 in
theorem s_newChanges {o : gOm} {l : Launch} {σ : gSt} : Sp o l mX0_init 2 3 960 [.ref (ad o 38), .ref (ad o 33), .ref (ad o 16), .ref (ad o 30)] 39 42 σ (pV (fun σ1 => σ1 = (sR (sR (sR (sR (sZ (sR (sZ (sR (sZ σ 39) 38 8 (some 39)) 40) 38 9 (some 40)) 41) 38 10 (some 41)) 38 4 (some 33)) 38 5 (some 16)) 38 6 (some 30)))) := by
  refine Sp.of (ls0 := [some (.ref (ad o 38)), some (.ref (ad o 33)), some (.ref (ad o 16)), some (.ref (ad o 30))]) miX0_init rfl (Nat.le_of_ble_eq_true rfl) rfl (fun γ hγ hnm X Y => ?_)
  subst hγ
  have X : gX o γ cX0_init 4 RX0 := X
  refine g_aload_0 (pc := 0) X dX0_init_0 ?_
  refine g_objInit (pc := 1) X Y dX0_init_1 oi_X0 (by decide) (Nat.le_of_ble_eq_true rfl) ?_
  refine g_aload_0 (pc := 4) X dX0_init_4 ?_
  refine g_bipush (pc := 5) X dX0_init_5 kbipush_30 ?_
  refine g_newai (pc := 7) X Y dX0_init_7 rfl (by decide) (by decide) (by decide) ?_
  refine g_putRF (pc := 9) X hnm dX0_init_9 fl_X0_9 rfl (by decide) rfl rfl rfl ?_
  refine g_aload_0 (pc := 12) X dX0_init_12 ?_
  refine g_bipush (pc := 13) X dX0_init_13 kbipush_30 ?_
  refine g_newai (pc := 15) X Y dX0_init_15 rfl (by decide) (by decide) (by decide) ?_
  refine g_putRF (pc := 17) X hnm dX0_init_17 fl_X0_15 rfl (by decide) rfl rfl rfl ?_
  refine g_aload_0 (pc := 20) X dX0_init_20 ?_
  refine g_sipush (pc := 21) X dX0_init_21 ksipush_900 ?_
  refine g_newai (pc := 24) X Y dX0_init_24 rfl (by decide) (by decide) (by decide) ?_
  refine g_putRF (pc := 26) X hnm dX0_init_26 fl_X0_18 rfl (by decide) rfl rfl rfl ?_
  refine g_aload_0 (pc := 29) X dX0_init_29 ?_
  refine g_aload_1 (pc := 30) X dX0_init_30 ?_
  refine g_putRF (pc := 31) X hnm dX0_init_31 fl_X0_21 rfl (by decide) rfl rfl rfl ?_
  refine g_aload_0 (pc := 34) X dX0_init_34 ?_
  refine g_aload_2 (pc := 35) X dX0_init_35 ?_
  refine g_putRF (pc := 36) X hnm dX0_init_36 fl_X0_25 rfl (by decide) rfl rfl rfl ?_
  refine g_aload_0 (pc := 39) X dX0_init_39 ?_
  refine g_aload_3 (pc := 40) X dX0_init_40 ?_
  refine g_putRF (pc := 41) X hnm dX0_init_41 fl_X0_29 rfl (by decide) rfl rfl rfl ?_
  exact g_return (pc := 44) X Y dX0_init_44 (Nat.le_of_ble_eq_true rfl) (Nat.le_of_ble_eq_true rfl) (⟨rfl, rfl⟩)
set_option maxHeartbeats 4000000 in
theorem s_newRings {o : gOm} {l : Launch} {σ : gSt} : Sp o l mX8_init 2 3 1804 [.ref (ad o 42), .ref (ad o 16)] 43 46 σ (pV (fun σ1 => σ1 = (sR (sR (sZ (sR (sZ (sR (sZ σ 43) 42 4 (some 43)) 44) 42 5 (some 44)) 45) 42 6 (some 45)) 42 3 (some 16)))) := by
  refine Sp.of (ls0 := [some (.ref (ad o 42)), some (.ref (ad o 16))]) miX8_init rfl (Nat.le_of_ble_eq_true rfl) rfl (fun γ hγ hnm X Y => ?_)
  subst hγ
  have X : gX o γ cX8_init 2 RX8 := X
  refine g_aload_0 (pc := 0) X dX8_init_0 ?_
  refine g_objInit (pc := 1) X Y dX8_init_1 oi_X8 (by decide) (Nat.le_of_ble_eq_true rfl) ?_
  refine g_aload_0 (pc := 4) X dX8_init_4 ?_
  refine g_sipush (pc := 5) X dX8_init_5 ksipush_900 ?_
  refine g_newai (pc := 8) X Y dX8_init_8 rfl (by decide) (by decide) (by decide) ?_
  refine g_putRF (pc := 10) X hnm dX8_init_10 fl_X8_9 rfl (by decide) rfl rfl rfl ?_
  refine g_aload_0 (pc := 13) X dX8_init_13 ?_
  refine g_sipush (pc := 14) X dX8_init_14 ksipush_900 ?_
  refine g_newai (pc := 17) X Y dX8_init_17 rfl (by decide) (by decide) (by decide) ?_
  refine g_putRF (pc := 19) X hnm dX8_init_19 fl_X8_15 rfl (by decide) rfl rfl rfl ?_
  refine g_aload_0 (pc := 22) X dX8_init_22 ?_
  refine g_iconst (pc := 23) X dX8_init_23 kiconst_4 ?_
  refine g_newai (pc := 24) X Y dX8_init_24 rfl (by decide) (by decide) (by decide) ?_
  refine g_putRF (pc := 26) X hnm dX8_init_26 fl_X8_18 rfl (by decide) rfl rfl rfl ?_
  refine g_aload_0 (pc := 29) X dX8_init_29 ?_
  refine g_aload_1 (pc := 30) X dX8_init_30 ?_
  refine g_putRF (pc := 31) X hnm dX8_init_31 fl_X8_21 rfl (by decide) rfl rfl rfl ?_
  exact g_return (pc := 34) X Y dX8_init_34 (Nat.le_of_ble_eq_true rfl) (Nat.le_of_ble_eq_true rfl) (⟨rfl, rfl⟩)
set_option maxHeartbeats 4000000 in
theorem s_newParts {o : gOm} {l : Launch} {σ : gSt} : Sp o l mX6_init 2 3 90 [.ref (ad o 46), .ref (ad o 16), .ref (ad o 30)] 47 50 σ (pV (fun σ1 => σ1 = (sR (sR (sR (sZ (sR (sZ (sR (sZ σ 47) 46 0 (some 47)) 48) 46 3 (some 48)) 49) 46 4 (some 49)) 46 1 (some 16)) 46 2 (some 30)))) := by
  refine Sp.of (ls0 := [some (.ref (ad o 46)), some (.ref (ad o 16)), some (.ref (ad o 30))]) miX6_init rfl (Nat.le_of_ble_eq_true rfl) rfl (fun γ hγ hnm X Y => ?_)
  subst hγ
  have X : gX o γ cX6_init 3 RX6 := X
  refine g_aload_0 (pc := 0) X dX6_init_0 ?_
  refine g_objInit (pc := 1) X Y dX6_init_1 oi_X6 (by decide) (Nat.le_of_ble_eq_true rfl) ?_
  refine g_aload_0 (pc := 4) X dX6_init_4 ?_
  refine g_bipush (pc := 5) X dX6_init_5 kbipush_30 ?_
  refine g_newai (pc := 7) X Y dX6_init_7 rfl (by decide) (by decide) (by decide) ?_
  refine g_putRF (pc := 9) X hnm dX6_init_9 fl_X6_9 rfl (by decide) rfl rfl rfl ?_
  refine g_aload_0 (pc := 12) X dX6_init_12 ?_
  refine g_bipush (pc := 13) X dX6_init_13 kbipush_30 ?_
  refine g_newai (pc := 15) X Y dX6_init_15 rfl (by decide) (by decide) (by decide) ?_
  refine g_putRF (pc := 17) X hnm dX6_init_17 fl_X6_15 rfl (by decide) rfl rfl rfl ?_
  refine g_aload_0 (pc := 20) X dX6_init_20 ?_
  refine g_bipush (pc := 21) X dX6_init_21 kbipush_30 ?_
  refine g_newai (pc := 23) X Y dX6_init_23 rfl (by decide) (by decide) (by decide) ?_
  refine g_putRF (pc := 25) X hnm dX6_init_25 fl_X6_18 rfl (by decide) rfl rfl rfl ?_
  refine g_aload_0 (pc := 28) X dX6_init_28 ?_
  refine g_aload_1 (pc := 29) X dX6_init_29 ?_
  refine g_putRF (pc := 30) X hnm dX6_init_30 fl_X6_21 rfl (by decide) rfl rfl rfl ?_
  refine g_aload_0 (pc := 33) X dX6_init_33 ?_
  refine g_aload_2 (pc := 34) X dX6_init_34 ?_
  refine g_putRF (pc := 35) X hnm dX6_init_35 fl_X6_25 rfl (by decide) rfl rfl rfl ?_
  exact g_return (pc := 38) X Y dX6_init_38 (Nat.le_of_ble_eq_true rfl) (Nat.le_of_ble_eq_true rfl) (⟨rfl, rfl⟩)
set_option maxHeartbeats 4000000 in
theorem s_newPart {o : gOm} {l : Launch} {σ : gSt} : Sp o l mX5_init 2 5 140 [.ref (ad o 50), .ref (ad o 16), .ref (ad o 30)] 51 56 σ (pV (fun σ1 => σ1 = (sR (sR (sR (sZ (sR (sZ (sR (sZ (sR (sZ (sR (sZ σ 51) 50 2 (some 51)) 52) 50 3 (some 52)) 53) 50 4 (some 53)) 54) 50 5 (some 54)) 55) 50 6 (some 55)) 50 7 (some 16)) 50 8 (some 30)))) := by
  refine Sp.of (ls0 := [some (.ref (ad o 50)), some (.ref (ad o 16)), some (.ref (ad o 30))]) miX5_init rfl (Nat.le_of_ble_eq_true rfl) rfl (fun γ hγ hnm X Y => ?_)
  subst hγ
  have X : gX o γ cX5_init 3 RX5 := X
  refine g_aload_0 (pc := 0) X dX5_init_0 ?_
  refine g_objInit (pc := 1) X Y dX5_init_1 oi_X5 (by decide) (Nat.le_of_ble_eq_true rfl) ?_
  refine g_aload_0 (pc := 4) X dX5_init_4 ?_
  refine g_bipush (pc := 5) X dX5_init_5 kbipush_10 ?_
  refine g_newai (pc := 7) X Y dX5_init_7 rfl (by decide) (by decide) (by decide) ?_
  refine g_putRF (pc := 9) X hnm dX5_init_9 fl_X5_9 rfl (by decide) rfl rfl rfl ?_
  refine g_aload_0 (pc := 12) X dX5_init_12 ?_
  refine g_bipush (pc := 13) X dX5_init_13 kbipush_100 ?_
  refine g_newai (pc := 15) X Y dX5_init_15 rfl (by decide) (by decide) (by decide) ?_
  refine g_putRF (pc := 17) X hnm dX5_init_17 fl_X5_15 rfl (by decide) rfl rfl rfl ?_
  refine g_aload_0 (pc := 20) X dX5_init_20 ?_
  refine g_bipush (pc := 21) X dX5_init_21 kbipush_10 ?_
  refine g_newai (pc := 23) X Y dX5_init_23 rfl (by decide) (by decide) (by decide) ?_
  refine g_putRF (pc := 25) X hnm dX5_init_25 fl_X5_18 rfl (by decide) rfl rfl rfl ?_
  refine g_aload_0 (pc := 28) X dX5_init_28 ?_
  refine g_bipush (pc := 29) X dX5_init_29 kbipush_10 ?_
  refine g_newai (pc := 31) X Y dX5_init_31 rfl (by decide) (by decide) (by decide) ?_
  refine g_putRF (pc := 33) X hnm dX5_init_33 fl_X5_21 rfl (by decide) rfl rfl rfl ?_
  refine g_aload_0 (pc := 36) X dX5_init_36 ?_
  refine g_bipush (pc := 37) X dX5_init_37 kbipush_10 ?_
  refine g_newai (pc := 39) X Y dX5_init_39 rfl (by decide) (by decide) (by decide) ?_
  refine g_putRF (pc := 41) X hnm dX5_init_41 fl_X5_24 rfl (by decide) rfl rfl rfl ?_
  refine g_aload_0 (pc := 44) X dX5_init_44 ?_
  refine g_aload_1 (pc := 45) X dX5_init_45 ?_
  refine g_putRF (pc := 46) X hnm dX5_init_46 fl_X5_27 rfl (by decide) rfl rfl rfl ?_
  refine g_aload_0 (pc := 49) X dX5_init_49 ?_
  refine g_aload_2 (pc := 50) X dX5_init_50 ?_
  refine g_putRF (pc := 51) X hnm dX5_init_51 fl_X5_31 rfl (by decide) rfl rfl rfl ?_
  exact g_return (pc := 54) X Y dX5_init_54 (Nat.le_of_ble_eq_true rfl) (Nat.le_of_ble_eq_true rfl) (⟨rfl, rfl⟩)
set_option maxHeartbeats 4000000 in
theorem s_newSearch {o : gOm} {l : Launch} {σ : gSt} : Sp o l mX10_init 2 6 251 [.ref (ad o 56), .ref (ad o 50)] 57 63 σ (pV (fun σ1 => σ1 = (sR (sR (sZ (sR (sZ (sR (sZ (sR (sZ (sR (sZ (sR (sZ σ 57) 56 4 (some 57)) 58) 56 5 (some 58)) 59) 56 6 (some 59)) 60) 56 7 (some 60)) 61) 56 8 (some 61)) 62) 56 9 (some 62)) 56 3 (some 50)))) := by
  refine Sp.of (ls0 := [some (.ref (ad o 56)), some (.ref (ad o 50))]) miX10_init rfl (Nat.le_of_ble_eq_true rfl) rfl (fun γ hγ hnm X Y => ?_)
  subst hγ
  have X : gX o γ cX10_init 2 RX10 := X
  refine g_aload_0 (pc := 0) X dX10_init_0 ?_
  refine g_objInit (pc := 1) X Y dX10_init_1 oi_X10 (by decide) (Nat.le_of_ble_eq_true rfl) ?_
  refine g_aload_0 (pc := 4) X dX10_init_4 ?_
  refine g_bipush (pc := 5) X dX10_init_5 kbipush_11 ?_
  refine g_newai (pc := 7) X Y dX10_init_7 rfl (by decide) (by decide) (by decide) ?_
  refine g_putRF (pc := 9) X hnm dX10_init_9 fl_X10_9 rfl (by decide) rfl rfl rfl ?_
  refine g_aload_0 (pc := 12) X dX10_init_12 ?_
  refine g_bipush (pc := 13) X dX10_init_13 kbipush_10 ?_
  refine g_newai (pc := 15) X Y dX10_init_15 rfl (by decide) (by decide) (by decide) ?_
  refine g_putRF (pc := 17) X hnm dX10_init_17 fl_X10_15 rfl (by decide) rfl rfl rfl ?_
  refine g_aload_0 (pc := 20) X dX10_init_20 ?_
  refine g_bipush (pc := 21) X dX10_init_21 kbipush_10 ?_
  refine g_newai (pc := 23) X Y dX10_init_23 rfl (by decide) (by decide) (by decide) ?_
  refine g_putRF (pc := 25) X hnm dX10_init_25 fl_X10_18 rfl (by decide) rfl rfl rfl ?_
  refine g_aload_0 (pc := 28) X dX10_init_28 ?_
  refine g_bipush (pc := 29) X dX10_init_29 kbipush_10 ?_
  refine g_newai (pc := 31) X Y dX10_init_31 rfl (by decide) (by decide) (by decide) ?_
  refine g_putRF (pc := 33) X hnm dX10_init_33 fl_X10_21 rfl (by decide) rfl rfl rfl ?_
  refine g_aload_0 (pc := 36) X dX10_init_36 ?_
  refine g_bipush (pc := 37) X dX10_init_37 kbipush_10 ?_
  refine g_newai (pc := 39) X Y dX10_init_39 rfl (by decide) (by decide) (by decide) ?_
  refine g_putRF (pc := 41) X hnm dX10_init_41 fl_X10_24 rfl (by decide) rfl rfl rfl ?_
  refine g_aload_0 (pc := 44) X dX10_init_44 ?_
  refine g_sipush (pc := 45) X dX10_init_45 ksipush_200 ?_
  refine g_newal (pc := 48) X Y dX10_init_48 rfl (by decide) (by decide) (by decide) ?_
  refine g_putRF (pc := 50) X hnm dX10_init_50 fl_X10_27 rfl (by decide) rfl rfl rfl ?_
  refine g_aload_0 (pc := 53) X dX10_init_53 ?_
  refine g_aload_1 (pc := 54) X dX10_init_54 ?_
  refine g_putRF (pc := 55) X hnm dX10_init_55 fl_X10_31 rfl (by decide) rfl rfl rfl ?_
  exact g_return (pc := 58) X Y dX10_init_58 (Nat.le_of_ble_eq_true rfl) (Nat.le_of_ble_eq_true rfl) (⟨rfl, rfl⟩)
