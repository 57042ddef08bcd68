set_option maxHeartbeats 4000000 in
theorem s_newEntries {o : gOm} {l : Launch} {σ : gSt} : Sp o l mX1_init 2 2 406 [.ref (ad o 1)] 2 4 σ (pV (fun σ1 => σ1 = (sR (sZ (sR (sZ σ 2) 1 1 (some 2)) 3) 1 2 (some 3)))) := by
  refine Sp.of (ls0 := [some (.ref (ad o 1))]) miX1_init rfl (Nat.le_of_ble_eq_true rfl) rfl (fun γ hγ hnm X Y => ?_)
  subst hγ
  have X : gX o γ cX1_init 1 RX1 := X
  refine g_aload_0 (pc := 0) X dX1_init_0 ?_
  refine g_objInit (pc := 1) X Y dX1_init_1 oi_X1 (by decide) (Nat.le_of_ble_eq_true rfl) ?_
  refine g_aload_0 (pc := 4) X dX1_init_4 ?_
  refine g_sipush (pc := 5) X dX1_init_5 ksipush_150 ?_
  refine g_newai (pc := 8) X Y dX1_init_8 rfl (by decide) (by decide) (by decide) ?_
  refine g_putRF (pc := 10) X hnm dX1_init_10 fl_X1_9 rfl (by decide) rfl rfl rfl ?_
  refine g_aload_0 (pc := 13) X dX1_init_13 ?_
  refine g_sipush (pc := 14) X dX1_init_14 ksipush_256 ?_
  refine g_newai (pc := 17) X Y dX1_init_17 rfl (by decide) (by decide) (by decide) ?_
  refine g_putRF (pc := 19) X hnm dX1_init_19 fl_X1_15 rfl (by decide) rfl rfl rfl ?_
  exact g_return (pc := 22) X Y dX1_init_22 (Nat.le_of_ble_eq_true rfl) (Nat.le_of_ble_eq_true rfl) (⟨rfl, rfl⟩)
set_option maxHeartbeats 4000000 in
theorem s_newRules5 {o : gOm} {l : Launch} {σ : gSt} : Sp o l mX9_init 2 6 913 [.ref (ad o 5)] 6 12 σ (pV (fun σ1 => σ1 = (sR (sZ (sR (sZ (sR (sZ (sR (sZ (sR (sZ (sR (sZ σ 6) 5 6 (some 6)) 7) 5 7 (some 7)) 8) 5 8 (some 8)) 9) 5 9 (some 9)) 10) 5 10 (some 10)) 11) 5 11 (some 11)))) := by
  refine Sp.of (ls0 := [some (.ref (ad o 5))]) miX9_init rfl (Nat.le_of_ble_eq_true rfl) rfl (fun γ hγ hnm X Y => ?_)
  subst hγ
  have X : gX o γ cX9_init 1 RX9 := X
  refine g_aload_0 (pc := 0) X dX9_init_0 ?_
  refine g_objInit (pc := 1) X Y dX9_init_1 oi_X9 (by decide) (Nat.le_of_ble_eq_true rfl) ?_
  refine g_aload_0 (pc := 4) X dX9_init_4 ?_
  refine g_bipush (pc := 5) X dX9_init_5 kbipush_16 ?_
  refine g_newai (pc := 7) X Y dX9_init_7 rfl (by decide) (by decide) (by decide) ?_
  refine g_putRF (pc := 9) X hnm dX9_init_9 fl_X9_9 rfl (by decide) rfl rfl rfl ?_
  refine g_aload_0 (pc := 12) X dX9_init_12 ?_
  refine g_bipush (pc := 13) X dX9_init_13 kbipush_17 ?_
  refine g_newai (pc := 15) X Y dX9_init_15 rfl (by decide) (by decide) (by decide) ?_
  refine g_putRF (pc := 17) X hnm dX9_init_17 fl_X9_15 rfl (by decide) rfl rfl rfl ?_
  refine g_aload_0 (pc := 20) X dX9_init_20 ?_
  refine g_bipush (pc := 21) X dX9_init_21 kbipush_16 ?_
  refine g_newai (pc := 23) X Y dX9_init_23 rfl (by decide) (by decide) (by decide) ?_
  refine g_putRF (pc := 25) X hnm dX9_init_25 fl_X9_18 rfl (by decide) rfl rfl rfl ?_
  refine g_aload_0 (pc := 28) X dX9_init_28 ?_
  refine g_sipush (pc := 29) X dX9_init_29 ksipush_400 ?_
  refine g_newai (pc := 32) X Y dX9_init_32 rfl (by decide) (by decide) (by decide) ?_
  refine g_putRF (pc := 34) X hnm dX9_init_34 fl_X9_21 rfl (by decide) rfl rfl rfl ?_
  refine g_aload_0 (pc := 37) X dX9_init_37 ?_
  refine g_sipush (pc := 38) X dX9_init_38 ksipush_400 ?_
  refine g_newai (pc := 41) X Y dX9_init_41 rfl (by decide) (by decide) (by decide) ?_
  refine g_putRF (pc := 43) X hnm dX9_init_43 fl_X9_24 rfl (by decide) rfl rfl rfl ?_
  refine g_aload_0 (pc := 46) X dX9_init_46 ?_
  refine g_bipush (pc := 47) X dX9_init_47 kbipush_64 ?_
  refine g_newai (pc := 49) X Y dX9_init_49 rfl (by decide) (by decide) (by decide) ?_
  refine g_putRF (pc := 51) X hnm dX9_init_51 fl_X9_27 rfl (by decide) rfl rfl rfl ?_
  exact g_return (pc := 54) X Y dX9_init_54 (Nat.le_of_ble_eq_true rfl) (Nat.le_of_ble_eq_true rfl) (⟨rfl, rfl⟩)
set_option maxHeartbeats 4000000 in
theorem s_newRules17 {o : gOm} {l : Launch} {σ : gSt} : Sp o l mX9_init 2 6 913 [.ref (ad o 17)] 18 24 σ (pV (fun σ1 => σ1 = (sR (sZ (sR (sZ (sR (sZ (sR (sZ (sR (sZ (sR (sZ σ 18) 17 6 (some 18)) 19) 17 7 (some 19)) 20) 17 8 (some 20)) 21) 17 9 (some 21)) 22) 17 10 (some 22)) 23) 17 11 (some 23)))) := by
  refine Sp.of (ls0 := [some (.ref (ad o 17))]) miX9_init rfl (Nat.le_of_ble_eq_true rfl) rfl (fun γ hγ hnm X Y => ?_)
  subst hγ
  have X : gX o γ cX9_init 1 RX9 := X
  refine g_aload_0 (pc := 0) X dX9_init_0 ?_
  refine g_objInit (pc := 1) X Y dX9_init_1 oi_X9 (by decide) (Nat.le_of_ble_eq_true rfl) ?_
  refine g_aload_0 (pc := 4) X dX9_init_4 ?_
  refine g_bipush (pc := 5) X dX9_init_5 kbipush_16 ?_
  refine g_newai (pc := 7) X Y dX9_init_7 rfl (by decide) (by decide) (by decide) ?_
  refine g_putRF (pc := 9) X hnm dX9_init_9 fl_X9_9 rfl (by decide) rfl rfl rfl ?_
  refine g_aload_0 (pc := 12) X dX9_init_12 ?_
  refine g_bipush (pc := 13) X dX9_init_13 kbipush_17 ?_
  refine g_newai (pc := 15) X Y dX9_init_15 rfl (by decide) (by decide) (by decide) ?_
  refine g_putRF (pc := 17) X hnm dX9_init_17 fl_X9_15 rfl (by decide) rfl rfl rfl ?_
  refine g_aload_0 (pc := 20) X dX9_init_20 ?_
  refine g_bipush (pc := 21) X dX9_init_21 kbipush_16 ?_
  refine g_newai (pc := 23) X Y dX9_init_23 rfl (by decide) (by decide) (by decide) ?_
  refine g_putRF (pc := 25) X hnm dX9_init_25 fl_X9_18 rfl (by decide) rfl rfl rfl ?_
  refine g_aload_0 (pc := 28) X dX9_init_28 ?_
  refine g_sipush (pc := 29) X dX9_init_29 ksipush_400 ?_
  refine g_newai (pc := 32) X Y dX9_init_32 rfl (by decide) (by decide) (by decide) ?_
  refine g_putRF (pc := 34) X hnm dX9_init_34 fl_X9_21 rfl (by decide) rfl rfl rfl ?_
  refine g_aload_0 (pc := 37) X dX9_init_37 ?_
  refine g_sipush (pc := 38) X dX9_init_38 ksipush_400 ?_
  refine g_newai (pc := 41) X Y dX9_init_41 rfl (by decide) (by decide) (by decide) ?_
  refine g_putRF (pc := 43) X hnm dX9_init_43 fl_X9_24 rfl (by decide) rfl rfl rfl ?_
  refine g_aload_0 (pc := 46) X dX9_init_46 ?_
  refine g_bipush (pc := 47) X dX9_init_47 kbipush_64 ?_
  refine g_newai (pc := 49) X Y dX9_init_49 rfl (by decide) (by decide) (by decide) ?_
  refine g_putRF (pc := 51) X hnm dX9_init_51 fl_X9_27 rfl (by decide) rfl rfl rfl ?_
  exact g_return (pc := 54) X Y dX9_init_54 (Nat.le_of_ble_eq_true rfl) (Nat.le_of_ble_eq_true rfl) (⟨rfl, rfl⟩)
