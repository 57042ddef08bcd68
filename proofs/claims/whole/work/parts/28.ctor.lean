set_option maxHeartbeats 4000000 in
theorem s_newReader {o : gOm} {l : Launch} {σ : gSt} : Sp o l mX7_init 3 11 2528 [.ref (ad o 4)] 5 16 σ (pV (fun σ1 => σ1 = (sR (sZ (sR (sZ (sR (sZ (sR (sZ (sR (sR (sZ (sR (sZ (sR (sZ (sR (sZ (sR (sZ (sR (sZ (sZ (sI σ 4 2 (-1)) 5) 6) 5 6 (some 6)) 7) 5 7 (some 7)) 8) 5 8 (some 8)) 9) 5 9 (some 9)) 10) 5 10 (some 10)) 11) 5 11 (some 11)) 4 3 (some 5)) 12) 4 4 (some 12)) 13) 4 5 (some 13)) 14) 4 6 (some 14)) 15) 4 7 (some 15)))) := by
  refine Sp.of (ls0 := [some (.ref (ad o 4))]) miX7_init rfl (Nat.le_of_ble_eq_true rfl) rfl (fun γ hγ hnm X Y => ?_)
  subst hγ
  have X : gX o γ cX7_init 1 RX7 := X
  refine g_aload_0 (pc := 0) X dX7_init_0 ?_
  refine g_objInit (pc := 1) X Y dX7_init_1 oi_X7 (by decide) (Nat.le_of_ble_eq_true rfl) ?_
  refine g_aload_0 (pc := 4) X dX7_init_4 ?_
  refine g_iconst (pc := 5) X dX7_init_5 kiconst_m1 ?_
  refine g_putI (pc := 6) X dX7_init_6 fl_X7_9 rfl (by decide) rfl rfl ?_
  refine g_aload_0 (pc := 9) X dX7_init_9 ?_
  refine g_new (pc := 10) X Y dX7_init_10 (ci := 9) kl_X7_15 kn_X9_12 miX9_init.2.2.2 rfl rfl (by decide) (by decide) (by decide) ?_
  refine g_dup (pc := 13) X dX7_init_13 rfl ?_
  refine g_callIN (pc := 14) (rest := [.ref (ad o 5), .ref (ad o 4)]) X Y dX7_init_14 miX9_init li_X7_17 (s_newRules5 (o := o)) rfl ⟨Nat.le_of_ble_eq_true rfl, Nat.le_of_ble_eq_true rfl⟩ ⟨by decide, by decide⟩ (by exact Nat.le_of_ble_eq_true rfl) rfl (fun r σ1 hp => ?_)
  obtain ⟨rfl, rfl⟩ := hp
  refine g_putR (pc := 17) X dX7_init_17 fl_X7_18 rfl (by decide) rfl rfl ?_
  refine g_aload_0 (pc := 20) X dX7_init_20 ?_
  refine g_sipush (pc := 21) X dX7_init_21 ksipush_400 ?_
  refine g_newai (pc := 24) X Y dX7_init_24 rfl (by decide) (by decide) (by decide) ?_
  refine g_putRF (pc := 26) X hnm dX7_init_26 fl_X7_22 rfl (by decide) rfl rfl rfl ?_
  refine g_aload_0 (pc := 29) X dX7_init_29 ?_
  refine g_sipush (pc := 30) X dX7_init_30 ksipush_401 ?_
  refine g_newai (pc := 33) X Y dX7_init_33 rfl (by decide) (by decide) (by decide) ?_
  refine g_putRF (pc := 35) X hnm dX7_init_35 fl_X7_26 rfl (by decide) rfl rfl rfl ?_
  refine g_aload_0 (pc := 38) X dX7_init_38 ?_
  refine g_sipush (pc := 39) X dX7_init_39 ksipush_401 ?_
  refine g_newai (pc := 42) X Y dX7_init_42 rfl (by decide) (by decide) (by decide) ?_
  refine g_putRF (pc := 44) X hnm dX7_init_44 fl_X7_29 rfl (by decide) rfl rfl rfl ?_
  refine g_aload_0 (pc := 47) X dX7_init_47 ?_
  refine g_sipush (pc := 48) X dX7_init_48 ksipush_401 ?_
  refine g_newai (pc := 51) X Y dX7_init_51 rfl (by decide) (by decide) (by decide) ?_
  refine g_putRF (pc := 53) X hnm dX7_init_53 fl_X7_32 rfl (by decide) rfl rfl rfl ?_
  exact g_return (pc := 56) X Y dX7_init_56 (Nat.le_of_ble_eq_true rfl) (Nat.le_of_ble_eq_true rfl) (⟨rfl, rfl⟩)
set_option maxHeartbeats 4000000 in
theorem s_newPairs {o : gOm} {l : Launch} {σ : gSt} : Sp o l mX4_init 3 13 2821 [.ref (ad o 16), .ref (ad o 1)] 17 30 σ (pV (fun σ1 => σ1 = (sR (sR (sZ (sR (sZ (sR (sZ (sR (sZ (sR (sZ (sR (sZ (sR (sR (sZ (sR (sZ (sR (sZ (sR (sZ (sR (sZ (sR (sZ (sZ σ 17) 18) 17 6 (some 18)) 19) 17 7 (some 19)) 20) 17 8 (some 20)) 21) 17 9 (some 21)) 22) 17 10 (some 22)) 23) 17 11 (some 23)) 16 1 (some 17)) 24) 16 3 (some 24)) 25) 16 4 (some 25)) 26) 16 5 (some 26)) 27) 16 6 (some 27)) 28) 16 7 (some 28)) 29) 16 8 (some 29)) 16 0 (some 1)))) := by
  refine Sp.of (ls0 := [some (.ref (ad o 16)), some (.ref (ad o 1))]) miX4_init rfl (Nat.le_of_ble_eq_true rfl) rfl (fun γ hγ hnm X Y => ?_)
  subst hγ
  have X : gX o γ cX4_init 2 RX4 := X
  refine g_aload_0 (pc := 0) X dX4_init_0 ?_
  refine g_objInit (pc := 1) X Y dX4_init_1 oi_X4 (by decide) (Nat.le_of_ble_eq_true rfl) ?_
  refine g_aload_0 (pc := 4) X dX4_init_4 ?_
  refine g_new (pc := 5) X Y dX4_init_5 (ci := 9) kl_X4_9 kn_X9_12 miX9_init.2.2.2 rfl rfl (by decide) (by decide) (by decide) ?_
  refine g_dup (pc := 8) X dX4_init_8 rfl ?_
  refine g_callIN (pc := 9) (rest := [.ref (ad o 17), .ref (ad o 16)]) X Y dX4_init_9 miX9_init li_X4_11 (s_newRules17 (o := o)) rfl ⟨Nat.le_of_ble_eq_true rfl, Nat.le_of_ble_eq_true rfl⟩ ⟨by decide, by decide⟩ (by exact Nat.le_of_ble_eq_true rfl) rfl (fun r σ1 hp => ?_)
  obtain ⟨rfl, rfl⟩ := hp
  refine g_putR (pc := 12) X dX4_init_12 fl_X4_12 rfl (by decide) rfl rfl ?_
  refine g_aload_0 (pc := 15) X dX4_init_15 ?_
  refine g_sipush (pc := 16) X dX4_init_16 ksipush_900 ?_
  refine g_newai (pc := 19) X Y dX4_init_19 rfl (by decide) (by decide) (by decide) ?_
  refine g_putRF (pc := 21) X hnm dX4_init_21 fl_X4_18 rfl (by decide) rfl rfl rfl ?_
  refine g_aload_0 (pc := 24) X dX4_init_24 ?_
  refine g_sipush (pc := 25) X dX4_init_25 ksipush_900 ?_
  refine g_newai (pc := 28) X Y dX4_init_28 rfl (by decide) (by decide) (by decide) ?_
  refine g_putRF (pc := 30) X hnm dX4_init_30 fl_X4_22 rfl (by decide) rfl rfl rfl ?_
  refine g_aload_0 (pc := 33) X dX4_init_33 ?_
  refine g_bipush (pc := 34) X dX4_init_34 kbipush_30 ?_
  refine g_newai (pc := 36) X Y dX4_init_36 rfl (by decide) (by decide) (by decide) ?_
  refine g_putRF (pc := 38) X hnm dX4_init_38 fl_X4_25 rfl (by decide) rfl rfl rfl ?_
  refine g_aload_0 (pc := 41) X dX4_init_41 ?_
  refine g_bipush (pc := 42) X dX4_init_42 kbipush_30 ?_
  refine g_newai (pc := 44) X Y dX4_init_44 rfl (by decide) (by decide) (by decide) ?_
  refine g_putRF (pc := 46) X hnm dX4_init_46 fl_X4_28 rfl (by decide) rfl rfl rfl ?_
  refine g_aload_0 (pc := 49) X dX4_init_49 ?_
  refine g_bipush (pc := 50) X dX4_init_50 kbipush_30 ?_
  refine g_newai (pc := 52) X Y dX4_init_52 rfl (by decide) (by decide) (by decide) ?_
  refine g_putRF (pc := 54) X hnm dX4_init_54 fl_X4_31 rfl (by decide) rfl rfl rfl ?_
  refine g_aload_0 (pc := 57) X dX4_init_57 ?_
  refine g_bipush (pc := 58) X dX4_init_58 kbipush_6 ?_
  refine g_newai (pc := 60) X Y dX4_init_60 rfl (by decide) (by decide) (by decide) ?_
  refine g_putRF (pc := 62) X hnm dX4_init_62 fl_X4_34 rfl (by decide) rfl rfl rfl ?_
  refine g_aload_0 (pc := 65) X dX4_init_65 ?_
  refine g_aload_1 (pc := 66) X dX4_init_66 ?_
  refine g_putRF (pc := 67) X hnm dX4_init_67 fl_X4_37 rfl (by decide) rfl rfl rfl ?_
  exact g_return (pc := 70) X Y dX4_init_70 (Nat.le_of_ble_eq_true rfl) (Nat.le_of_ble_eq_true rfl) (⟨rfl, rfl⟩)
