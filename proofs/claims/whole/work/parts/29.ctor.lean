set_option maxHeartbeats 4000000 in
theorem s_newSlipHeaps {o : gOm} {l : Launch} {σ : gSt} : Sp o l mX11_init 4 64 9453 [.ref (ad o 0)] 1 65 σ (pV (fun σ1 => σ1 = (sR (sZ (sR (sZ (sR (sR (sR (sZ (sR (sZ (sR (sZ (sR (sZ (sR (sZ (sR (sZ (sZ (sR (sR (sR (sR (sZ (sR (sZ (sR (sZ (sR (sZ (sR (sZ (sZ (sR (sR (sR (sR (sZ (sR (sZ (sR (sZ (sZ (sR (sR (sR (sZ (sR (sZ (sR (sZ (sZ (sR (sR (sR (sR (sR (sZ (sR (sZ (sR (sZ (sZ (sR (sR (sR (sR (sZ (sR (sZ (sR (sZ (sR (sZ (sZ (sR (sR (sR (sI (sR (sZ (sR (sZ (sZ (sR (sR (sR (sZ (sR (sZ (sR (sZ (sR (sZ (sR (sZ (sR (sZ (sR (sR (sZ (sR (sZ (sR (sZ (sR (sZ (sR (sZ (sR (sZ (sZ (sZ (sR (sR (sZ (sR (sZ (sR (sZ (sR (sZ (sR (sR (sZ (sR (sZ (sR (sZ (sR (sZ (sR (sZ (sR (sZ (sZ (sI (sZ (sR (sR (sZ (sR (sZ (sZ σ 1) 2) 1 1 (some 2)) 3) 1 2 (some 3)) 0 0 (some 1)) 4) 4 2 (-1)) 5) 6) 5 6 (some 6)) 7) 5 7 (some 7)) 8) 5 8 (some 8)) 9) 5 9 (some 9)) 10) 5 10 (some 10)) 11) 5 11 (some 11)) 4 3 (some 5)) 12) 4 4 (some 12)) 13) 4 5 (some 13)) 14) 4 6 (some 14)) 15) 4 7 (some 15)) 0 1 (some 4)) 16) 17) 18) 17 6 (some 18)) 19) 17 7 (some 19)) 20) 17 8 (some 20)) 21) 17 9 (some 21)) 22) 17 10 (some 22)) 23) 17 11 (some 23)) 16 1 (some 17)) 24) 16 3 (some 24)) 25) 16 4 (some 25)) 26) 16 5 (some 26)) 27) 16 6 (some 27)) 28) 16 7 (some 28)) 29) 16 8 (some 29)) 16 0 (some 1)) 0 2 (some 16)) 30) 31) 30 0 (some 31)) 32) 30 1 (some 32)) 30 7 (-1)) 30 3 (some 1)) 30 4 (some 16)) 0 3 (some 30)) 33) 34) 33 0 (some 34)) 35) 33 5 (some 35)) 36) 33 6 (some 36)) 37) 33 7 (some 37)) 33 3 (some 16)) 33 4 (some 30)) 0 4 (some 33)) 38) 39) 38 8 (some 39)) 40) 38 9 (some 40)) 41) 38 10 (some 41)) 38 4 (some 33)) 38 5 (some 16)) 38 6 (some 30)) 0 5 (some 38)) 42) 43) 42 4 (some 43)) 44) 42 5 (some 44)) 45) 42 6 (some 45)) 42 3 (some 16)) 0 6 (some 42)) 46) 47) 46 0 (some 47)) 48) 46 3 (some 48)) 49) 46 4 (some 49)) 46 1 (some 16)) 46 2 (some 30)) 0 7 (some 46)) 50) 51) 50 2 (some 51)) 52) 50 3 (some 52)) 53) 50 4 (some 53)) 54) 50 5 (some 54)) 55) 50 6 (some 55)) 50 7 (some 16)) 50 8 (some 30)) 0 8 (some 50)) 56) 57) 56 4 (some 57)) 58) 56 5 (some 58)) 59) 56 6 (some 59)) 60) 56 7 (some 60)) 61) 56 8 (some 61)) 62) 56 9 (some 62)) 56 3 (some 50)) 0 9 (some 56)) 63) 0 10 (some 63)) 64) 0 11 (some 64)))) := by
  refine Sp.of (ls0 := [some (.ref (ad o 0))]) miX11_init rfl (Nat.le_of_ble_eq_true rfl) rfl (fun γ hγ hnm X Y => ?_)
  subst hγ
  have X : gX o γ cX11_init 1 RX11 := X
  refine g_aload_0 (pc := 0) X dX11_init_0 ?_
  refine g_objInit (pc := 1) X Y dX11_init_1 oi_X11 (by decide) (Nat.le_of_ble_eq_true rfl) ?_
  refine g_aload_0 (pc := 4) X dX11_init_4 ?_
  refine g_new (pc := 5) X Y dX11_init_5 (ci := 1) kl_X11_9 kn_X1_3 miX1_init.2.2.2 rfl rfl (by decide) (by decide) (by decide) ?_
  refine g_dup (pc := 8) X dX11_init_8 rfl ?_
  refine g_callIN (pc := 9) (rest := [.ref (ad o 1), .ref (ad o 0)]) X Y dX11_init_9 miX1_init li_X11_11 (s_newEntries (o := o)) rfl ⟨Nat.le_of_ble_eq_true rfl, Nat.le_of_ble_eq_true rfl⟩ ⟨by decide, by decide⟩ (by exact Nat.le_of_ble_eq_true rfl) rfl (fun r σ1 hp => ?_)
  obtain ⟨rfl, rfl⟩ := hp
  refine g_putRF (pc := 12) X hnm dX11_init_12 fl_X11_12 rfl (by decide) rfl rfl rfl ?_
  refine g_aload_0 (pc := 15) X dX11_init_15 ?_
  refine g_new (pc := 16) X Y dX11_init_16 (ci := 7) kl_X11_18 kn_X7_10 miX7_init.2.2.2 rfl rfl (by decide) (by decide) (by decide) ?_
  refine g_dup (pc := 19) X dX11_init_19 rfl ?_
  refine g_callIN (pc := 20) (rest := [.ref (ad o 4), .ref (ad o 0)]) X Y dX11_init_20 miX7_init li_X11_20 (s_newReader (o := o)) rfl ⟨Nat.le_of_ble_eq_true rfl, Nat.le_of_ble_eq_true rfl⟩ ⟨by decide, by decide⟩ (by exact Nat.le_of_ble_eq_true rfl) rfl (fun r σ1 hp => ?_)
  obtain ⟨rfl, rfl⟩ := hp
  refine g_putRF (pc := 23) X hnm dX11_init_23 fl_X11_21 rfl (by decide) rfl rfl rfl ?_
  refine g_aload_0 (pc := 26) X dX11_init_26 ?_
  refine g_new (pc := 27) X Y dX11_init_27 (ci := 4) kl_X11_25 kn_X4_9 miX4_init.2.2.2 rfl rfl (by decide) (by decide) (by decide) ?_
  refine g_dup (pc := 30) X dX11_init_30 rfl ?_
  refine g_aload_0 (pc := 31) X dX11_init_31 ?_
  refine g_getR (pc := 32) X dX11_init_32 rfl (by decide) fl_X11_12 rfl (by rfl) ?_
  refine g_callI (pc := 35) (rest := [.ref (ad o 16), .ref (ad o 0)]) X Y dX11_init_35 miX4_init li_X11_27 (s_newPairs (o := o)) rfl ⟨Nat.le_of_ble_eq_true rfl, Nat.le_of_ble_eq_true rfl⟩ ⟨by decide, by decide⟩ (by exact Nat.le_of_ble_eq_true rfl) rfl (fun r σ1 hp => ?_)
  obtain ⟨rfl, rfl⟩ := hp
  refine g_putRF (pc := 38) X hnm dX11_init_38 fl_X11_30 rfl (by decide) rfl rfl rfl ?_
  refine g_aload_0 (pc := 41) X dX11_init_41 ?_
  refine g_new (pc := 42) X Y dX11_init_42 (ci := 3) kl_X11_34 kn_X3_8 miX3_init.2.2.2 rfl rfl (by decide) (by decide) (by decide) ?_
  refine g_dup (pc := 45) X dX11_init_45 rfl ?_
  refine g_aload_0 (pc := 46) X dX11_init_46 ?_
  refine g_getR (pc := 47) X dX11_init_47 rfl (by decide) fl_X11_12 rfl (by rfl) ?_
  refine g_aload_0 (pc := 50) X dX11_init_50 ?_
  refine g_getR (pc := 51) X dX11_init_51 rfl (by decide) fl_X11_30 rfl (by rfl) ?_
  refine g_callI (pc := 54) (rest := [.ref (ad o 30), .ref (ad o 0)]) X Y dX11_init_54 miX3_init li_X11_36 (s_newLaws (o := o)) rfl ⟨Nat.le_of_ble_eq_true rfl, Nat.le_of_ble_eq_true rfl⟩ ⟨by decide, by decide⟩ (by exact Nat.le_of_ble_eq_true rfl) rfl (fun r σ1 hp => ?_)
  obtain ⟨rfl, rfl⟩ := hp
  refine g_putRF (pc := 57) X hnm dX11_init_57 fl_X11_39 rfl (by decide) rfl rfl rfl ?_
  refine g_aload_0 (pc := 60) X dX11_init_60 ?_
  refine g_new (pc := 61) X Y dX11_init_61 (ci := 2) kl_X11_43 kn_X2_8 miX2_init.2.2.2 rfl rfl (by decide) (by decide) (by decide) ?_
  refine g_dup (pc := 64) X dX11_init_64 rfl ?_
  refine g_aload_0 (pc := 65) X dX11_init_65 ?_
  refine g_getR (pc := 66) X dX11_init_66 rfl (by decide) fl_X11_30 rfl (by rfl) ?_
  refine g_aload_0 (pc := 69) X dX11_init_69 ?_
  refine g_getR (pc := 70) X dX11_init_70 rfl (by decide) fl_X11_39 rfl (by rfl) ?_
  refine g_callI (pc := 73) (rest := [.ref (ad o 33), .ref (ad o 0)]) X Y dX11_init_73 miX2_init li_X11_45 (s_newHand (o := o)) rfl ⟨Nat.le_of_ble_eq_true rfl, Nat.le_of_ble_eq_true rfl⟩ ⟨by decide, by decide⟩ (by exact Nat.le_of_ble_eq_true rfl) rfl (fun r σ1 hp => ?_)
  obtain ⟨rfl, rfl⟩ := hp
  refine g_putRF (pc := 76) X hnm dX11_init_76 fl_X11_48 rfl (by decide) rfl rfl rfl ?_
  refine g_aload_0 (pc := 79) X dX11_init_79 ?_
  refine g_new (pc := 80) X Y dX11_init_80 (ci := 0) kl_X11_52 kn_X0_11 miX0_init.2.2.2 rfl rfl (by decide) (by decide) (by decide) ?_
  refine g_dup (pc := 83) X dX11_init_83 rfl ?_
  refine g_aload_0 (pc := 84) X dX11_init_84 ?_
  refine g_getR (pc := 85) X dX11_init_85 rfl (by decide) fl_X11_48 rfl (by rfl) ?_
  refine g_aload_0 (pc := 88) X dX11_init_88 ?_
  refine g_getR (pc := 89) X dX11_init_89 rfl (by decide) fl_X11_30 rfl (by rfl) ?_
  refine g_aload_0 (pc := 92) X dX11_init_92 ?_
  refine g_getR (pc := 93) X dX11_init_93 rfl (by decide) fl_X11_39 rfl (by rfl) ?_
  refine g_callI (pc := 96) (rest := [.ref (ad o 38), .ref (ad o 0)]) X Y dX11_init_96 miX0_init li_X11_54 (s_newChanges (o := o)) rfl ⟨Nat.le_of_ble_eq_true rfl, Nat.le_of_ble_eq_true rfl⟩ ⟨by decide, by decide⟩ (by exact Nat.le_of_ble_eq_true rfl) rfl (fun r σ1 hp => ?_)
  obtain ⟨rfl, rfl⟩ := hp
  refine g_putRF (pc := 99) X hnm dX11_init_99 fl_X11_57 rfl (by decide) rfl rfl rfl ?_
  refine g_aload_0 (pc := 102) X dX11_init_102 ?_
  refine g_new (pc := 103) X Y dX11_init_103 (ci := 8) kl_X11_61 kn_X8_7 miX8_init.2.2.2 rfl rfl (by decide) (by decide) (by decide) ?_
  refine g_dup (pc := 106) X dX11_init_106 rfl ?_
  refine g_aload_0 (pc := 107) X dX11_init_107 ?_
  refine g_getR (pc := 108) X dX11_init_108 rfl (by decide) fl_X11_30 rfl (by rfl) ?_
  refine g_callI (pc := 111) (rest := [.ref (ad o 42), .ref (ad o 0)]) X Y dX11_init_111 miX8_init li_X11_63 (s_newRings (o := o)) rfl ⟨Nat.le_of_ble_eq_true rfl, Nat.le_of_ble_eq_true rfl⟩ ⟨by decide, by decide⟩ (by exact Nat.le_of_ble_eq_true rfl) rfl (fun r σ1 hp => ?_)
  obtain ⟨rfl, rfl⟩ := hp
  refine g_putRF (pc := 114) X hnm dX11_init_114 fl_X11_66 rfl (by decide) rfl rfl rfl ?_
  refine g_aload_0 (pc := 117) X dX11_init_117 ?_
  refine g_new (pc := 118) X Y dX11_init_118 (ci := 6) kl_X11_70 kn_X6_5 miX6_init.2.2.2 rfl rfl (by decide) (by decide) (by decide) ?_
  refine g_dup (pc := 121) X dX11_init_121 rfl ?_
  refine g_aload_0 (pc := 122) X dX11_init_122 ?_
  refine g_getR (pc := 123) X dX11_init_123 rfl (by decide) fl_X11_30 rfl (by rfl) ?_
  refine g_aload_0 (pc := 126) X dX11_init_126 ?_
  refine g_getR (pc := 127) X dX11_init_127 rfl (by decide) fl_X11_39 rfl (by rfl) ?_
  refine g_callI (pc := 130) (rest := [.ref (ad o 46), .ref (ad o 0)]) X Y dX11_init_130 miX6_init li_X11_72 (s_newParts (o := o)) rfl ⟨Nat.le_of_ble_eq_true rfl, Nat.le_of_ble_eq_true rfl⟩ ⟨by decide, by decide⟩ (by exact Nat.le_of_ble_eq_true rfl) rfl (fun r σ1 hp => ?_)
  obtain ⟨rfl, rfl⟩ := hp
  refine g_putRF (pc := 133) X hnm dX11_init_133 fl_X11_73 rfl (by decide) rfl rfl rfl ?_
  refine g_aload_0 (pc := 136) X dX11_init_136 ?_
  refine g_new (pc := 137) X Y dX11_init_137 (ci := 5) kl_X11_77 kn_X5_9 miX5_init.2.2.2 rfl rfl (by decide) (by decide) (by decide) ?_
  refine g_dup (pc := 140) X dX11_init_140 rfl ?_
  refine g_aload_0 (pc := 141) X dX11_init_141 ?_
  refine g_getR (pc := 142) X dX11_init_142 rfl (by decide) fl_X11_30 rfl (by rfl) ?_
  refine g_aload_0 (pc := 145) X dX11_init_145 ?_
  refine g_getR (pc := 146) X dX11_init_146 rfl (by decide) fl_X11_39 rfl (by rfl) ?_
  refine g_callI (pc := 149) (rest := [.ref (ad o 50), .ref (ad o 0)]) X Y dX11_init_149 miX5_init li_X11_79 (s_newPart (o := o)) rfl ⟨Nat.le_of_ble_eq_true rfl, Nat.le_of_ble_eq_true rfl⟩ ⟨by decide, by decide⟩ (by exact Nat.le_of_ble_eq_true rfl) rfl (fun r σ1 hp => ?_)
  obtain ⟨rfl, rfl⟩ := hp
  refine g_putRF (pc := 152) X hnm dX11_init_152 fl_X11_80 rfl (by decide) rfl rfl rfl ?_
  refine g_aload_0 (pc := 155) X dX11_init_155 ?_
  refine g_new (pc := 156) X Y dX11_init_156 (ci := 10) kl_X11_84 kn_X10_16 miX10_init.2.2.2 rfl rfl (by decide) (by decide) (by decide) ?_
  refine g_dup (pc := 159) X dX11_init_159 rfl ?_
  refine g_aload_0 (pc := 160) X dX11_init_160 ?_
  refine g_getR (pc := 161) X dX11_init_161 rfl (by decide) fl_X11_80 rfl (by rfl) ?_
  refine g_callI (pc := 164) (rest := [.ref (ad o 56), .ref (ad o 0)]) X Y dX11_init_164 miX10_init li_X11_86 (s_newSearch (o := o)) rfl ⟨Nat.le_of_ble_eq_true rfl, Nat.le_of_ble_eq_true rfl⟩ ⟨by decide, by decide⟩ (by exact Nat.le_of_ble_eq_true rfl) rfl (fun r σ1 hp => ?_)
  obtain ⟨rfl, rfl⟩ := hp
  refine g_putRF (pc := 167) X hnm dX11_init_167 fl_X11_89 rfl (by decide) rfl rfl rfl ?_
  refine g_aload_0 (pc := 170) X dX11_init_170 ?_
  refine g_bipush (pc := 171) X dX11_init_171 kbipush_30 ?_
  refine g_newai (pc := 173) X Y dX11_init_173 rfl (by decide) (by decide) (by decide) ?_
  refine g_putRF (pc := 175) X hnm dX11_init_175 fl_X11_93 rfl (by decide) rfl rfl rfl ?_
  refine g_aload_0 (pc := 178) X dX11_init_178 ?_
  refine g_bipush (pc := 179) X dX11_init_179 kbipush_30 ?_
  refine g_newai (pc := 181) X Y dX11_init_181 rfl (by decide) (by decide) (by decide) ?_
  refine g_putRF (pc := 183) X hnm dX11_init_183 fl_X11_97 rfl (by decide) rfl rfl rfl ?_
  exact g_return (pc := 186) X Y dX11_init_186 (Nat.le_of_ble_eq_true rfl) (Nat.le_of_ble_eq_true rfl) (⟨rfl, rfl⟩)
