def dg (σ : gSt) (i : Nat) : gSt := (fun a => if a = 72 then (fun x => if x % 17 = 0 ∧ i ≤ x / 17 ∧ x / 17 < 16 then (100 : Int32) else σ.1 72 x) else σ.1 a, σ.2.1, σ.2.2)
theorem dg_end (σ : gSt) : dg σ 16 = σ := by
  refine Prod.ext (funext fun a => ?_) rfl
  show (if a = 72 then _ else _) = _
  split
  · rename_i h; subst h; funext x; rw [if_neg (by omega)]
  · rfl
theorem dg_step (σ : gSt) {i : Nat} (h : i < 16) : dg (sI σ 72 (17 * i) (nI 100)) (i + 1) = dg σ i := by
  refine Prod.ext (funext fun a => ?_) rfl
  show (if a = 72 then _ else _) = (if a = 72 then _ else _)
  split
  · funext x
    by_cases h1 : x = 17 * i
    · subst h1
      rw [if_neg (by omega), if_pos (by omega)]
      show (if 72 = 72 then upd (σ.1 72) (17 * i) (nI 100) else σ.1 72) (17 * i) = 100
      rw [if_pos rfl]; unfold upd; rw [if_pos rfl]; rfl
    · by_cases h2 : x % 17 = 0 ∧ i + 1 ≤ x / 17 ∧ x / 17 < 16
      · rw [if_pos h2, if_pos (by omega)]
      · rw [if_neg h2, if_neg (by omega)]
        simp [sI, upd, h1]
  · rename_i h1; simp [sI, h1]
set_option maxHeartbeats 4000000 in
theorem s_newModel {o : gOm} {l : Launch} {σ : gSt} : Sp o l mX12_init 2 49 9094 [.ref (ad o 65)] 66 115 σ (pV (fun σ1 => σ1 = dg (sR (sZ (sR (sZ (sR (sZ (sR (sZ (sR (sZ (sR (sZ (sR (sZ (sR (sZ (sR (sZ (sR (sZ (sR (sZ (sR (sZ (sR (sZ (sR (sZ (sR (sZ (sR (sZ (sR (sZ (sR (sZ (sR (sZ (sR (sZ (sR (sZ (sI (sR (sZ (sR (sZ (sR (sZ (sR (sZ (sR (sZ (sR (sZ (sR (sZ (sR (sZ (sR (sZ (sR (sZ (sR (sZ (sR (sZ (sR (sZ (sR (sZ (sR (sZ (sR (sZ (sR (sZ (sR (sZ (sR (sZ (sR (sZ (sR (sZ (sI (sR (sZ (sR (sZ (sR (sZ (sR (sZ (sR (sZ (sR (sZ (sR (sZ σ 66) 65 2 (some 66)) 67) 65 3 (some 67)) 68) 65 4 (some 68)) 69) 65 5 (some 69)) 70) 65 6 (some 70)) 71) 65 7 (some 71)) 72) 65 8 (some 72)) 65 18 (-1)) 73) 65 19 (some 73)) 74) 65 20 (some 74)) 75) 65 21 (some 75)) 76) 65 22 (some 76)) 77) 65 23 (some 77)) 78) 65 24 (some 78)) 79) 65 25 (some 79)) 80) 65 26 (some 80)) 81) 65 27 (some 81)) 82) 65 28 (some 82)) 83) 65 29 (some 83)) 84) 65 30 (some 84)) 85) 65 31 (some 85)) 86) 65 32 (some 86)) 87) 65 34 (some 87)) 88) 65 35 (some 88)) 89) 65 36 (some 89)) 90) 65 37 (some 90)) 91) 65 38 (some 91)) 92) 65 39 (some 92)) 93) 65 40 (some 93)) 65 43 (-1)) 94) 65 45 (some 94)) 95) 65 46 (some 95)) 96) 65 47 (some 96)) 97) 65 48 (some 97)) 98) 65 49 (some 98)) 99) 65 55 (some 99)) 100) 65 58 (some 100)) 101) 65 59 (some 101)) 102) 65 63 (some 102)) 103) 65 65 (some 103)) 104) 65 66 (some 104)) 105) 65 67 (some 105)) 106) 65 81 (some 106)) 107) 65 82 (some 107)) 108) 65 83 (some 108)) 109) 65 84 (some 109)) 110) 65 85 (some 110)) 111) 65 86 (some 111)) 112) 65 87 (some 112)) 113) 65 89 (some 113)) 114) 65 90 (some 114)) 0)) := by
  refine Sp.of (ls0 := [some (.ref (ad o 65)), none]) miX12_init rfl (Nat.le_of_ble_eq_true rfl) rfl (fun γ hγ hnm X Y => ?_)
  subst hγ
  have X : gX o γ cX12_init 2 RX12 := X
  have hL : ∀ (m i : Nat), i ≤ 16 → 17 ≤ i + m → ∀ σ2 : gSt, σ2.2.2 65 8 = some 72 → dg σ2 i = dg (sR (sZ (sR (sZ (sR (sZ (sR (sZ (sR (sZ (sR (sZ (sR (sZ (sR (sZ (sR (sZ (sR (sZ (sR (sZ (sR (sZ (sR (sZ (sR (sZ (sR (sZ (sR (sZ (sR (sZ (sR (sZ (sR (sZ (sR (sZ (sR (sZ (sI (sR (sZ (sR (sZ (sR (sZ (sR (sZ (sR (sZ (sR (sZ (sR (sZ (sR (sZ (sR (sZ (sR (sZ (sR (sZ (sR (sZ (sR (sZ (sR (sZ (sR (sZ (sR (sZ (sR (sZ (sR (sZ (sR (sZ (sR (sZ (sR (sZ (sI (sR (sZ (sR (sZ (sR (sZ (sR (sZ (sR (sZ (sR (sZ (sR (sZ σ 66) 65 2 (some 66)) 67) 65 3 (some 67)) 68) 65 4 (some 68)) 69) 65 5 (some 69)) 70) 65 6 (some 70)) 71) 65 7 (some 71)) 72) 65 8 (some 72)) 65 18 (-1)) 73) 65 19 (some 73)) 74) 65 20 (some 74)) 75) 65 21 (some 75)) 76) 65 22 (some 76)) 77) 65 23 (some 77)) 78) 65 24 (some 78)) 79) 65 25 (some 79)) 80) 65 26 (some 80)) 81) 65 27 (some 81)) 82) 65 28 (some 82)) 83) 65 29 (some 83)) 84) 65 30 (some 84)) 85) 65 31 (some 85)) 86) 65 32 (some 86)) 87) 65 34 (some 87)) 88) 65 35 (some 88)) 89) 65 36 (some 89)) 90) 65 37 (some 90)) 91) 65 38 (some 91)) 92) 65 39 (some 92)) 93) 65 40 (some 93)) 65 43 (-1)) 94) 65 45 (some 94)) 95) 65 46 (some 95)) 96) 65 47 (some 96)) 97) 65 48 (some 97)) 98) 65 49 (some 98)) 99) 65 55 (some 99)) 100) 65 58 (some 100)) 101) 65 59 (some 101)) 102) 65 63 (some 102)) 103) 65 65 (some 103)) 104) 65 66 (some 104)) 105) 65 67 (some 105)) 106) 65 81 (some 106)) 107) 65 82 (some 107)) 108) 65 83 (some 108)) 109) 65 84 (some 109)) 110) 65 85 (some 110)) 111) 65 86 (some 111)) 112) 65 87 (some 112)) 113) 65 89 (some 113)) 114) 65 90 (some 114)) 0 → G o γ 49 9094 115 σ2 422 [some (.ref (ad o 65)), some (.int (nI i))] [] := by
    intro m
    induction m with
    | zero => intro i q1 q2; omega
    | succ m ihL =>
      intro i q1 q2 σ2 q3 q4
      refine g_iload_1 (pc := 422) X dX12_init_422 ?_
      refine g_bipush (pc := 423) X dX12_init_423 kbipush_16 ?_
      first | refine g_icmp_ge_n (pc := 425) X dX12_init_425 (tgt := 445) (by decide) (by omega) (by omega) (fun h425 => ?_) (fun h425 => ?_) | refine g_icmp_ge (pc := 425) X dX12_init_425 (tgt := 445) (by decide) (fun h425 => ?_) (fun h425 => ?_)
      · obtain rfl : i = 16 := (by omega)
        rw [dg_end] at q4
        exact g_return (pc := 445) X Y dX12_init_445 (Nat.le_of_ble_eq_true rfl) (Nat.le_of_ble_eq_true rfl) (⟨rfl, q4⟩)
      · refine g_aload_0 (pc := 428) X dX12_init_428 ?_
        refine g_getR (pc := 429) X dX12_init_429 rfl (by decide) fl_X12_32 rfl q3 ?_
        refine g_bipush (pc := 432) X dX12_init_432 kbipush_17 ?_
        refine g_iload_1 (pc := 434) X dX12_init_434 ?_
        first | refine g_imul_n (pc := 435) X dX12_init_435 ?_ | refine g_imul (pc := 435) X dX12_init_435 ?_
        refine g_bipush (pc := 436) X dX12_init_436 kbipush_100 ?_
        refine g_iastore_n (pc := 438) X dX12_init_438 rfl (by decide) (rfl) (by omega) ?_
        first | refine g_iinc_1_n (pc := 439) X dX12_init_439 (by decide) rfl ?_ | refine g_iinc_1 (pc := 439) X dX12_init_439 rfl (by decide) rfl ?_
        refine g_goto (pc := 442) X dX12_init_442 (tgt := 422) (by decide) ?_
        exact ihL (i + 1) (by omega) (by omega) _ (by exact q3) ((dg_step σ2 (by omega)).trans q4)
  refine g_aload_0 (pc := 0) X dX12_init_0 ?_
  refine g_objInit (pc := 1) X Y dX12_init_1 oi_X12 (by decide) (Nat.le_of_ble_eq_true rfl) ?_
  refine g_aload_0 (pc := 4) X dX12_init_4 ?_
  refine g_bipush (pc := 5) X dX12_init_5 kbipush_30 ?_
  refine g_newai (pc := 7) X Y dX12_init_7 rfl (by decide) (by decide) (by decide) ?_
  refine g_putRF (pc := 9) X hnm dX12_init_9 fl_X12_13 rfl (by decide) rfl rfl rfl ?_
  refine g_aload_0 (pc := 12) X dX12_init_12 ?_
  refine g_bipush (pc := 13) X dX12_init_13 kbipush_30 ?_
  refine g_newai (pc := 15) X Y dX12_init_15 rfl (by decide) (by decide) (by decide) ?_
  refine g_putRF (pc := 17) X hnm dX12_init_17 fl_X12_17 rfl (by decide) rfl rfl rfl ?_
  refine g_aload_0 (pc := 20) X dX12_init_20 ?_
  refine g_bipush (pc := 21) X dX12_init_21 kbipush_30 ?_
  refine g_newai (pc := 23) X Y dX12_init_23 rfl (by decide) (by decide) (by decide) ?_
  refine g_putRF (pc := 25) X hnm dX12_init_25 fl_X12_20 rfl (by decide) rfl rfl rfl ?_
  refine g_aload_0 (pc := 28) X dX12_init_28 ?_
  refine g_bipush (pc := 29) X dX12_init_29 kbipush_30 ?_
  refine g_newai (pc := 31) X Y dX12_init_31 rfl (by decide) (by decide) (by decide) ?_
  refine g_putRF (pc := 33) X hnm dX12_init_33 fl_X12_23 rfl (by decide) rfl rfl rfl ?_
  refine g_aload_0 (pc := 36) X dX12_init_36 ?_
  refine g_bipush (pc := 37) X dX12_init_37 kbipush_30 ?_
  refine g_newai (pc := 39) X Y dX12_init_39 rfl (by decide) (by decide) (by decide) ?_
  refine g_putRF (pc := 41) X hnm dX12_init_41 fl_X12_26 rfl (by decide) rfl rfl rfl ?_
  refine g_aload_0 (pc := 44) X dX12_init_44 ?_
  refine g_bipush (pc := 45) X dX12_init_45 kbipush_30 ?_
  refine g_newai (pc := 47) X Y dX12_init_47 rfl (by decide) (by decide) (by decide) ?_
  refine g_putRF (pc := 49) X hnm dX12_init_49 fl_X12_29 rfl (by decide) rfl rfl rfl ?_
  refine g_aload_0 (pc := 52) X dX12_init_52 ?_
  refine g_sipush (pc := 53) X dX12_init_53 ksipush_256 ?_
  refine g_newai (pc := 56) X Y dX12_init_56 rfl (by decide) (by decide) (by decide) ?_
  refine g_putRF (pc := 58) X hnm dX12_init_58 fl_X12_32 rfl (by decide) rfl rfl rfl ?_
  refine g_aload_0 (pc := 61) X dX12_init_61 ?_
  refine g_iconst (pc := 62) X dX12_init_62 kiconst_m1 ?_
  refine g_putI (pc := 63) X dX12_init_63 fl_X12_35 rfl (by decide) rfl rfl ?_
  refine g_aload_0 (pc := 66) X dX12_init_66 ?_
  refine g_sipush (pc := 67) X dX12_init_67 ksipush_400 ?_
  refine g_newai (pc := 70) X Y dX12_init_70 rfl (by decide) (by decide) (by decide) ?_
  refine g_putRF (pc := 72) X hnm dX12_init_72 fl_X12_38 rfl (by decide) rfl rfl rfl ?_
  refine g_aload_0 (pc := 75) X dX12_init_75 ?_
  refine g_bipush (pc := 76) X dX12_init_76 kbipush_16 ?_
  refine g_newai (pc := 78) X Y dX12_init_78 rfl (by decide) (by decide) (by decide) ?_
  refine g_putRF (pc := 80) X hnm dX12_init_80 fl_X12_41 rfl (by decide) rfl rfl rfl ?_
  refine g_aload_0 (pc := 83) X dX12_init_83 ?_
  refine g_bipush (pc := 84) X dX12_init_84 kbipush_16 ?_
  refine g_newai (pc := 86) X Y dX12_init_86 rfl (by decide) (by decide) (by decide) ?_
  refine g_putRF (pc := 88) X hnm dX12_init_88 fl_X12_44 rfl (by decide) rfl rfl rfl ?_
  refine g_aload_0 (pc := 91) X dX12_init_91 ?_
  refine g_bipush (pc := 92) X dX12_init_92 kbipush_16 ?_
  refine g_newai (pc := 94) X Y dX12_init_94 rfl (by decide) (by decide) (by decide) ?_
  refine g_putRF (pc := 96) X hnm dX12_init_96 fl_X12_47 rfl (by decide) rfl rfl rfl ?_
  refine g_aload_0 (pc := 99) X dX12_init_99 ?_
  refine g_bipush (pc := 100) X dX12_init_100 kbipush_16 ?_
  refine g_newai (pc := 102) X Y dX12_init_102 rfl (by decide) (by decide) (by decide) ?_
  refine g_putRF (pc := 104) X hnm dX12_init_104 fl_X12_50 rfl (by decide) rfl rfl rfl ?_
  refine g_aload_0 (pc := 107) X dX12_init_107 ?_
  refine g_sipush (pc := 108) X dX12_init_108 ksipush_400 ?_
  refine g_newai (pc := 111) X Y dX12_init_111 rfl (by decide) (by decide) (by decide) ?_
  refine g_putRF (pc := 113) X hnm dX12_init_113 fl_X12_53 rfl (by decide) rfl rfl rfl ?_
  refine g_aload_0 (pc := 116) X dX12_init_116 ?_
  refine g_sipush (pc := 117) X dX12_init_117 ksipush_400 ?_
  refine g_newai (pc := 120) X Y dX12_init_120 rfl (by decide) (by decide) (by decide) ?_
  refine g_putRF (pc := 122) X hnm dX12_init_122 fl_X12_56 rfl (by decide) rfl rfl rfl ?_
  refine g_aload_0 (pc := 125) X dX12_init_125 ?_
  refine g_bipush (pc := 126) X dX12_init_126 kbipush_16 ?_
  refine g_newai (pc := 128) X Y dX12_init_128 rfl (by decide) (by decide) (by decide) ?_
  refine g_putRF (pc := 130) X hnm dX12_init_130 fl_X12_59 rfl (by decide) rfl rfl rfl ?_
  refine g_aload_0 (pc := 133) X dX12_init_133 ?_
  refine g_bipush (pc := 134) X dX12_init_134 kbipush_16 ?_
  refine g_newai (pc := 136) X Y dX12_init_136 rfl (by decide) (by decide) (by decide) ?_
  refine g_putRF (pc := 138) X hnm dX12_init_138 fl_X12_62 rfl (by decide) rfl rfl rfl ?_
  refine g_aload_0 (pc := 141) X dX12_init_141 ?_
  refine g_bipush (pc := 142) X dX12_init_142 kbipush_16 ?_
  refine g_newai (pc := 144) X Y dX12_init_144 rfl (by decide) (by decide) (by decide) ?_
  refine g_putRF (pc := 146) X hnm dX12_init_146 fl_X12_65 rfl (by decide) rfl rfl rfl ?_
  refine g_aload_0 (pc := 149) X dX12_init_149 ?_
  refine g_bipush (pc := 150) X dX12_init_150 kbipush_16 ?_
  refine g_newai (pc := 152) X Y dX12_init_152 rfl (by decide) (by decide) (by decide) ?_
  refine g_putRF (pc := 154) X hnm dX12_init_154 fl_X12_68 rfl (by decide) rfl rfl rfl ?_
  refine g_aload_0 (pc := 157) X dX12_init_157 ?_
  refine g_sipush (pc := 158) X dX12_init_158 ksipush_400 ?_
  refine g_newai (pc := 161) X Y dX12_init_161 rfl (by decide) (by decide) (by decide) ?_
  refine g_putRF (pc := 163) X hnm dX12_init_163 fl_X12_71 rfl (by decide) rfl rfl rfl ?_
  refine g_aload_0 (pc := 166) X dX12_init_166 ?_
  refine g_sipush (pc := 167) X dX12_init_167 ksipush_400 ?_
  refine g_newai (pc := 170) X Y dX12_init_170 rfl (by decide) (by decide) (by decide) ?_
  refine g_putRF (pc := 172) X hnm dX12_init_172 fl_X12_74 rfl (by decide) rfl rfl rfl ?_
  refine g_aload_0 (pc := 175) X dX12_init_175 ?_
  refine g_sipush (pc := 176) X dX12_init_176 ksipush_220 ?_
  refine g_newai (pc := 179) X Y dX12_init_179 rfl (by decide) (by decide) (by decide) ?_
  refine g_putRF (pc := 181) X hnm dX12_init_181 fl_X12_77 rfl (by decide) rfl rfl rfl ?_
  refine g_aload_0 (pc := 184) X dX12_init_184 ?_
  refine g_bipush (pc := 185) X dX12_init_185 kbipush_60 ?_
  refine g_newai (pc := 187) X Y dX12_init_187 rfl (by decide) (by decide) (by decide) ?_
  refine g_putRF (pc := 189) X hnm dX12_init_189 fl_X12_80 rfl (by decide) rfl rfl rfl ?_
  refine g_aload_0 (pc := 192) X dX12_init_192 ?_
  refine g_bipush (pc := 193) X dX12_init_193 kbipush_60 ?_
  refine g_newai (pc := 195) X Y dX12_init_195 rfl (by decide) (by decide) (by decide) ?_
  refine g_putRF (pc := 197) X hnm dX12_init_197 fl_X12_83 rfl (by decide) rfl rfl rfl ?_
  refine g_aload_0 (pc := 200) X dX12_init_200 ?_
  refine g_bipush (pc := 201) X dX12_init_201 kbipush_60 ?_
  refine g_newai (pc := 203) X Y dX12_init_203 rfl (by decide) (by decide) (by decide) ?_
  refine g_putRF (pc := 205) X hnm dX12_init_205 fl_X12_86 rfl (by decide) rfl rfl rfl ?_
  refine g_aload_0 (pc := 208) X dX12_init_208 ?_
  refine g_sipush (pc := 209) X dX12_init_209 ksipush_900 ?_
  refine g_newai (pc := 212) X Y dX12_init_212 rfl (by decide) (by decide) (by decide) ?_
  refine g_putRF (pc := 214) X hnm dX12_init_214 fl_X12_89 rfl (by decide) rfl rfl rfl ?_
  refine g_aload_0 (pc := 217) X dX12_init_217 ?_
  refine g_sipush (pc := 218) X dX12_init_218 ksipush_900 ?_
  refine g_newaz (pc := 221) X Y dX12_init_221 rfl (by decide) (by decide) (by decide) ?_
  refine g_putRF (pc := 223) X hnm dX12_init_223 fl_X12_92 rfl (by decide) rfl rfl rfl ?_
  refine g_aload_0 (pc := 226) X dX12_init_226 ?_
  refine g_sipush (pc := 227) X dX12_init_227 ksipush_900 ?_
  refine g_newaz (pc := 230) X Y dX12_init_230 rfl (by decide) (by decide) (by decide) ?_
  refine g_putRF (pc := 232) X hnm dX12_init_232 fl_X12_96 rfl (by decide) rfl rfl rfl ?_
  refine g_aload_0 (pc := 235) X dX12_init_235 ?_
  refine g_sipush (pc := 236) X dX12_init_236 ksipush_900 ?_
  refine g_newaz (pc := 239) X Y dX12_init_239 rfl (by decide) (by decide) (by decide) ?_
  refine g_putRF (pc := 241) X hnm dX12_init_241 fl_X12_99 rfl (by decide) rfl rfl rfl ?_
  refine g_aload_0 (pc := 244) X dX12_init_244 ?_
  refine g_iconst (pc := 245) X dX12_init_245 kiconst_m1 ?_
  refine g_putI (pc := 246) X dX12_init_246 fl_X12_102 rfl (by decide) rfl rfl ?_
  refine g_aload_0 (pc := 249) X dX12_init_249 ?_
  refine g_bipush (pc := 250) X dX12_init_250 kbipush_20 ?_
  refine g_newai (pc := 252) X Y dX12_init_252 rfl (by decide) (by decide) (by decide) ?_
  refine g_putRF (pc := 254) X hnm dX12_init_254 fl_X12_105 rfl (by decide) rfl rfl rfl ?_
  refine g_aload_0 (pc := 257) X dX12_init_257 ?_
  refine g_bipush (pc := 258) X dX12_init_258 kbipush_20 ?_
  refine g_newai (pc := 260) X Y dX12_init_260 rfl (by decide) (by decide) (by decide) ?_
  refine g_putRF (pc := 262) X hnm dX12_init_262 fl_X12_108 rfl (by decide) rfl rfl rfl ?_
  refine g_aload_0 (pc := 265) X dX12_init_265 ?_
  refine g_bipush (pc := 266) X dX12_init_266 kbipush_20 ?_
  refine g_newaz (pc := 268) X Y dX12_init_268 rfl (by decide) (by decide) (by decide) ?_
  refine g_putRF (pc := 270) X hnm dX12_init_270 fl_X12_111 rfl (by decide) rfl rfl rfl ?_
  refine g_aload_0 (pc := 273) X dX12_init_273 ?_
  refine g_bipush (pc := 274) X dX12_init_274 kbipush_30 ?_
  refine g_newai (pc := 276) X Y dX12_init_276 rfl (by decide) (by decide) (by decide) ?_
  refine g_putRF (pc := 278) X hnm dX12_init_278 fl_X12_114 rfl (by decide) rfl rfl rfl ?_
  refine g_aload_0 (pc := 281) X dX12_init_281 ?_
  refine g_bipush (pc := 282) X dX12_init_282 kbipush_30 ?_
  refine g_newai (pc := 284) X Y dX12_init_284 rfl (by decide) (by decide) (by decide) ?_
  refine g_putRF (pc := 286) X hnm dX12_init_286 fl_X12_117 rfl (by decide) rfl rfl rfl ?_
  refine g_aload_0 (pc := 289) X dX12_init_289 ?_
  refine g_bipush (pc := 290) X dX12_init_290 kbipush_30 ?_
  refine g_newai (pc := 292) X Y dX12_init_292 rfl (by decide) (by decide) (by decide) ?_
  refine g_putRF (pc := 294) X hnm dX12_init_294 fl_X12_120 rfl (by decide) rfl rfl rfl ?_
  refine g_aload_0 (pc := 297) X dX12_init_297 ?_
  refine g_sipush (pc := 298) X dX12_init_298 ksipush_900 ?_
  refine g_newai (pc := 301) X Y dX12_init_301 rfl (by decide) (by decide) (by decide) ?_
  refine g_putRF (pc := 303) X hnm dX12_init_303 fl_X12_123 rfl (by decide) rfl rfl rfl ?_
  refine g_aload_0 (pc := 306) X dX12_init_306 ?_
  refine g_sipush (pc := 307) X dX12_init_307 ksipush_900 ?_
  refine g_newai (pc := 310) X Y dX12_init_310 rfl (by decide) (by decide) (by decide) ?_
  refine g_putRF (pc := 312) X hnm dX12_init_312 fl_X12_126 rfl (by decide) rfl rfl rfl ?_
  refine g_aload_0 (pc := 315) X dX12_init_315 ?_
  refine g_iconst (pc := 316) X dX12_init_316 kiconst_4 ?_
  refine g_newai (pc := 317) X Y dX12_init_317 rfl (by decide) (by decide) (by decide) ?_
  refine g_putRF (pc := 319) X hnm dX12_init_319 fl_X12_129 rfl (by decide) rfl rfl rfl ?_
  refine g_aload_0 (pc := 322) X dX12_init_322 ?_
  refine g_bipush (pc := 323) X dX12_init_323 kbipush_30 ?_
  refine g_newaz (pc := 325) X Y dX12_init_325 rfl (by decide) (by decide) (by decide) ?_
  refine g_putRF (pc := 327) X hnm dX12_init_327 fl_X12_132 rfl (by decide) rfl rfl rfl ?_
  refine g_aload_0 (pc := 330) X dX12_init_330 ?_
  refine g_bipush (pc := 331) X dX12_init_331 kbipush_30 ?_
  refine g_newaz (pc := 333) X Y dX12_init_333 rfl (by decide) (by decide) (by decide) ?_
  refine g_putRF (pc := 335) X hnm dX12_init_335 fl_X12_135 rfl (by decide) rfl rfl rfl ?_
  refine g_aload_0 (pc := 338) X dX12_init_338 ?_
  refine g_bipush (pc := 339) X dX12_init_339 kbipush_30 ?_
  refine g_newai (pc := 341) X Y dX12_init_341 rfl (by decide) (by decide) (by decide) ?_
  refine g_putRF (pc := 343) X hnm dX12_init_343 fl_X12_138 rfl (by decide) rfl rfl rfl ?_
  refine g_aload_0 (pc := 346) X dX12_init_346 ?_
  refine g_bipush (pc := 347) X dX12_init_347 kbipush_10 ?_
  refine g_newai (pc := 349) X Y dX12_init_349 rfl (by decide) (by decide) (by decide) ?_
  refine g_putRF (pc := 351) X hnm dX12_init_351 fl_X12_141 rfl (by decide) rfl rfl rfl ?_
  refine g_aload_0 (pc := 354) X dX12_init_354 ?_
  refine g_bipush (pc := 355) X dX12_init_355 kbipush_10 ?_
  refine g_newai (pc := 357) X Y dX12_init_357 rfl (by decide) (by decide) (by decide) ?_
  refine g_putRF (pc := 359) X hnm dX12_init_359 fl_X12_144 rfl (by decide) rfl rfl rfl ?_
  refine g_aload_0 (pc := 362) X dX12_init_362 ?_
  refine g_bipush (pc := 363) X dX12_init_363 kbipush_10 ?_
  refine g_newai (pc := 365) X Y dX12_init_365 rfl (by decide) (by decide) (by decide) ?_
  refine g_putRF (pc := 367) X hnm dX12_init_367 fl_X12_147 rfl (by decide) rfl rfl rfl ?_
  refine g_aload_0 (pc := 370) X dX12_init_370 ?_
  refine g_bipush (pc := 371) X dX12_init_371 kbipush_10 ?_
  refine g_newai (pc := 373) X Y dX12_init_373 rfl (by decide) (by decide) (by decide) ?_
  refine g_putRF (pc := 375) X hnm dX12_init_375 fl_X12_150 rfl (by decide) rfl rfl rfl ?_
  refine g_aload_0 (pc := 378) X dX12_init_378 ?_
  refine g_sipush (pc := 379) X dX12_init_379 ksipush_200 ?_
  refine g_newal (pc := 382) X Y dX12_init_382 rfl (by decide) (by decide) (by decide) ?_
  refine g_putRF (pc := 384) X hnm dX12_init_384 fl_X12_153 rfl (by decide) rfl rfl rfl ?_
  refine g_aload_0 (pc := 387) X dX12_init_387 ?_
  refine g_bipush (pc := 388) X dX12_init_388 kbipush_30 ?_
  refine g_newai (pc := 390) X Y dX12_init_390 rfl (by decide) (by decide) (by decide) ?_
  refine g_putRF (pc := 392) X hnm dX12_init_392 fl_X12_157 rfl (by decide) rfl rfl rfl ?_
  refine g_aload_0 (pc := 395) X dX12_init_395 ?_
  refine g_bipush (pc := 396) X dX12_init_396 kbipush_30 ?_
  refine g_newai (pc := 398) X Y dX12_init_398 rfl (by decide) (by decide) (by decide) ?_
  refine g_putRF (pc := 400) X hnm dX12_init_400 fl_X12_160 rfl (by decide) rfl rfl rfl ?_
  refine g_aload_0 (pc := 403) X dX12_init_403 ?_
  refine g_bipush (pc := 404) X dX12_init_404 kbipush_6 ?_
  refine g_newai (pc := 406) X Y dX12_init_406 rfl (by decide) (by decide) (by decide) ?_
  refine g_putRF (pc := 408) X hnm dX12_init_408 fl_X12_163 rfl (by decide) rfl rfl rfl ?_
  refine g_aload_0 (pc := 411) X dX12_init_411 ?_
  refine g_sipush (pc := 412) X dX12_init_412 ksipush_180 ?_
  refine g_newai (pc := 415) X Y dX12_init_415 rfl (by decide) (by decide) (by decide) ?_
  refine g_putRF (pc := 417) X hnm dX12_init_417 fl_X12_166 rfl (by decide) rfl rfl rfl ?_
  refine g_iconst (pc := 420) X dX12_init_420 kiconst_0 ?_
  refine g_istore_1 (pc := 421) X dX12_init_421 (by decide) rfl ?_
  exact hL 17 0 (by omega) (by omega) _ (by rfl) rfl
