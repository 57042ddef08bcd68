/-! the law: its start and its loop -/
set_option maxRecDepth 100000 in
theorem apL_A (σ : gSt) : apL opsA σ = (sR (sZ (sR (sZ (sR (sR (sR (sZ (sR (sZ (sR (sZ (sR (sZ (sR (sZ (sR (sZ (sZ (sR (sR (sR (sR (sZ (sR (sZ (sR (sZ (sR (sZ (sR (sZ (sZ (sR (sR (sR (sR (sZ (sR (sZ (sR (sZ (sZ (sR (sR (sR (sZ (sR (sZ (sR (sZ (sZ (sR (sR (sR (sR (sR (sZ (sR (sZ (sR (sZ (sZ (sR (sR (sR (sR (sZ (sR (sZ (sR (sZ (sR (sZ (sZ (sR (sR (sR (sI (sR (sZ (sR (sZ (sZ (sR (sR (sR (sZ (sR (sZ (sR (sZ (sR (sZ (sR (sZ (sR (sZ (sR (sR (sZ (sR (sZ (sR (sZ (sR (sZ (sR (sZ (sR (sZ (sZ (sZ (sR (sR (sZ (sR (sZ (sR (sZ (sR (sZ (sR (sR (sZ (sR (sZ (sR (sZ (sR (sZ (sR (sZ (sR (sZ (sZ (sI (sZ (sR (sR (sZ (sR (sZ (sZ σ 1) 2) 1 1 (some 2)) 3) 1 2 (some 3)) 0 0 (some 1)) 4) 4 2 (-1)) 5) 6) 5 6 (some 6)) 7) 5 7 (some 7)) 8) 5 8 (some 8)) 9) 5 9 (some 9)) 10) 5 10 (some 10)) 11) 5 11 (some 11)) 4 3 (some 5)) 12) 4 4 (some 12)) 13) 4 5 (some 13)) 14) 4 6 (some 14)) 15) 4 7 (some 15)) 0 1 (some 4)) 16) 17) 18) 17 6 (some 18)) 19) 17 7 (some 19)) 20) 17 8 (some 20)) 21) 17 9 (some 21)) 22) 17 10 (some 22)) 23) 17 11 (some 23)) 16 1 (some 17)) 24) 16 3 (some 24)) 25) 16 4 (some 25)) 26) 16 5 (some 26)) 27) 16 6 (some 27)) 28) 16 7 (some 28)) 29) 16 8 (some 29)) 16 0 (some 1)) 0 2 (some 16)) 30) 31) 30 0 (some 31)) 32) 30 1 (some 32)) 30 7 (-1)) 30 3 (some 1)) 30 4 (some 16)) 0 3 (some 30)) 33) 34) 33 0 (some 34)) 35) 33 5 (some 35)) 36) 33 6 (some 36)) 37) 33 7 (some 37)) 33 3 (some 16)) 33 4 (some 30)) 0 4 (some 33)) 38) 39) 38 8 (some 39)) 40) 38 9 (some 40)) 41) 38 10 (some 41)) 38 4 (some 33)) 38 5 (some 16)) 38 6 (some 30)) 0 5 (some 38)) 42) 43) 42 4 (some 43)) 44) 42 5 (some 44)) 45) 42 6 (some 45)) 42 3 (some 16)) 0 6 (some 42)) 46) 47) 46 0 (some 47)) 48) 46 3 (some 48)) 49) 46 4 (some 49)) 46 1 (some 16)) 46 2 (some 30)) 0 7 (some 46)) 50) 51) 50 2 (some 51)) 52) 50 3 (some 52)) 53) 50 4 (some 53)) 54) 50 5 (some 54)) 55) 50 6 (some 55)) 50 7 (some 16)) 50 8 (some 30)) 0 8 (some 50)) 56) 57) 56 4 (some 57)) 58) 56 5 (some 58)) 59) 56 6 (some 59)) 60) 56 7 (some 60)) 61) 56 8 (some 61)) 62) 56 9 (some 62)) 56 3 (some 50)) 0 9 (some 56)) 63) 0 10 (some 63)) 64) 0 11 (some 64)) := by simp only [apL, opsA, List.foldl_cons, List.foldl_nil, apO]
set_option maxRecDepth 100000 in
theorem apL_B (σ : gSt) : apL opsB σ = (sR (sZ (sR (sZ (sR (sZ (sR (sZ (sR (sZ (sR (sZ (sR (sZ (sR (sZ (sR (sZ (sR (sZ (sR (sZ (sR (sZ (sR (sZ (sR (sZ (sR (sZ (sR (sZ (sR (sZ (sR (sZ (sR (sZ (sR (sZ (sR (sZ (sI (sR (sZ (sR (sZ (sR (sZ (sR (sZ (sR (sZ (sR (sZ (sR (sZ (sR (sZ (sR (sZ (sR (sZ (sR (sZ (sR (sZ (sR (sZ (sR (sZ (sR (sZ (sR (sZ (sR (sZ (sR (sZ (sR (sZ (sR (sZ (sR (sZ (sI (sR (sZ (sR (sZ (sR (sZ (sR (sZ (sR (sZ (sR (sZ (sR (sZ σ 66) 65 2 (some 66)) 67) 65 3 (some 67)) 68) 65 4 (some 68)) 69) 65 5 (some 69)) 70) 65 6 (some 70)) 71) 65 7 (some 71)) 72) 65 8 (some 72)) 65 18 (-1)) 73) 65 19 (some 73)) 74) 65 20 (some 74)) 75) 65 21 (some 75)) 76) 65 22 (some 76)) 77) 65 23 (some 77)) 78) 65 24 (some 78)) 79) 65 25 (some 79)) 80) 65 26 (some 80)) 81) 65 27 (some 81)) 82) 65 28 (some 82)) 83) 65 29 (some 83)) 84) 65 30 (some 84)) 85) 65 31 (some 85)) 86) 65 32 (some 86)) 87) 65 34 (some 87)) 88) 65 35 (some 88)) 89) 65 36 (some 89)) 90) 65 37 (some 90)) 91) 65 38 (some 91)) 92) 65 39 (some 92)) 93) 65 40 (some 93)) 65 43 (-1)) 94) 65 45 (some 94)) 95) 65 46 (some 95)) 96) 65 47 (some 96)) 97) 65 48 (some 97)) 98) 65 49 (some 98)) 99) 65 55 (some 99)) 100) 65 58 (some 100)) 101) 65 59 (some 101)) 102) 65 63 (some 102)) 103) 65 65 (some 103)) 104) 65 66 (some 104)) 105) 65 67 (some 105)) 106) 65 81 (some 106)) 107) 65 82 (some 107)) 108) 65 83 (some 108)) 109) 65 84 (some 109)) 110) 65 85 (some 110)) 111) 65 86 (some 111)) 112) 65 87 (some 112)) 113) 65 89 (some 113)) 114) 65 90 (some 114)) := by simp only [apL, opsB, List.foldl_cons, List.foldl_nil, apO]
theorem apL_cons (q : Nat × Nat × Nat × Nat) (l : List (Nat × Nat × Nat × Nat)) (σ : gSt) : apL (q :: l) σ = apL l (apO σ q) := rfl
theorem apO_0 (σ : gSt) (k a b : Nat) : apO σ (0, k, a, b) = sZ σ k := rfl
theorem apL_L : apL opsL σ0 = apL opsB (sZ (apL opsA (sZ σ0 0)) 65) := by
  rw [opsL, apL_cons, apL_app, apL_cons, apO_0, apO_0]
theorem neg6 : ∀ a, a < 6 → ∀ b, b < 6 → nI a - nI 6 < nI b := by decide +kernel
theorem has_nI (x : Int32) : ∃ m, x = nI m := ⟨x.toBitVec.toNat, by
  apply Int32.toBitVec_inj.mp
  show x.toBitVec = BitVec.ofNat 32 x.toBitVec.toNat
  simp⟩
/-- at the loop's head -/
theorem law_loop {o : gOm} {γ : gCx} {rt : Option FieldType} {pst : Option Value → gSt → Prop} {bs L : Nat} {xs : Nat → Int32} (X : gX o γ cL_law_ 8 RL) (Y : gE o γ 2048 601024 7293033 116 rt pst) (S : gScr o γ bs L xs) (hst : γ.2.1.stackTraces = false) (hL : L ≤ 3072)
    (hend : ∀ (cells slots : Nat) (σ : gSt) (ls : List (Option Value)), cells ≤ 601024 → slots ≤ 7293033 → G o γ cells slots 116 σ 2491 ls [.int (nI 1)]) : ∀ (m i : Nat), L + 1 ≤ i + m → i ≤ L → ∀ (σ : gSt) (b : Bool), Inv b σ → G o γ (200 + i) (20000 + 5 * i) 116 σ 23 [some (.ref bs), some (.ref (ad o 0)), some (.ref (ad o 65)), some (.ref (ad o 115)), some (.int (nI i)), none, none, none] [] := by
  intro m
  induction m with
  | zero => intro i h1 h2; omega
  | succ m ih =>
    intro i h1 h2 σ b hI
    have out : ∀ ls : List (Option Value), G o γ (200 + i) (20000 + 5 * i) 116 σ 2490 ls [] := fun ls => g_iconst (pc := 2490) X dL_law__2490 kiconst_1 (hend _ _ _ _ (by omega) (by omega))
    refine g_iload_4 (pc := 23) X dL_law__23 ?_
    refine g_aload_0 (pc := 25) X dL_law__25 ?_
    refine g_sln (pc := 26) X S dL_law__26 ?_
    refine g_bipush (pc := 27) X dL_law__27 kbipush_6 ?_
    by_cases hi : i + 6 ≤ L
    · refine g_isub_n (pc := 29) X dL_law__29 (by omega) ?_
      refine g_icmp_gt_n (pc := 30) X dL_law__30 (tgt := 2490) (by decide) (by omega) (by omega) (fun q => absurd q (by omega)) (fun _ => ?_)
      refine g_aload_0 (pc := 33) X dL_law__33 ?_
      refine g_iload_4 (pc := 34) X dL_law__34 ?_
      refine g_sld (pc := 36) X S dL_law__36 (by omega) hL ?_
      refine g_bipush (pc := 37) X dL_law__37 kbipush_63 ?_
      refine g_iand (pc := 39) X dL_law__39 ?_
      obtain ⟨u, hu⟩ := has_nI (xs i)
      have e : xs i &&& nI 63 = nI (u % 64) := by rw [hu]; exact fa_mask u 6
      rw [e]
      have hq : u % 64 < 64 := Nat.mod_lt _ (by decide)
      generalize u % 64 = q at hq ⊢
      have hc : 200 + i + 5 ≤ 601024 := by omega
      have hs : 20000 + 5 * i + 30 ≤ 7293033 := by omega
      have K : lwK o γ bs i (200 + i) (20000 + 5 * i) := by
        rintro σ2 ⟨b2, hI2⟩
        refine g_iinc_4 (pc := 2484) X dL_law__2484 (v := nI (i + 6)) ((nI_add i 6)) (by decide) rfl ?_
        refine g_goto (pc := 2487) X dL_law__2487 (tgt := 23) (by decide) ?_
        refine g_widen (k1 := 200 + (i + 6)) (k2 := 20000 + 5 * (i + 6)) (by omega) (by omega) ?_
        exact ih (i + 6) (by omega) hi σ2 b2 hI2
      rcases (show q = 0 ∨ q = 1 ∨ q = 2 ∨ q = 3 ∨ q = 4 ∨ q = 5 ∨ q = 6 ∨ q = 7 ∨ q = 8 ∨ q = 9 ∨ q = 10 ∨ q = 11 ∨ q = 12 ∨ q = 13 ∨ q = 14 ∨ q = 15 ∨ q = 16 ∨ q = 17 ∨ q = 18 ∨ q = 19 ∨ q = 20 ∨ q = 21 ∨ q = 22 ∨ q = 23 ∨ q = 24 ∨ q = 25 ∨ q = 26 ∨ q = 27 ∨ q = 28 ∨ q = 29 ∨ q = 30 ∨ q = 31 ∨ q = 32 ∨ q = 33 ∨ q = 34 ∨ q = 35 ∨ q = 36 ∨ q = 37 ∨ q = 38 ∨ q = 39 ∨ q = 40 ∨ 40 < q by omega) with rfl | rfl | rfl | rfl | rfl | rfl | rfl | rfl | rfl | rfl | rfl | rfl | rfl | rfl | rfl | rfl | rfl | rfl | rfl | rfl | rfl | rfl | rfl | rfl | rfl | rfl | rfl | rfl | rfl | rfl | rfl | rfl | rfl | rfl | rfl | rfl | rfl | rfl | rfl | rfl | rfl | h
      · exact g_tableIn (pc := 40) X dL_law__40 (off := 180) (tgt := 220) (by decide +kernel) (by decide +kernel) (by decide +kernel) (by decide) (lk_0 X Y S hst hI hi hL hc hs K)
      · exact g_tableIn (pc := 40) X dL_law__40 (off := 284) (tgt := 324) (by decide +kernel) (by decide +kernel) (by decide +kernel) (by decide) (lk_1 X Y S hst hI hi hL hc hs K)
      · exact g_tableIn (pc := 40) X dL_law__40 (off := 352) (tgt := 392) (by decide +kernel) (by decide +kernel) (by decide +kernel) (by decide) (lk_2 X Y S hst hI hi hL hc hs K)
      · exact g_tableIn (pc := 40) X dL_law__40 (off := 432) (tgt := 472) (by decide +kernel) (by decide +kernel) (by decide +kernel) (by decide) (lk_3 X Y S hst hI hi hL hc hs K)
      · exact g_tableIn (pc := 40) X dL_law__40 (off := 505) (tgt := 545) (by decide +kernel) (by decide +kernel) (by decide +kernel) (by decide) (lk_4 X Y S hst hI hi hL hc hs K)
      · exact g_tableIn (pc := 40) X dL_law__40 (off := 561) (tgt := 601) (by decide +kernel) (by decide +kernel) (by decide +kernel) (by decide) (lk_5 X Y S hst hI hi hL hc hs K)
      · exact g_tableIn (pc := 40) X dL_law__40 (off := 574) (tgt := 614) (by decide +kernel) (by decide +kernel) (by decide +kernel) (by decide) (lk_6 X Y S hst hI hi hL hc hs K)
      · exact g_tableIn (pc := 40) X dL_law__40 (off := 642) (tgt := 682) (by decide +kernel) (by decide +kernel) (by decide +kernel) (by decide) (lk_7 X Y S hst hI hi hL hc hs K)
      · exact g_tableIn (pc := 40) X dL_law__40 (off := 710) (tgt := 750) (by decide +kernel) (by decide +kernel) (by decide +kernel) (by decide) (lk_8 X Y S hst hI hi hL hc hs K)
      · exact g_tableIn (pc := 40) X dL_law__40 (off := 790) (tgt := 830) (by decide +kernel) (by decide +kernel) (by decide +kernel) (by decide) (lk_9 X Y S hst hI hi hL hc hs K)
      · exact g_tableIn (pc := 40) X dL_law__40 (off := 858) (tgt := 898) (by decide +kernel) (by decide +kernel) (by decide +kernel) (by decide) (lk_10 X Y S hst hI hi hL hc hs K)
      · exact g_tableIn (pc := 40) X dL_law__40 (off := 926) (tgt := 966) (by decide +kernel) (by decide +kernel) (by decide +kernel) (by decide) (lk_11 X Y S hst hI hi hL hc hs K)
      · exact g_tableIn (pc := 40) X dL_law__40 (off := 1022) (tgt := 1062) (by decide +kernel) (by decide +kernel) (by decide +kernel) (by decide) (lk_12 X Y S hst hI hi hL hc hs K)
      · exact g_tableIn (pc := 40) X dL_law__40 (off := 1090) (tgt := 1130) (by decide +kernel) (by decide +kernel) (by decide +kernel) (by decide) (lk_13 X Y S hst hI hi hL hc hs K)
      · exact g_tableIn (pc := 40) X dL_law__40 (off := 1158) (tgt := 1198) (by decide +kernel) (by decide +kernel) (by decide +kernel) (by decide) (lk_14 X Y S hst hI hi hL hc hs K)
      · exact g_tableIn (pc := 40) X dL_law__40 (off := 1221) (tgt := 1261) (by decide +kernel) (by decide +kernel) (by decide +kernel) (by decide) (lk_15 X Y S hst hI hi hL hc hs K)
      · exact g_tableIn (pc := 40) X dL_law__40 (off := 1289) (tgt := 1329) (by decide +kernel) (by decide +kernel) (by decide +kernel) (by decide) (lk_16 X Y S hst hI hi hL hc hs K)
      · exact g_tableIn (pc := 40) X dL_law__40 (off := 1357) (tgt := 1397) (by decide +kernel) (by decide +kernel) (by decide +kernel) (by decide) (lk_17 X Y S hst hI hi hL hc hs K)
      · exact g_tableIn (pc := 40) X dL_law__40 (off := 1371) (tgt := 1411) (by decide +kernel) (by decide +kernel) (by decide +kernel) (by decide) (lk_18 X Y S hst hI hi hL hc hs K)
      · exact g_tableIn (pc := 40) X dL_law__40 (off := 1384) (tgt := 1424) (by decide +kernel) (by decide +kernel) (by decide +kernel) (by decide) (lk_19 X Y S hst hI hi hL hc hs K)
      · exact g_tableIn (pc := 40) X dL_law__40 (off := 1439) (tgt := 1479) (by decide +kernel) (by decide +kernel) (by decide +kernel) (by decide) (lk_20 X Y S hst hI hi hL hc hs K)
      · exact g_tableIn (pc := 40) X dL_law__40 (off := 1495) (tgt := 1535) (by decide +kernel) (by decide +kernel) (by decide +kernel) (by decide) (lk_21 X Y S hst hI hi hL hc hs K)
      · exact g_tableIn (pc := 40) X dL_law__40 (off := 1509) (tgt := 1549) (by decide +kernel) (by decide +kernel) (by decide +kernel) (by decide) (lk_22 X Y S hst hI hi hL hc hs K)
      · exact g_tableIn (pc := 40) X dL_law__40 (off := 1577) (tgt := 1617) (by decide +kernel) (by decide +kernel) (by decide +kernel) (by decide) (lk_23 X Y S hst hI hi hL hc hs K)
      · exact g_tableIn (pc := 40) X dL_law__40 (off := 1590) (tgt := 1630) (by decide +kernel) (by decide +kernel) (by decide +kernel) (by decide) (lk_24 X Y S hst hI hi hL hc hs K)
      · exact g_tableIn (pc := 40) X dL_law__40 (off := 1681) (tgt := 1721) (by decide +kernel) (by decide +kernel) (by decide +kernel) (by decide) (lk_25 X Y S hst hI hi hL hc hs K)
      · exact g_tableIn (pc := 40) X dL_law__40 (off := 1736) (tgt := 1776) (by decide +kernel) (by decide +kernel) (by decide +kernel) (by decide) (lk_26 X Y S hst hI hi hL hc hs K)
      · exact g_tableIn (pc := 40) X dL_law__40 (off := 1792) (tgt := 1832) (by decide +kernel) (by decide +kernel) (by decide +kernel) (by decide) (lk_27 X Y S hst hI hi hL hc hs K)
      · exact g_tableIn (pc := 40) X dL_law__40 (off := 1848) (tgt := 1888) (by decide +kernel) (by decide +kernel) (by decide +kernel) (by decide) (lk_28 X Y S hst hI hi hL hc hs K)
      · exact g_tableIn (pc := 40) X dL_law__40 (off := 1862) (tgt := 1902) (by decide +kernel) (by decide +kernel) (by decide +kernel) (by decide) (lk_29 X Y S hst hI hi hL hc hs K)
      · exact g_tableIn (pc := 40) X dL_law__40 (off := 1875) (tgt := 1915) (by decide +kernel) (by decide +kernel) (by decide +kernel) (by decide) (lk_30 X Y S hst hI hi hL hc hs K)
      · exact g_tableIn (pc := 40) X dL_law__40 (off := 1943) (tgt := 1983) (by decide +kernel) (by decide +kernel) (by decide +kernel) (by decide) (lk_31 X Y S hst hI hi hL hc hs K)
      · exact g_tableIn (pc := 40) X dL_law__40 (off := 2010) (tgt := 2050) (by decide +kernel) (by decide +kernel) (by decide +kernel) (by decide) (lk_32 X Y S hst hI hi hL hc hs K)
      · exact g_tableIn (pc := 40) X dL_law__40 (off := 2090) (tgt := 2130) (by decide +kernel) (by decide +kernel) (by decide +kernel) (by decide) (lk_33 X Y S hst hI hi hL hc hs K)
      · exact g_tableIn (pc := 40) X dL_law__40 (off := 2146) (tgt := 2186) (by decide +kernel) (by decide +kernel) (by decide +kernel) (by decide) (lk_34 X Y S hst hI hi hL hc hs K)
      · exact g_tableIn (pc := 40) X dL_law__40 (off := 2214) (tgt := 2254) (by decide +kernel) (by decide +kernel) (by decide +kernel) (by decide) (lk_35 X Y S hst hI hi hL hc hs K)
      · exact g_tableIn (pc := 40) X dL_law__40 (off := 2282) (tgt := 2322) (by decide +kernel) (by decide +kernel) (by decide +kernel) (by decide) (lk_36 X Y S hst hI hi hL hc hs K)
      · exact g_tableIn (pc := 40) X dL_law__40 (off := 2337) (tgt := 2377) (by decide +kernel) (by decide +kernel) (by decide +kernel) (by decide) (lk_37 X Y S hst hI hi hL hc hs K)
      · exact g_tableIn (pc := 40) X dL_law__40 (off := 2393) (tgt := 2433) (by decide +kernel) (by decide +kernel) (by decide +kernel) (by decide) (lk_38 X Y S hst hI hi hL hc hs K)
      · exact g_tableIn (pc := 40) X dL_law__40 (off := 2406) (tgt := 2446) (by decide +kernel) (by decide +kernel) (by decide +kernel) (by decide) (lk_39 X Y S hst hI hi hL hc hs K)
      · exact g_tableIn (pc := 40) X dL_law__40 (off := 2419) (tgt := 2459) (by decide +kernel) (by decide +kernel) (by decide +kernel) (by decide) (lk_40 X Y S hst hI hi hL hc hs K)
      · refine g_tableOut (pc := 40) X dL_law__40 (tgt := 2484) (by rw [nI_toInt (by omega)]; exact Or.inr (by omega)) (by decide) ?_
        refine g_widen (k1 := 200 + i + 5) (k2 := 20000 + 5 * i + 30) (by omega) (by omega) ?_
        exact K σ ⟨b, hI⟩
    · by_cases h6 : 6 ≤ L
      · refine g_isub_n (pc := 29) X dL_law__29 h6 ?_
        exact g_icmp_gt_n (pc := 30) X dL_law__30 (tgt := 2490) (by decide) (by omega) (by omega) (fun _ => out _) (fun q => absurd q (by omega))
      · refine g_isub (pc := 29) X dL_law__29 ?_
        exact g_icmp_gt (pc := 30) X dL_law__30 (tgt := 2490) (by decide) (fun _ => out _) (fun q => absurd (neg6 L (by omega) i (by omega)) q)
/-- from the entry -/
theorem law_start {o : gOm} {γ : gCx} {rt : Option FieldType} {pst : Option Value → gSt → Prop} {bs L : Nat} {xs : Nat → Int32} (X : gX o γ cL_law_ 8 RL) (Y : gE o γ 2048 601024 7293033 116 rt pst) (S : gScr o γ bs L xs) (hst : γ.2.1.stackTraces = false) (hL : L ≤ 3072)
    (hend : ∀ (cells slots : Nat) (σ : gSt) (ls : List (Option Value)), cells ≤ 601024 → slots ≤ 7293033 → G o γ cells slots 116 σ 2491 ls [.int (nI 1)]) : G o γ 0 0 0 σ0 0 [some (.ref bs), none, none, none, none, none, none, none] [] := by
  refine g_new (pc := 0) X Y dL_law__0 (ci := 11) kl_L_8 kn_X11_12 miX11_init.2.2.2 rfl rfl (by decide) (by decide) (by decide) ?_
  refine g_dup (pc := 3) X dL_law__3 rfl ?_
  refine g_callI (pc := 4) (rest := [.ref (ad o 0)]) X Y dL_law__4 miX11_init li_L_112 (s_newSlipHeaps (o := o)) rfl ⟨Nat.le_of_ble_eq_true rfl, Nat.le_of_ble_eq_true rfl⟩ ⟨by decide, by decide⟩ (by exact Nat.le_of_ble_eq_true rfl) rfl (fun r σ1 hp => ?_)
  obtain ⟨rfl, hs1⟩ := hp
  rw [← apL_A] at hs1
  refine g_astore_1 (pc := 7) X dL_law__7 (by decide) rfl ?_
  refine g_new (pc := 8) X Y dL_law__8 (ci := 12) kl_L_113 kn_X12_91 miX12_init.2.2.2 rfl rfl (by decide) (by decide) (by decide) ?_
  refine g_dup (pc := 11) X dL_law__11 rfl ?_
  refine g_callI (pc := 12) (rest := [.ref (ad o 65)]) X Y dL_law__12 miX12_init li_L_115 (s_newModel (o := o)) rfl ⟨Nat.le_of_ble_eq_true rfl, Nat.le_of_ble_eq_true rfl⟩ ⟨by decide, by decide⟩ (by exact Nat.le_of_ble_eq_true rfl) rfl (fun r σ2 hp => ?_)
  obtain ⟨rfl, hs2⟩ := hp
  rw [← apL_B] at hs2
  refine g_astore_2 (pc := 15) X dL_law__15 (by decide) rfl ?_
  refine g_iconst (pc := 16) X dL_law__16 kiconst_1 ?_
  refine g_newal (pc := 17) X Y dL_law__17 (len := 1) rfl (by decide) (by decide) (by decide) ?_
  refine g_astore_3 (pc := 19) X dL_law__19 (by decide) rfl ?_
  refine g_iconst (pc := 20) X dL_law__20 kiconst_0 ?_
  refine g_istore_4 (pc := 21) X dL_law__21 (by decide) rfl ?_
  have e : sZ σ2 115 = σF := by rw [hs2, hs1, ← apL_L]; rfl
  rw [e]
  refine g_widen (k1 := 200 + 0) (k2 := 20000 + 5 * 0) (by decide) (by decide) ?_
  exact law_loop X Y S hst hL hend (L + 1) 0 (by omega) (by omega) σF false inv_start
