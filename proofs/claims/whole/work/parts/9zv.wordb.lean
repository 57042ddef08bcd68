/-! which word: spelling, isSpelt, wordAt -/
section WRD
variable {o : gOm} {l : Launch} {σ : gSt} {b : Bool}
theorem s_spelling {i : Nat} (hi : i < 16) : Sp o l mX7_spelling 1 0 0 [.int (-(nI (i + 1)))] 116 116 σ (pA (fun x t => x = o.2.2.2.1 i ∧ σ = t)) := by
  refine Sp.of (ls0 := [some (.int (-(nI (i + 1))))]) miX7_spelling rfl (Nat.le_of_ble_eq_true rfl) rfl (fun γ hγ hnm X Y => ?_)
  subst hγ
  have X : gX o γ cX7_spelling 1 RX7 := X
  refine g_iload_0 (pc := 0) X dX7_spelling_0 ?_
  rcases (show i = 0 ∨ i = 1 ∨ i = 2 ∨ i = 3 ∨ i = 4 ∨ i = 5 ∨ i = 6 ∨ i = 7 ∨ i = 8 ∨ i = 9 ∨ i = 10 ∨ i = 11 ∨ i = 12 ∨ i = 13 ∨ i = 14 ∨ i = 15 by omega) with rfl | rfl | rfl | rfl | rfl | rfl | rfl | rfl | rfl | rfl | rfl | rfl | rfl | rfl | rfl | rfl
  · refine g_tableIn (pc := 1) X dX7_spelling_1 (off := 75) (tgt := 76) (by decide) (by decide) rfl (by decide) ?_
    refine g_ldcS (pc := 76) X dX7_spelling_76 (fun s h => h.2.2.2.2.1 0 (by decide)) ?_
    exact g_areturn (pc := 78) X Y dX7_spelling_78 rfl (Nat.le_of_ble_eq_true rfl) (Nat.le_of_ble_eq_true rfl) ⟨_, rfl, rfl, rfl⟩
  · refine g_tableIn (pc := 1) X dX7_spelling_1 (off := 78) (tgt := 79) (by decide) (by decide) rfl (by decide) ?_
    refine g_ldcS (pc := 79) X dX7_spelling_79 (fun s h => h.2.2.2.2.1 1 (by decide)) ?_
    exact g_areturn (pc := 81) X Y dX7_spelling_81 rfl (Nat.le_of_ble_eq_true rfl) (Nat.le_of_ble_eq_true rfl) ⟨_, rfl, rfl, rfl⟩
  · refine g_tableIn (pc := 1) X dX7_spelling_1 (off := 81) (tgt := 82) (by decide) (by decide) rfl (by decide) ?_
    refine g_ldcS (pc := 82) X dX7_spelling_82 (fun s h => h.2.2.2.2.1 2 (by decide)) ?_
    exact g_areturn (pc := 84) X Y dX7_spelling_84 rfl (Nat.le_of_ble_eq_true rfl) (Nat.le_of_ble_eq_true rfl) ⟨_, rfl, rfl, rfl⟩
  · refine g_tableIn (pc := 1) X dX7_spelling_1 (off := 84) (tgt := 85) (by decide) (by decide) rfl (by decide) ?_
    refine g_ldcS (pc := 85) X dX7_spelling_85 (fun s h => h.2.2.2.2.1 3 (by decide)) ?_
    exact g_areturn (pc := 87) X Y dX7_spelling_87 rfl (Nat.le_of_ble_eq_true rfl) (Nat.le_of_ble_eq_true rfl) ⟨_, rfl, rfl, rfl⟩
  · refine g_tableIn (pc := 1) X dX7_spelling_1 (off := 87) (tgt := 88) (by decide) (by decide) rfl (by decide) ?_
    refine g_ldcS (pc := 88) X dX7_spelling_88 (fun s h => h.2.2.2.2.1 4 (by decide)) ?_
    exact g_areturn (pc := 90) X Y dX7_spelling_90 rfl (Nat.le_of_ble_eq_true rfl) (Nat.le_of_ble_eq_true rfl) ⟨_, rfl, rfl, rfl⟩
  · refine g_tableIn (pc := 1) X dX7_spelling_1 (off := 90) (tgt := 91) (by decide) (by decide) rfl (by decide) ?_
    refine g_ldcS (pc := 91) X dX7_spelling_91 (fun s h => h.2.2.2.2.1 5 (by decide)) ?_
    exact g_areturn (pc := 93) X Y dX7_spelling_93 rfl (Nat.le_of_ble_eq_true rfl) (Nat.le_of_ble_eq_true rfl) ⟨_, rfl, rfl, rfl⟩
  · refine g_tableIn (pc := 1) X dX7_spelling_1 (off := 93) (tgt := 94) (by decide) (by decide) rfl (by decide) ?_
    refine g_ldcS (pc := 94) X dX7_spelling_94 (fun s h => h.2.2.2.2.1 6 (by decide)) ?_
    exact g_areturn (pc := 96) X Y dX7_spelling_96 rfl (Nat.le_of_ble_eq_true rfl) (Nat.le_of_ble_eq_true rfl) ⟨_, rfl, rfl, rfl⟩
  · refine g_tableIn (pc := 1) X dX7_spelling_1 (off := 96) (tgt := 97) (by decide) (by decide) rfl (by decide) ?_
    refine g_ldcS (pc := 97) X dX7_spelling_97 (fun s h => h.2.2.2.2.1 7 (by decide)) ?_
    exact g_areturn (pc := 99) X Y dX7_spelling_99 rfl (Nat.le_of_ble_eq_true rfl) (Nat.le_of_ble_eq_true rfl) ⟨_, rfl, rfl, rfl⟩
  · refine g_tableIn (pc := 1) X dX7_spelling_1 (off := 99) (tgt := 100) (by decide) (by decide) rfl (by decide) ?_
    refine g_ldcS (pc := 100) X dX7_spelling_100 (fun s h => h.2.2.2.2.1 8 (by decide)) ?_
    exact g_areturn (pc := 102) X Y dX7_spelling_102 rfl (Nat.le_of_ble_eq_true rfl) (Nat.le_of_ble_eq_true rfl) ⟨_, rfl, rfl, rfl⟩
  · refine g_tableIn (pc := 1) X dX7_spelling_1 (off := 102) (tgt := 103) (by decide) (by decide) rfl (by decide) ?_
    refine g_ldcS (pc := 103) X dX7_spelling_103 (fun s h => h.2.2.2.2.1 9 (by decide)) ?_
    exact g_areturn (pc := 105) X Y dX7_spelling_105 rfl (Nat.le_of_ble_eq_true rfl) (Nat.le_of_ble_eq_true rfl) ⟨_, rfl, rfl, rfl⟩
  · refine g_tableIn (pc := 1) X dX7_spelling_1 (off := 105) (tgt := 106) (by decide) (by decide) rfl (by decide) ?_
    refine g_ldcS (pc := 106) X dX7_spelling_106 (fun s h => h.2.2.2.2.1 10 (by decide)) ?_
    exact g_areturn (pc := 108) X Y dX7_spelling_108 rfl (Nat.le_of_ble_eq_true rfl) (Nat.le_of_ble_eq_true rfl) ⟨_, rfl, rfl, rfl⟩
  · refine g_tableIn (pc := 1) X dX7_spelling_1 (off := 108) (tgt := 109) (by decide) (by decide) rfl (by decide) ?_
    refine g_ldcS (pc := 109) X dX7_spelling_109 (fun s h => h.2.2.2.2.1 11 (by decide)) ?_
    exact g_areturn (pc := 111) X Y dX7_spelling_111 rfl (Nat.le_of_ble_eq_true rfl) (Nat.le_of_ble_eq_true rfl) ⟨_, rfl, rfl, rfl⟩
  · refine g_tableIn (pc := 1) X dX7_spelling_1 (off := 111) (tgt := 112) (by decide) (by decide) rfl (by decide) ?_
    refine g_ldcS (pc := 112) X dX7_spelling_112 (fun s h => h.2.2.2.2.1 12 (by decide)) ?_
    exact g_areturn (pc := 114) X Y dX7_spelling_114 rfl (Nat.le_of_ble_eq_true rfl) (Nat.le_of_ble_eq_true rfl) ⟨_, rfl, rfl, rfl⟩
  · refine g_tableIn (pc := 1) X dX7_spelling_1 (off := 114) (tgt := 115) (by decide) (by decide) rfl (by decide) ?_
    refine g_ldcS (pc := 115) X dX7_spelling_115 (fun s h => h.2.2.2.2.1 13 (by decide)) ?_
    exact g_areturn (pc := 117) X Y dX7_spelling_117 rfl (Nat.le_of_ble_eq_true rfl) (Nat.le_of_ble_eq_true rfl) ⟨_, rfl, rfl, rfl⟩
  · refine g_tableIn (pc := 1) X dX7_spelling_1 (off := 117) (tgt := 118) (by decide) (by decide) rfl (by decide) ?_
    refine g_ldcS (pc := 118) X dX7_spelling_118 (fun s h => h.2.2.2.2.1 14 (by decide)) ?_
    exact g_areturn (pc := 120) X Y dX7_spelling_120 rfl (Nat.le_of_ble_eq_true rfl) (Nat.le_of_ble_eq_true rfl) ⟨_, rfl, rfl, rfl⟩
  · refine g_tableOut (pc := 1) X dX7_spelling_1 (tgt := 121) (by decide) (by decide) ?_
    refine g_ldcS (pc := 121) X dX7_spelling_121 (fun s h => h.2.2.2.2.1 15 (by decide)) ?_
    exact g_areturn (pc := 123) X Y dX7_spelling_123 rfl (Nat.le_of_ble_eq_true rfl) (Nat.le_of_ble_eq_true rfl) ⟨_, rfl, rfl, rfl⟩
theorem s_isSpelt {i st en n : Nat} {B : Nat → Nat} (hR : σ.2.2 = gRf b) (hi : i < 16) (hB : bytC σ B n) (h1 : st < en) (h2 : en ≤ n) : Sp o l mX7_isSpelt 5 0 0 [.ref (ad o 4), .ref (o.2.2.2.1 i), .int (nI st), .int (nI en)] 116 116 σ (pI (fun x t => x = zI (isW B st en (spl.getD i [])) ∧ σ = t)) := by
  obtain ⟨hN, hN7⟩ := str_len i hi
  have h4 := hB.1
  refine Sp.of (ls0 := [some (.ref (ad o 4)), some (.ref (o.2.2.2.1 i)), some (.int (nI st)), some (.int (nI en)), none]) miX7_isSpelt rfl (Nat.le_of_ble_eq_true rfl) rfl (fun γ hγ hnm X Y => ?_)
  subst hγ
  have X : gX o γ cX7_isSpelt 5 RX7 := X
  refine g_aload_1 (pc := 0) X dX7_isSpelt_0 ?_
  refine g_callVS (pc := 1) X Y hi dX7_isSpelt_1 miJ0_length_8abf5 li_X7_84 rfl (s_length hi) rfl ⟨Nat.le_of_ble_eq_true rfl, Nat.le_of_ble_eq_true rfl⟩ (Nat.le_of_ble_eq_true rfl) (Nat.le_of_ble_eq_true rfl) (by exact Nat.le_of_ble_eq_true rfl) rfl (fun x9 σ9 hp => ?_)
  obtain ⟨rfl, rfl⟩ := hp
  refine g_iload_3 (pc := 4) X dX7_isSpelt_4 ?_
  refine g_iload_2 (pc := 5) X dX7_isSpelt_5 ?_
  refine g_isub (pc := 6) X dX7_isSpelt_6 ?_
  rw [nI_sub (by omega)]
  refine g_icmp_eq (pc := 7) X dX7_isSpelt_7 (tgt := 12) (by decide) (fun q => ?_) (fun q => ?_)
  · rw [nI_eq (by omega) (by omega)] at q
    refine g_iconst (pc := 12) X dX7_isSpelt_12 kiconst_0 ?_
    refine g_istore_4 (pc := 13) X dX7_isSpelt_13 (by decide) rfl ?_
    have loop : ∀ (m j : Nat), j + m = strN.getD i 0 → (∀ k, k < j → B (st + k) = (spl.getD i []).getD k 0) → G o γ 0 0 116 σ 15 [some (.ref (ad o 4)), some (.ref (o.2.2.2.1 i)), some (.int (nI st)), some (.int (nI en)), some (.int (nI j))] [] := by
      intro m
      induction m with
      | zero =>
        intro j hj hall
        refine g_iload_4 (pc := 15) X dX7_isSpelt_15 ?_
        refine g_aload_1 (pc := 17) X dX7_isSpelt_17 ?_
        refine g_callVS (pc := 18) X Y hi dX7_isSpelt_18 miJ0_length_8abf5 li_X7_84 rfl (s_length hi) rfl ⟨Nat.le_of_ble_eq_true rfl, Nat.le_of_ble_eq_true rfl⟩ (Nat.le_of_ble_eq_true rfl) (Nat.le_of_ble_eq_true rfl) (by exact Nat.le_of_ble_eq_true rfl) rfl (fun x9 σ9 hp => ?_)
        obtain ⟨rfl, rfl⟩ := hp
        refine g_icmp_ge (pc := 21) X dX7_isSpelt_21 (tgt := 50) (by decide) (fun _ => ?_) (fun q => absurd (nI_le (by omega) (by omega)) q)
        refine g_iconst (pc := 50) X dX7_isSpelt_50 kiconst_1 ?_
        refine g_zreturn (pc := 51) X Y dX7_isSpelt_51 (.inr rfl) (Nat.le_of_ble_eq_true rfl) (Nat.le_of_ble_eq_true rfl) ⟨_, rfl, ?_, rfl⟩
        have e : isW B st en (spl.getD i []) = true := by
          unfold isW
          rw [Bool.and_eq_true, decide_eq_true_iff, List.all_eq_true]
          exact ⟨by omega, fun x hx => decide_eq_true (hall x (by have := List.mem_range.mp hx; omega))⟩
        rw [e]
        rfl
      | succ m ih =>
        intro j hj hall
        refine g_iload_4 (pc := 15) X dX7_isSpelt_15 ?_
        refine g_aload_1 (pc := 17) X dX7_isSpelt_17 ?_
        refine g_callVS (pc := 18) X Y hi dX7_isSpelt_18 miJ0_length_8abf5 li_X7_84 rfl (s_length hi) rfl ⟨Nat.le_of_ble_eq_true rfl, Nat.le_of_ble_eq_true rfl⟩ (Nat.le_of_ble_eq_true rfl) (Nat.le_of_ble_eq_true rfl) (by exact Nat.le_of_ble_eq_true rfl) rfl (fun x9 σ9 hp => ?_)
        obtain ⟨rfl, rfl⟩ := hp
        refine g_icmp_ge (pc := 21) X dX7_isSpelt_21 (tgt := 50) (by decide) (fun q => absurd q (nI_ge (by omega) (by omega))) (fun _ => ?_)
        refine g_aload_1 (pc := 24) X dX7_isSpelt_24 ?_
        refine g_iload_4 (pc := 25) X dX7_isSpelt_25 ?_
        refine g_callVS (pc := 27) X Y hi dX7_isSpelt_27 miJ0_charAt_5068e li_X7_90 rfl (s_charAt (k := j) hi (by omega)) rfl ⟨Nat.le_of_ble_eq_true rfl, Nat.le_of_ble_eq_true rfl⟩ (Nat.le_of_ble_eq_true rfl) (Nat.le_of_ble_eq_true rfl) (by exact Nat.le_of_ble_eq_true rfl) rfl (fun x9 σ9 hp => ?_)
        obtain ⟨rfl, rfl⟩ := hp
        refine g_aload_0 (pc := 30) X dX7_isSpelt_30 ?_
        refine g_getRf (pc := 31) X dX7_isSpelt_31 fl_X7_22 rfl (by decide) rfl hR rfl ?_
        refine g_iload_2 (pc := 34) X dX7_isSpelt_34 ?_
        refine g_iload_4 (pc := 35) X dX7_isSpelt_35 ?_
        refine g_iadd (pc := 37) X dX7_isSpelt_37 ?_
        rw [nI_add]
        obtain ⟨b1, b2⟩ := hB.2 (st + j) (by omega)
        refine g_iaload_w (pc := 38) X dX7_isSpelt_38 rfl (by decide) (rI_i (Q := fun x => x = nI (B (st + j))) (by omega) b1) (fun x5 h => ?_)
        subst h
        have hs : (spl.getD i []).getD j 0 < 2147483648 := by
          have : ∀ i, i < 16 → ∀ k, k < 7 → (spl.getD i []).getD k 0 < 256 := by decide
          have := this i hi j (by omega)
          omega
        refine g_icmp_eq (pc := 39) X dX7_isSpelt_39 (tgt := 44) (by decide) (fun q2 => ?_) (fun q2 => ?_)
        · rw [nI_eq hs (by omega)] at q2
          refine g_iinc_4 (pc := 44) X dX7_isSpelt_44 (v := nI (j + 1)) (nI_1 j) (by decide) rfl ?_
          refine g_goto (pc := 47) X dX7_isSpelt_47 (tgt := 15) (by decide) ?_
          exact ih (j + 1) (by omega) (fun k hk => by
            by_cases z : k = j
            · rw [z]; exact q2.symm
            · exact hall k (by omega))
        · rw [nI_eq hs (by omega)] at q2
          refine g_iconst (pc := 42) X dX7_isSpelt_42 kiconst_0 ?_
          refine g_zreturn (pc := 43) X Y dX7_isSpelt_43 (.inl rfl) (Nat.le_of_ble_eq_true rfl) (Nat.le_of_ble_eq_true rfl) ⟨_, rfl, ?_, rfl⟩
          have e : isW B st en (spl.getD i []) = false := by
            refine ts_nt (fun w => q2 ?_)
            unfold isW at w
            rw [Bool.and_eq_true, decide_eq_true_iff, List.all_eq_true] at w
            exact (of_decide_eq_true (w.2 j (List.mem_range.mpr (by omega)))).symm
          rw [e]
          rfl
    exact loop (strN.getD i 0) 0 (by omega) (fun k hk => absurd hk (Nat.not_lt_zero k))
  · rw [nI_eq (by omega) (by omega)] at q
    refine g_iconst (pc := 10) X dX7_isSpelt_10 kiconst_0 ?_
    refine g_zreturn (pc := 11) X Y dX7_isSpelt_11 (.inl rfl) (Nat.le_of_ble_eq_true rfl) (Nat.le_of_ble_eq_true rfl) ⟨_, rfl, ?_, rfl⟩
    have e : isW B st en (spl.getD i []) = false := by
      unfold isW
      rw [decide_eq_false (by omega), Bool.false_and]
    rw [e]
    rfl
theorem wb_dec : ∀ i, i < 16 → -(nI (i + 1)) + Int32.ofInt (-1) = -(nI (i + 1 + 1)) := by decide
theorem wb_lt : ∀ i, i < 16 → ¬ -(nI (i + 1)) < (-16 : Int32) := by decide
theorem s_wordAt {st n : Nat} {B : Nat → Nat} (hR : σ.2.2 = gRf b) (hB : bytC σ B n) (h1 : st < n) (hl : isLb (B st) = true) : Sp o l mX7_wordAt 12 0 0 [.ref (ad o 4), .int (nI st), .int (nI n)] 116 116 σ (pI (fun x t => x = wsg B st (tokE B n st) ∧ σ = t)) := by
  refine Sp.of (ls0 := [some (.ref (ad o 4)), some (.int (nI st)), some (.int (nI n)), none, none]) miX7_wordAt rfl (Nat.le_of_ble_eq_true rfl) rfl (fun γ hγ hnm X Y => ?_)
  subst hγ
  have X : gX o γ cX7_wordAt 5 RX7 := X
  have h4 := hB.1
  obtain ⟨te1, te2⟩ := tokE_ok (B := B) h1
  have ht : tokE B n st = runE isLb B n (n - (st + 1)) (st + 1) := by unfold tokE; rw [if_pos hl]
  have hin : ∀ k, st ≤ k → k < tokE B n st → isLb (B k) = true := fun k k1 k2 => by
    by_cases z : k = st
    · rw [z]; exact hl
    · rw [ht] at k2
      exact runE_in _ _ k (by omega) k2
  have hend : tokE B n st < n → isLb (B (tokE B n st)) = false := fun h9 => by
    rw [ht] at h9 ⊢
    exact runE_at _ _ (by omega) h9
  generalize hen : tokE B n st = en at *
  have loop2 : ∀ (m i : Nat), i + m = 16 → (∀ k, k < i → isW B st en (spl.getD k []) = false) → G o γ 0 0 116 σ 28 [some (.ref (ad o 4)), some (.int (nI st)), some (.int (nI n)), some (.int (nI en)), some (.int (-(nI (i + 1))))] [] := by
    intro m
    induction m with
    | zero =>
      intro i hi hno
      obtain rfl : i = 16 := by omega
      refine g_iload_4 (pc := 28) X dX7_wordAt_28 ?_
      refine g_bipush (pc := 30) X dX7_wordAt_30 (v := -16) (by decide) ?_
      refine g_icmp_lt (pc := 32) X dX7_wordAt_32 (tgt := 58) (by decide) (fun _ => ?_) (fun q => absurd (by decide) q)
      refine g_bipush (pc := 58) X dX7_wordAt_58 (v := -19) (by decide) ?_
      refine g_ireturn (pc := 60) X Y dX7_wordAt_60 (Nat.le_of_ble_eq_true rfl) (Nat.le_of_ble_eq_true rfl) ⟨_, rfl, ?_, rfl⟩
      rcases @wsg_neg B st en with e | ⟨k, hk, e⟩
      · exact e.symm
      · have := (wsg_iff hk).mp e
        rw [hno k hk] at this
        cases this
    | succ m ih =>
      intro i hi hno
      refine g_iload_4 (pc := 28) X dX7_wordAt_28 ?_
      refine g_bipush (pc := 30) X dX7_wordAt_30 (v := -16) (by decide) ?_
      refine g_icmp_lt (pc := 32) X dX7_wordAt_32 (tgt := 58) (by decide) (fun q => absurd q (wb_lt i (by omega))) (fun _ => ?_)
      refine g_aload_0 (pc := 35) X dX7_wordAt_35 ?_
      refine g_iload_4 (pc := 36) X dX7_wordAt_36 ?_
      refine g_callS_A (pc := 38) X Y dX7_wordAt_38 miX7_spelling li_X7_76 (s_spelling (by omega)) rfl ⟨Nat.le_of_ble_eq_true rfl, Nat.le_of_ble_eq_true rfl⟩ (Nat.le_of_ble_eq_true rfl) (Nat.le_of_ble_eq_true rfl) rfl (by exact Nat.le_of_ble_eq_true rfl) (fun x9 σ9 hp => ?_)
      obtain ⟨rfl, rfl⟩ := hp
      refine g_iload_1 (pc := 41) X dX7_wordAt_41 ?_
      refine g_iload_3 (pc := 42) X dX7_wordAt_42 ?_
      refine g_callV_I (pc := 43) X Y dX7_wordAt_43 miX7_isSpelt li_X7_80 (s_isSpelt (i := i) hR (by omega) hB te1 te2) rfl (by decide) rfl ⟨_, rfl⟩ rfl ⟨Nat.le_of_ble_eq_true rfl, Nat.le_of_ble_eq_true rfl⟩ (Nat.le_of_ble_eq_true rfl) (Nat.le_of_ble_eq_true rfl) rfl (by exact Nat.le_of_ble_eq_true rfl) (fun x9 σ9 hp => ?_)
      obtain ⟨rfl, rfl⟩ := hp
      refine g_if_eq_z (pc := 46) X dX7_wordAt_46 (tgt := 52) (by decide) (fun q => ?_) (fun q => ?_)
      · refine g_iinc_4 (pc := 52) X dX7_wordAt_52 (v := -(nI (i + 1 + 1))) (wb_dec i (by omega)) (by decide) rfl ?_
        refine g_goto (pc := 55) X dX7_wordAt_55 (tgt := 28) (by decide) ?_
        exact ih (i + 1) (by omega) (fun k hk => by
          by_cases z : k = i
          · rw [z]; exact q
          · exact hno k (by omega))
      · refine g_iload_4 (pc := 49) X dX7_wordAt_49 ?_
        exact g_ireturn (pc := 51) X Y dX7_wordAt_51 (Nat.le_of_ble_eq_true rfl) (Nat.le_of_ble_eq_true rfl) ⟨_, rfl, ((wsg_iff (by omega)).mpr q).symm, rfl⟩
  have tail : G o γ 0 0 116 σ 25 [some (.ref (ad o 4)), some (.int (nI st)), some (.int (nI n)), some (.int (nI en)), none] [] := by
    refine g_iconst (pc := 25) X dX7_wordAt_25 kiconst_m1 ?_
    refine g_istore_4 (pc := 26) X dX7_wordAt_26 (by decide) rfl ?_
    exact loop2 16 0 rfl (fun k hk => absurd hk (Nat.not_lt_zero k))
  have loop1 : ∀ (m j : Nat), j + m = en → st ≤ j → G o γ 0 0 116 σ 2 [some (.ref (ad o 4)), some (.int (nI st)), some (.int (nI n)), some (.int (nI j)), none] [] := by
    intro m
    induction m with
    | zero =>
      intro j hj hsj
      have ej : j = en := by omega
      rw [ej]
      refine g_iload_3 (pc := 2) X dX7_wordAt_2 ?_
      refine g_iload_2 (pc := 3) X dX7_wordAt_3 ?_
      refine g_icmp_ge (pc := 4) X dX7_wordAt_4 (tgt := 25) (by decide) (fun _ => tail) (fun q => ?_)
      have hlt : en < n := by
        rcases Nat.lt_or_ge en n with w | w
        · exact w
        · exact absurd (nI_le w (by omega)) q
      obtain ⟨b1, b2⟩ := hB.2 en hlt
      refine g_aload_0 (pc := 7) X dX7_wordAt_7 ?_
      refine g_getRf (pc := 8) X dX7_wordAt_8 fl_X7_22 rfl (by decide) rfl hR rfl ?_
      refine g_iload_3 (pc := 11) X dX7_wordAt_11 ?_
      refine g_iaload_w (pc := 12) X dX7_wordAt_12 rfl (by decide) (rI_i (Q := fun x => x = nI (B en)) (by omega) b1) (fun x5 h => ?_)
      subst h
      refine g_callS_I (pc := 13) X Y dX7_wordAt_13 miX7_isLetter li_X7_62 (t_X7_isLetter (b := b) hR (p_isLetter b2 (Q := fun x => x = zI (isLb (B en))) rfl)) rfl ⟨Nat.le_of_ble_eq_true rfl, Nat.le_of_ble_eq_true rfl⟩ (Nat.le_of_ble_eq_true rfl) (Nat.le_of_ble_eq_true rfl) rfl (by exact Nat.le_of_ble_eq_true rfl) (fun x9 σ9 hp => ?_)
      obtain ⟨rfl, rfl⟩ := hp
      exact g_if_eq_z (pc := 16) X dX7_wordAt_16 (tgt := 25) (by decide) (fun _ => tail) (fun q => by rw [hend hlt] at q; cases q)
    | succ m ih =>
      intro j hj hsj
      refine g_iload_3 (pc := 2) X dX7_wordAt_2 ?_
      refine g_iload_2 (pc := 3) X dX7_wordAt_3 ?_
      refine g_icmp_ge (pc := 4) X dX7_wordAt_4 (tgt := 25) (by decide) (fun q => absurd q (nI_ge (by omega) (by omega))) (fun _ => ?_)
      obtain ⟨b1, b2⟩ := hB.2 j (by omega)
      refine g_aload_0 (pc := 7) X dX7_wordAt_7 ?_
      refine g_getRf (pc := 8) X dX7_wordAt_8 fl_X7_22 rfl (by decide) rfl hR rfl ?_
      refine g_iload_3 (pc := 11) X dX7_wordAt_11 ?_
      refine g_iaload_w (pc := 12) X dX7_wordAt_12 rfl (by decide) (rI_i (Q := fun x => x = nI (B j)) (by omega) b1) (fun x5 h => ?_)
      subst h
      refine g_callS_I (pc := 13) X Y dX7_wordAt_13 miX7_isLetter li_X7_62 (t_X7_isLetter (b := b) hR (p_isLetter b2 (Q := fun x => x = zI (isLb (B j))) rfl)) rfl ⟨Nat.le_of_ble_eq_true rfl, Nat.le_of_ble_eq_true rfl⟩ (Nat.le_of_ble_eq_true rfl) (Nat.le_of_ble_eq_true rfl) rfl (by exact Nat.le_of_ble_eq_true rfl) (fun x9 σ9 hp => ?_)
      obtain ⟨rfl, rfl⟩ := hp
      refine g_if_eq_z (pc := 16) X dX7_wordAt_16 (tgt := 25) (by decide) (fun q => by rw [hin j hsj (by omega)] at q; cases q) (fun _ => ?_)
      refine g_iinc_3 (pc := 19) X dX7_wordAt_19 (v := nI (j + 1)) (nI_1 j) (by decide) rfl ?_
      refine g_goto (pc := 22) X dX7_wordAt_22 (tgt := 2) (by decide) ?_
      exact ih (j + 1) (by omega) (by omega)
  refine g_iload_1 (pc := 0) X dX7_wordAt_0 ?_
  refine g_istore_3 (pc := 1) X dX7_wordAt_1 (by decide) rfl ?_
  exact loop1 (en - st) st (by omega) (Nat.le_refl _)
end WRD
theorem wbOK_all (b : Bool) (B : Nat → Nat) (n : Nat) : wbOK b B n := fun s i hR hB h1 hl o l => s_wordAt hR hB h1 hl
