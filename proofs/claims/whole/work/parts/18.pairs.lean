def kR (b : Bool) : Nat := cond b 5 17
def kD (b : Bool) : Nat := cond b 17 5
/-- the pair's rows of the caches hold v, g, nv, ps; all other pairs' are as they were -/
def pairSet (σ σ1 : gSt) (a c : Nat) (v g : Int32) (nv ps : Bool) : Prop := (∀ j, σ1.1 24 j = if j = a * 30 + c ∨ j = c * 30 + a then v else σ.1 24 j) ∧ (∀ j, σ1.1 25 j = if j = a * 30 + c ∨ j = c * 30 + a then g else σ.1 25 j) ∧ rowSet (σ.1 26) (σ1.1 26) a c nv ∧ rowSet (σ.1 27) (σ1.1 27) a c ps
/-- of no pair nothing has changed -/
def padP (N : Nat) (σ σ1 : gSt) : Prop := (∀ i k, k < 32 → ¬ (i < N ∧ k < N ∧ i ≠ k) → bt (σ1.1 27 i) k = bt (σ.1 27 i) k) ∧ ∀ i, i < 30 → σ1.1 24 (i * 30 + i) = σ.1 24 (i * 30 + i)
def padZ (N : Nat) (σ : gSt) : Prop := (∀ i k, i < 30 → k < 32 → ¬ (i < N ∧ k < N ∧ i ≠ k) → bt (σ.1 27 i) k = false) ∧ ∀ i, i < 30 → σ.1 24 (i * 30 + i) = nI 0
theorem padP.trans {N : Nat} {σ s t : gSt} (h1 : padP N σ s) (h2 : padP N s t) : padP N σ t := ⟨fun i k hk hn => (h2.1 i k hk hn).trans (h1.1 i k hk hn), fun i hi => (h2.2 i hi).trans (h1.2 i hi)⟩
theorem padP.z {N : Nat} {σ s : gSt} (h : padP N σ s) (hz : padZ N σ) : padZ N s := ⟨fun i k hi hk hn => (h.1 i k hk hn).trans (hz.1 i k hi hk hn), fun i hi => (h.2 i hi).trans (hz.2 i hi)⟩
theorem padZ.eq {N : Nat} {σ s : gSt} (h : padZ N σ) (h27 : s.1 27 = σ.1 27) (h24 : s.1 24 = σ.1 24) : padZ N s := ⟨fun i k hi hk hn => by rw [h27]; exact h.1 i k hi hk hn, fun i hi => by rw [h24]; exact h.2 i hi⟩
theorem padZ.mono {N N2 : Nat} {σ : gSt} (h : padZ N σ) (hN : N ≤ N2) : padZ N2 σ := ⟨fun i k hi hk hn => h.1 i k hi hk (fun q => hn ⟨by omega, by omega, q.2.2⟩), h.2⟩
theorem pairSet.padd {σ σ1 : gSt} {N a c : Nat} {v g : Int32} {nv ps : Bool} (h : pairSet σ σ1 a c v g nv ps) (h30 : N ≤ 30) (ha : a < N) (hc : c < N) (hne : a ≠ c) : padP N σ σ1 := by
  refine ⟨fun i k hk hn => ?_, fun i hi => ?_⟩
  · rw [h.2.2.2 i k hk, if_neg]
    rintro (⟨rfl, rfl⟩ | ⟨rfl, rfl⟩)
    · exact hn ⟨ha, hc, hne⟩
    · exact hn ⟨hc, ha, Ne.symm hne⟩
  · rw [h.1, if_neg (by omega)]
set_option maxHeartbeats 4000000 in
theorem s_judgeP5 {o : gOm} {l : Launch} {σ : gSt} (hR : σ.2.2 = gRf true) {N : Nat} {bk nm td yr : Nat → Nat} {fa : Nat → Int32} (hE : entAt σ N bk nm td yr fa) {C : Nat} {kind st cd op : Nat → Nat} {num : Nat → Int32} (hr : rulesAt σ 5 C kind st cd op num) (hk : rulesOK C kind st cd op) (a c : Nat) (ha : a < N) (hc : c < N) : Sp o l mX4_judge 6 0 0 [.ref (ad o 16), .int (nI a), .int (nI c)] 116 116 σ (pV (fun σ1 => Off [24, 25, 26, 27, 29, 5, 11] σ σ1 ∧ (∀ j, j ≠ 1 → j ≠ 2 → j ≠ 3 → j ≠ 4 → σ1.1 5 j = σ.1 5 j) ∧ pairSet σ σ1 a c (if nvr (fct (σ.1 3) bk nm td yr fa a c) num kind st cd op C then nI 0 else vdt (fct (σ.1 3) bk nm td yr fa a c) num kind st cd op C) (rsn (fct (σ.1 3) bk nm td yr fa a c) num kind st cd op C) (nvr (fct (σ.1 3) bk nm td yr fa a c) num kind st cd op C) (psd (fct (σ.1 3) bk nm td yr fa a c) num kind st cd op C))) := by
  refine Sp.of (ls0 := [some (.ref (ad o 16)), some (.int (nI a)), some (.int (nI c))]) miX4_judge rfl (Nat.le_of_ble_eq_true rfl) rfl (fun γ hγ hnm X Y => ?_)
  subst hγ
  have X : gX o γ cX4_judge 3 RX4 := X
  have hN := hE.2.1
  refine g_aload_0 (pc := 0) X dX4_judge_0 ?_
  refine g_getRf (pc := 1) X dX4_judge_1 fl_X4_37 rfl (by decide) rfl hR rfl ?_
  refine g_iload_1 (pc := 4) X dX4_judge_4 ?_
  refine g_iload_2 (pc := 5) X dX4_judge_5 ?_
  refine g_aload_0 (pc := 6) X dX4_judge_6 ?_
  refine g_getRf (pc := 7) X dX4_judge_7 fl_X4_34 rfl (by decide) rfl hR rfl ?_
  refine g_callV_V (pc := 10) X Y dX4_judge_10 miX1_compare li_X4_73 (s_compare hR hE a c ha hc) rfl (by decide) rfl ⟨_, rfl⟩ rfl ⟨Nat.le_of_ble_eq_true rfl, Nat.le_of_ble_eq_true rfl⟩ (Nat.le_of_ble_eq_true rfl) (Nat.le_of_ble_eq_true rfl) rfl (by exact Nat.le_of_ble_eq_true rfl) (fun σ1 hp => ?_)
  obtain ⟨hO, hf⟩ := hp
  have hr1 : rulesAt σ1 5 C kind st cd op num := hr.off (by rw [(hO.1 5 (by decide)).1]) (fun j q1 q2 => (hO.1 _ (by simp; omega)).1)
  refine g_aload_0 (pc := 13) X dX4_judge_13 ?_
  refine g_getRf (pc := 14) X dX4_judge_14 fl_X4_12 rfl (by decide) rfl (hO.2.trans hR) (show gRf true 16 1 = some 5 from rfl) ?_
  refine g_aload_0 (pc := 17) X dX4_judge_17 ?_
  refine g_getRf (pc := 18) X dX4_judge_18 fl_X4_34 rfl (by decide) rfl (hO.2.trans hR) rfl ?_
  refine g_callV_V (pc := 21) X Y dX4_judge_21 miX9_judge li_X4_77 (s_judgeR5 (hO.2.trans hR) hr1 hk hf) rfl (by decide) rfl ⟨_, rfl⟩ rfl ⟨Nat.le_of_ble_eq_true rfl, Nat.le_of_ble_eq_true rfl⟩ (Nat.le_of_ble_eq_true rfl) (Nat.le_of_ble_eq_true rfl) rfl (by exact Nat.le_of_ble_eq_true rfl) (fun σ2 hp => ?_)
  obtain ⟨hO2, h2, hv, hre, hne, hps⟩ := hp
  have hRb := hO2.2.trans (hO.2.trans hR)
  refine g_aload_0 (pc := 24) X dX4_judge_24 ?_
  refine g_getRf (pc := 25) X dX4_judge_25 fl_X4_28 rfl (by decide) rfl hRb rfl ?_
  refine g_iload_1 (pc := 28) X dX4_judge_28 ?_
  refine g_iload_2 (pc := 29) X dX4_judge_29 ?_
  refine g_aload_0 (pc := 30) X dX4_judge_30 ?_
  refine g_getRf (pc := 31) X dX4_judge_31 fl_X4_12 rfl (by decide) rfl hRb (show gRf true 16 1 = some 5 from rfl) ?_
  refine g_getI (pc := 34) X dX4_judge_34 rfl (by decide) fl_X4_80 (Or.inr rfl) ?_
  rw [hps]
  refine g_callSN_V (pc := 37) X Y dX4_judge_37 miX11_setBit li_X4_58 (s_setBit (k := 27) (len := 30) (by decide) rfl (by omega) (by omega) (by decide)) rfl ⟨Nat.le_of_ble_eq_true rfl, Nat.le_of_ble_eq_true rfl⟩ (Nat.le_of_ble_eq_true rfl) (Nat.le_of_ble_eq_true rfl) rfl (by exact Nat.le_of_ble_eq_true rfl) (fun σ3 hp => ?_)
  obtain ⟨hO3, hs3⟩ := hp
  have hRc := hO3.2.trans hRb
  refine g_aload_0 (pc := 40) X dX4_judge_40 ?_
  refine g_iload_1 (pc := 41) X dX4_judge_41 ?_
  refine g_iload_2 (pc := 42) X dX4_judge_42 ?_
  refine g_aload_0 (pc := 43) X dX4_judge_43 ?_
  refine g_getRf (pc := 44) X dX4_judge_44 fl_X4_12 rfl (by decide) rfl hRc (show gRf true 16 1 = some 5 from rfl) ?_
  refine g_getI (pc := 47) X dX4_judge_47 rfl (by decide) fl_X4_84 (Or.inr rfl) ?_
  rw [(hO3.1 5 (by decide)).1, hne]
  apply g_val (v := .int (if nvr (fct (σ.1 3) bk nm td yr fa a c) num kind st cd op C then nI 0 else vdt (fct (σ.1 3) bk nm td yr fa a c) num kind st cd op C)) (pcJ := 64)
  · intro T9
    first | refine g_if_eq_z (pc := 50) X dX4_judge_50 (tgt := 57) (by decide) (fun h50 => ?_) (fun h50 => ?_) | refine g_if_eq (pc := 50) X dX4_judge_50 (tgt := 57) (by decide) (fun h50 => ?_) (fun h50 => ?_)
    · refine g_aload_0 (pc := 57) X dX4_judge_57 ?_
      refine g_getRf (pc := 58) X dX4_judge_58 fl_X4_12 rfl (by decide) rfl hRc (show gRf true 16 1 = some 5 from rfl) ?_
      refine g_getI (pc := 61) X dX4_judge_61 rfl (by decide) fl_X4_87 (Or.inl rfl) ?_
      exact T9 _ (by first | (simp_all; done) | simp_all [(hO3.1 5 (by decide)).1])
    · refine g_iconst (pc := 53) X dX4_judge_53 kiconst_0 ?_
      refine g_goto (pc := 54) X dX4_judge_54 (tgt := 64) (by decide) ?_
      exact T9 _ (by first | (simp_all; done) | simp_all [(hO3.1 5 (by decide)).1])
  · refine g_aload_0 (pc := 64) X dX4_judge_64 ?_
    refine g_getRf (pc := 65) X dX4_judge_65 fl_X4_12 rfl (by decide) rfl hRc (show gRf true 16 1 = some 5 from rfl) ?_
    refine g_getI (pc := 68) X dX4_judge_68 rfl (by decide) fl_X4_90 (Or.inl rfl) ?_
    rw [(hO3.1 5 (by decide)).1, hre]
    refine g_aload_0 (pc := 71) X dX4_judge_71 ?_
    refine g_getRf (pc := 72) X dX4_judge_72 fl_X4_12 rfl (by decide) rfl hRc (show gRf true 16 1 = some 5 from rfl) ?_
    refine g_getI (pc := 75) X dX4_judge_75 rfl (by decide) fl_X4_84 (Or.inr rfl) ?_
    rw [(hO3.1 5 (by decide)).1, hne]
    refine g_callV_V (pc := 78) X Y dX4_judge_78 miX4_write li_X4_63 (s_write (by exact hRc) a c _ _ _ (by omega) (by omega)) rfl (by decide) rfl ⟨_, rfl⟩ rfl ⟨Nat.le_of_ble_eq_true rfl, Nat.le_of_ble_eq_true rfl⟩ (Nat.le_of_ble_eq_true rfl) (Nat.le_of_ble_eq_true rfl) rfl (by exact Nat.le_of_ble_eq_true rfl) (fun σ4 hp => ?_)
    obtain ⟨hO4, w1, w2, w3⟩ := hp
    have e24 : ∀ k, k = 24 ∨ k = 25 ∨ k = 26 → σ3.1 k = σ.1 k := fun k hk9 => by
      rw [(hO3.1 k (by simp; omega)).1, (hO2.1 k (by simp; omega)).1, (hO.1 k (by simp; omega)).1]
    refine g_return (pc := 81) X Y dX4_judge_81 (Nat.le_of_ble_eq_true rfl) (Nat.le_of_ble_eq_true rfl) ⟨rfl, (((hO.mono (by simp)).trans (hO2.mono (by simp))).trans (hO3.mono (by simp))).trans (hO4.mono (by simp)), fun j q1 q2 q3 q4 => ?_, fun j => ?_, fun j => ?_, ?_, ?_⟩
    · rw [(hO4.1 5 (by decide)).1, (hO3.1 5 (by decide)).1, h2 j q1 q2 q3 q4, (hO.1 5 (by decide)).1]
    · rw [w1, e24 24 (by simp)]
    · rw [w2, e24 25 (by simp)]
    · rw [e24 26 (by simp)] at w3; exact w3
    · rw [(hO2.1 27 (by decide)).1, (hO.1 27 (by decide)).1] at hs3
      rw [(hO4.1 27 (by decide)).1]; exact hs3
set_option maxHeartbeats 4000000 in
theorem s_judgeP17 {o : gOm} {l : Launch} {σ : gSt} (hR : σ.2.2 = gRf false) {N : Nat} {bk nm td yr : Nat → Nat} {fa : Nat → Int32} (hE : entAt σ N bk nm td yr fa) {C : Nat} {kind st cd op : Nat → Nat} {num : Nat → Int32} (hr : rulesAt σ 17 C kind st cd op num) (hk : rulesOK C kind st cd op) (a c : Nat) (ha : a < N) (hc : c < N) : Sp o l mX4_judge 6 0 0 [.ref (ad o 16), .int (nI a), .int (nI c)] 116 116 σ (pV (fun σ1 => Off [24, 25, 26, 27, 29, 17, 23] σ σ1 ∧ (∀ j, j ≠ 1 → j ≠ 2 → j ≠ 3 → j ≠ 4 → σ1.1 17 j = σ.1 17 j) ∧ pairSet σ σ1 a c (if nvr (fct (σ.1 3) bk nm td yr fa a c) num kind st cd op C then nI 0 else vdt (fct (σ.1 3) bk nm td yr fa a c) num kind st cd op C) (rsn (fct (σ.1 3) bk nm td yr fa a c) num kind st cd op C) (nvr (fct (σ.1 3) bk nm td yr fa a c) num kind st cd op C) (psd (fct (σ.1 3) bk nm td yr fa a c) num kind st cd op C))) := by
  refine Sp.of (ls0 := [some (.ref (ad o 16)), some (.int (nI a)), some (.int (nI c))]) miX4_judge rfl (Nat.le_of_ble_eq_true rfl) rfl (fun γ hγ hnm X Y => ?_)
  subst hγ
  have X : gX o γ cX4_judge 3 RX4 := X
  have hN := hE.2.1
  refine g_aload_0 (pc := 0) X dX4_judge_0 ?_
  refine g_getRf (pc := 1) X dX4_judge_1 fl_X4_37 rfl (by decide) rfl hR rfl ?_
  refine g_iload_1 (pc := 4) X dX4_judge_4 ?_
  refine g_iload_2 (pc := 5) X dX4_judge_5 ?_
  refine g_aload_0 (pc := 6) X dX4_judge_6 ?_
  refine g_getRf (pc := 7) X dX4_judge_7 fl_X4_34 rfl (by decide) rfl hR rfl ?_
  refine g_callV_V (pc := 10) X Y dX4_judge_10 miX1_compare li_X4_73 (s_compare hR hE a c ha hc) rfl (by decide) rfl ⟨_, rfl⟩ rfl ⟨Nat.le_of_ble_eq_true rfl, Nat.le_of_ble_eq_true rfl⟩ (Nat.le_of_ble_eq_true rfl) (Nat.le_of_ble_eq_true rfl) rfl (by exact Nat.le_of_ble_eq_true rfl) (fun σ1 hp => ?_)
  obtain ⟨hO, hf⟩ := hp
  have hr1 : rulesAt σ1 17 C kind st cd op num := hr.off (by rw [(hO.1 17 (by decide)).1]) (fun j q1 q2 => (hO.1 _ (by simp; omega)).1)
  refine g_aload_0 (pc := 13) X dX4_judge_13 ?_
  refine g_getRf (pc := 14) X dX4_judge_14 fl_X4_12 rfl (by decide) rfl (hO.2.trans hR) (show gRf false 16 1 = some 17 from rfl) ?_
  refine g_aload_0 (pc := 17) X dX4_judge_17 ?_
  refine g_getRf (pc := 18) X dX4_judge_18 fl_X4_34 rfl (by decide) rfl (hO.2.trans hR) rfl ?_
  refine g_callV_V (pc := 21) X Y dX4_judge_21 miX9_judge li_X4_77 (s_judgeR17 (hO.2.trans hR) hr1 hk hf) rfl (by decide) rfl ⟨_, rfl⟩ rfl ⟨Nat.le_of_ble_eq_true rfl, Nat.le_of_ble_eq_true rfl⟩ (Nat.le_of_ble_eq_true rfl) (Nat.le_of_ble_eq_true rfl) rfl (by exact Nat.le_of_ble_eq_true rfl) (fun σ2 hp => ?_)
  obtain ⟨hO2, h2, hv, hre, hne, hps⟩ := hp
  have hRb := hO2.2.trans (hO.2.trans hR)
  refine g_aload_0 (pc := 24) X dX4_judge_24 ?_
  refine g_getRf (pc := 25) X dX4_judge_25 fl_X4_28 rfl (by decide) rfl hRb rfl ?_
  refine g_iload_1 (pc := 28) X dX4_judge_28 ?_
  refine g_iload_2 (pc := 29) X dX4_judge_29 ?_
  refine g_aload_0 (pc := 30) X dX4_judge_30 ?_
  refine g_getRf (pc := 31) X dX4_judge_31 fl_X4_12 rfl (by decide) rfl hRb (show gRf false 16 1 = some 17 from rfl) ?_
  refine g_getI (pc := 34) X dX4_judge_34 rfl (by decide) fl_X4_80 (Or.inr rfl) ?_
  rw [hps]
  refine g_callSN_V (pc := 37) X Y dX4_judge_37 miX11_setBit li_X4_58 (s_setBit (k := 27) (len := 30) (by decide) rfl (by omega) (by omega) (by decide)) rfl ⟨Nat.le_of_ble_eq_true rfl, Nat.le_of_ble_eq_true rfl⟩ (Nat.le_of_ble_eq_true rfl) (Nat.le_of_ble_eq_true rfl) rfl (by exact Nat.le_of_ble_eq_true rfl) (fun σ3 hp => ?_)
  obtain ⟨hO3, hs3⟩ := hp
  have hRc := hO3.2.trans hRb
  refine g_aload_0 (pc := 40) X dX4_judge_40 ?_
  refine g_iload_1 (pc := 41) X dX4_judge_41 ?_
  refine g_iload_2 (pc := 42) X dX4_judge_42 ?_
  refine g_aload_0 (pc := 43) X dX4_judge_43 ?_
  refine g_getRf (pc := 44) X dX4_judge_44 fl_X4_12 rfl (by decide) rfl hRc (show gRf false 16 1 = some 17 from rfl) ?_
  refine g_getI (pc := 47) X dX4_judge_47 rfl (by decide) fl_X4_84 (Or.inr rfl) ?_
  rw [(hO3.1 17 (by decide)).1, hne]
  apply g_val (v := .int (if nvr (fct (σ.1 3) bk nm td yr fa a c) num kind st cd op C then nI 0 else vdt (fct (σ.1 3) bk nm td yr fa a c) num kind st cd op C)) (pcJ := 64)
  · intro T9
    first | refine g_if_eq_z (pc := 50) X dX4_judge_50 (tgt := 57) (by decide) (fun h50 => ?_) (fun h50 => ?_) | refine g_if_eq (pc := 50) X dX4_judge_50 (tgt := 57) (by decide) (fun h50 => ?_) (fun h50 => ?_)
    · refine g_aload_0 (pc := 57) X dX4_judge_57 ?_
      refine g_getRf (pc := 58) X dX4_judge_58 fl_X4_12 rfl (by decide) rfl hRc (show gRf false 16 1 = some 17 from rfl) ?_
      refine g_getI (pc := 61) X dX4_judge_61 rfl (by decide) fl_X4_87 (Or.inl rfl) ?_
      exact T9 _ (by first | (simp_all; done) | simp_all [(hO3.1 17 (by decide)).1])
    · refine g_iconst (pc := 53) X dX4_judge_53 kiconst_0 ?_
      refine g_goto (pc := 54) X dX4_judge_54 (tgt := 64) (by decide) ?_
      exact T9 _ (by first | (simp_all; done) | simp_all [(hO3.1 17 (by decide)).1])
  · refine g_aload_0 (pc := 64) X dX4_judge_64 ?_
    refine g_getRf (pc := 65) X dX4_judge_65 fl_X4_12 rfl (by decide) rfl hRc (show gRf false 16 1 = some 17 from rfl) ?_
    refine g_getI (pc := 68) X dX4_judge_68 rfl (by decide) fl_X4_90 (Or.inl rfl) ?_
    rw [(hO3.1 17 (by decide)).1, hre]
    refine g_aload_0 (pc := 71) X dX4_judge_71 ?_
    refine g_getRf (pc := 72) X dX4_judge_72 fl_X4_12 rfl (by decide) rfl hRc (show gRf false 16 1 = some 17 from rfl) ?_
    refine g_getI (pc := 75) X dX4_judge_75 rfl (by decide) fl_X4_84 (Or.inr rfl) ?_
    rw [(hO3.1 17 (by decide)).1, hne]
    refine g_callV_V (pc := 78) X Y dX4_judge_78 miX4_write li_X4_63 (s_write (by exact hRc) a c _ _ _ (by omega) (by omega)) rfl (by decide) rfl ⟨_, rfl⟩ rfl ⟨Nat.le_of_ble_eq_true rfl, Nat.le_of_ble_eq_true rfl⟩ (Nat.le_of_ble_eq_true rfl) (Nat.le_of_ble_eq_true rfl) rfl (by exact Nat.le_of_ble_eq_true rfl) (fun σ4 hp => ?_)
    obtain ⟨hO4, w1, w2, w3⟩ := hp
    have e24 : ∀ k, k = 24 ∨ k = 25 ∨ k = 26 → σ3.1 k = σ.1 k := fun k hk9 => by
      rw [(hO3.1 k (by simp; omega)).1, (hO2.1 k (by simp; omega)).1, (hO.1 k (by simp; omega)).1]
    refine g_return (pc := 81) X Y dX4_judge_81 (Nat.le_of_ble_eq_true rfl) (Nat.le_of_ble_eq_true rfl) ⟨rfl, (((hO.mono (by simp)).trans (hO2.mono (by simp))).trans (hO3.mono (by simp))).trans (hO4.mono (by simp)), fun j q1 q2 q3 q4 => ?_, fun j => ?_, fun j => ?_, ?_, ?_⟩
    · rw [(hO4.1 17 (by decide)).1, (hO3.1 17 (by decide)).1, h2 j q1 q2 q3 q4, (hO.1 17 (by decide)).1]
    · rw [w1, e24 24 (by simp)]
    · rw [w2, e24 25 (by simp)]
    · rw [e24 26 (by simp)] at w3; exact w3
    · rw [(hO2.1 27 (by decide)).1, (hO.1 27 (by decide)).1] at hs3
      rw [(hO4.1 27 (by decide)).1]; exact hs3
theorem s_judgeP {o : gOm} {l : Launch} {σ : gSt} {b : Bool} (hR : σ.2.2 = gRf b) {N : Nat} {bk nm td yr : Nat → Nat} {fa : Nat → Int32} (hE : entAt σ N bk nm td yr fa) {C : Nat} {kind st cd op : Nat → Nat} {num : Nat → Int32} (hr : rulesAt σ (kR b) C kind st cd op num) (hk : rulesOK C kind st cd op) (a c : Nat) (ha : a < N) (hc : c < N) : Sp o l mX4_judge 6 0 0 [.ref (ad o 16), .int (nI a), .int (nI c)] 116 116 σ (pV (fun σ1 => Off [24, 25, 26, 27, 29, kR b, kR b + 6] σ σ1 ∧ (∀ j, j ≠ 1 → j ≠ 2 → j ≠ 3 → j ≠ 4 → σ1.1 (kR b) j = σ.1 (kR b) j) ∧ pairSet σ σ1 a c (if nvr (fct (σ.1 3) bk nm td yr fa a c) num kind st cd op C then nI 0 else vdt (fct (σ.1 3) bk nm td yr fa a c) num kind st cd op C) (rsn (fct (σ.1 3) bk nm td yr fa a c) num kind st cd op C) (nvr (fct (σ.1 3) bk nm td yr fa a c) num kind st cd op C) (psd (fct (σ.1 3) bk nm td yr fa a c) num kind st cd op C))) := by
  cases b
  · exact s_judgeP17 hR hE hr hk a c ha hc
  · exact s_judgeP5 hR hE hr hk a c ha hc
