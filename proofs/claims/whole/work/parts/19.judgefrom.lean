/-- what the caches hold of a pair -/
def cachedAt (σ : gSt) (a c : Nat) (v g : Int32) (nv ps : Bool) : Prop := σ.1 24 (a * 30 + c) = v ∧ σ.1 24 (c * 30 + a) = v ∧ σ.1 25 (a * 30 + c) = g ∧ σ.1 25 (c * 30 + a) = g ∧ bt (σ.1 26 a) c = nv ∧ bt (σ.1 26 c) a = nv ∧ bt (σ.1 27 a) c = ps ∧ bt (σ.1 27 c) a = ps
theorem pairSet.new {σ σ1 : gSt} {a c : Nat} {v g : Int32} {nv ps : Bool} (h : pairSet σ σ1 a c v g nv ps) (ha : a < 30) (hc : c < 30) : cachedAt σ1 a c v g nv ps := by
  obtain ⟨h1, h2, h3, h4⟩ := h
  refine ⟨by rw [h1, if_pos (Or.inl rfl)], by rw [h1, if_pos (Or.inr rfl)], by rw [h2, if_pos (Or.inl rfl)], by rw [h2, if_pos (Or.inr rfl)], ?_, ?_, ?_, ?_⟩
  · rw [h3 a c (by omega), if_pos (Or.inl ⟨rfl, rfl⟩)]
  · rw [h3 c a (by omega), if_pos (Or.inr ⟨rfl, rfl⟩)]
  · rw [h4 a c (by omega), if_pos (Or.inl ⟨rfl, rfl⟩)]
  · rw [h4 c a (by omega), if_pos (Or.inr ⟨rfl, rfl⟩)]
theorem pairSet.old {σ σ1 : gSt} {a c x y : Nat} {v g v1 g1 : Int32} {nv ps nv1 ps1 : Bool} (h : pairSet σ σ1 a c v g nv ps) (ha : a < 30) (hc : c < 30) (hx : x < 30) (hy : y < 30) (hne : ¬ (x = a ∧ y = c)) (hne2 : ¬ (x = c ∧ y = a)) (q : cachedAt σ x y v1 g1 nv1 ps1) : cachedAt σ1 x y v1 g1 nv1 ps1 := by
  obtain ⟨h1, h2, h3, h4⟩ := h
  obtain ⟨q1, q2, q3, q4, q5, q6, q7, q8⟩ := q
  refine ⟨?_, ?_, ?_, ?_, ?_, ?_, ?_, ?_⟩
  · rw [h1, if_neg (by omega)]; exact q1
  · rw [h1, if_neg (by omega)]; exact q2
  · rw [h2, if_neg (by omega)]; exact q3
  · rw [h2, if_neg (by omega)]; exact q4
  · rw [h3 x y (by omega), if_neg (by omega)]; exact q5
  · rw [h3 y x (by omega), if_neg (by omega)]; exact q6
  · rw [h4 x y (by omega), if_neg (by omega)]; exact q7
  · rw [h4 y x (by omega), if_neg (by omega)]; exact q8
/-- the pair's caches are what the rules tell -/
def ruled (σ σ1 : gSt) (bk nm td yr : Nat → Nat) (fa : Nat → Int32) (C : Nat) (kind st cd op : Nat → Nat) (num : Nat → Int32) (i j : Nat) : Prop := cachedAt σ1 i j (if nvr (fct (σ.1 3) bk nm td yr fa i j) num kind st cd op C then nI 0 else vdt (fct (σ.1 3) bk nm td yr fa i j) num kind st cd op C) (rsn (fct (σ.1 3) bk nm td yr fa i j) num kind st cd op C) (nvr (fct (σ.1 3) bk nm td yr fa i j) num kind st cd op C) (psd (fct (σ.1 3) bk nm td yr fa i j) num kind st cd op C)
def judged (e N : Nat) (σ σ1 : gSt) (bk nm td yr : Nat → Nat) (fa : Nat → Int32) (C : Nat) (kind st cd op : Nat → Nat) (num : Nat → Int32) (i0 j0 : Nat) : Prop := (∀ i j, j < i → i < N → (e ≤ i → (i < i0 ∨ (i = i0 ∧ j < j0)) → bt (σ.1 28 i) j = false → ruled σ σ1 bk nm td yr fa C kind st cd op num i j) ∧ (¬ (e ≤ i ∧ (i < i0 ∨ (i = i0 ∧ j < j0)) ∧ bt (σ.1 28 i) j = false) → ∀ v g nv ps, cachedAt σ i j v g nv ps → cachedAt σ1 i j v g nv ps)) ∧ padP N σ σ1
set_option maxHeartbeats 4000000 in
theorem s_judgeFrom {o : gOm} {l : Launch} {σ : gSt} {b : Bool} (hR : σ.2.2 = gRf b) {N : Nat} {bk nm td yr : Nat → Nat} {fa : Nat → Int32} (hE : entAt σ N bk nm td yr fa) {C : Nat} {kind st cd op : Nat → Nat} {num : Nat → Int32} (hr : rulesAt σ (kR b) C kind st cd op num) (hk : rulesOK C kind st cd op) (e : Nat) (he : e ≤ N) : Sp o l mX4_judgeFrom 7 0 0 [.ref (ad o 16), .int (nI e)] 116 116 σ (pV (fun σ1 => Off [24, 25, 26, 27, 29, kR b, kR b + 6] σ σ1 ∧ (∀ j, j ≠ 1 → j ≠ 2 → j ≠ 3 → j ≠ 4 → σ1.1 (kR b) j = σ.1 (kR b) j) ∧ judged e N σ σ1 bk nm td yr fa C kind st cd op num N 0)) := by
  refine Sp.of (ls0 := [some (.ref (ad o 16)), some (.int (nI e)), none, none]) miX4_judgeFrom rfl (Nat.le_of_ble_eq_true rfl) rfl (fun γ hγ hnm X Y => ?_)
  subst hγ
  have X : gX o γ cX4_judgeFrom 4 RX4 := X
  have hN := hE.2.1
  have hL : ∀ (m i : Nat), i ≤ N → N + 1 ≤ i + m → e ≤ i → ∀ σ1 : gSt, Off [24, 25, 26, 27, 29, kR b, kR b + 6] σ σ1 → (∀ j, j ≠ 1 → j ≠ 2 → j ≠ 3 → j ≠ 4 → σ1.1 (kR b) j = σ.1 (kR b) j) → judged e N σ σ1 bk nm td yr fa C kind st cd op num i 0 → G o γ 0 0 116 σ1 2 [some (.ref (ad o 16)), some (.int (nI e)), some (.int (nI i)), none] [] := by
    intro m
    induction m with
    | zero => intro i q1 q2; omega
    | succ m ihhL =>
      intro i q1 q2 hei σ1 hO hf hJ
      have hR1 := hO.2.trans hR
      have hkb : kR b = 5 ∨ kR b = 17 := by cases b <;> simp [kR]
      have hE1 : entAt σ1 N bk nm td yr fa := hE.off hO (by simp; omega) (by simp; omega)
      have hr1 : rulesAt σ1 (kR b) C kind st cd op num := hr.off (hf 0 (by decide) (by decide) (by decide) (by decide)) (fun j q1 q2 => (hO.1 _ (by simp; omega)).1)
      have h28 : σ1.1 28 = σ.1 28 := (hO.1 28 (by simp; omega)).1
      have h3 : σ1.1 3 = σ.1 3 := (hO.1 3 (by simp; omega)).1
      refine g_iload_2 (pc := 2) X dX4_judgeFrom_2 ?_
      refine g_aload_0 (pc := 3) X dX4_judgeFrom_3 ?_
      refine g_getRf (pc := 4) X dX4_judgeFrom_4 fl_X4_37 rfl (by decide) rfl hR1 rfl ?_
      refine g_getI (pc := 7) X dX4_judgeFrom_7 rfl (by decide) fl_X4_41 (Or.inl rfl) ?_
      rw [hE1.1]
      first | refine g_icmp_ge_n (pc := 10) X dX4_judgeFrom_10 (tgt := 47) (by decide) (by omega) (by omega) (fun h10 => ?_) (fun h10 => ?_) | refine g_icmp_ge (pc := 10) X dX4_judgeFrom_10 (tgt := 47) (by decide) (fun h10 => ?_) (fun h10 => ?_)
      · exact g_return (pc := 47) X Y dX4_judgeFrom_47 (Nat.le_of_ble_eq_true rfl) (Nat.le_of_ble_eq_true rfl) (by obtain rfl : i = N := (by omega); exact ⟨rfl, hO, hf, hJ⟩)
      · refine g_iconst (pc := 13) X dX4_judgeFrom_13 kiconst_0 ?_
        refine g_istore_3 (pc := 14) X dX4_judgeFrom_14 (by decide) rfl ?_
        have hM : ∀ (m2 j : Nat), j ≤ i → i + 1 ≤ j + m2 → ∀ σ1 : gSt, Off [24, 25, 26, 27, 29, kR b, kR b + 6] σ σ1 → (∀ j, j ≠ 1 → j ≠ 2 → j ≠ 3 → j ≠ 4 → σ1.1 (kR b) j = σ.1 (kR b) j) → judged e N σ σ1 bk nm td yr fa C kind st cd op num i j → G o γ 0 0 116 σ1 15 [some (.ref (ad o 16)), some (.int (nI e)), some (.int (nI i)), some (.int (nI j))] [] := by
          intro m2
          induction m2 with
          | zero => intro j q1 q2; omega
          | succ m2 ihhM =>
            intro j q1 q2 σ1 hO hf hJ
            have hR1 := hO.2.trans hR
            have hkb : kR b = 5 ∨ kR b = 17 := by cases b <;> simp [kR]
            have hE1 : entAt σ1 N bk nm td yr fa := hE.off hO (by simp; omega) (by simp; omega)
            have hr1 : rulesAt σ1 (kR b) C kind st cd op num := hr.off (hf 0 (by decide) (by decide) (by decide) (by decide)) (fun j q1 q2 => (hO.1 _ (by simp; omega)).1)
            have h28 : σ1.1 28 = σ.1 28 := (hO.1 28 (by simp; omega)).1
            have h3 : σ1.1 3 = σ.1 3 := (hO.1 3 (by simp; omega)).1
            refine g_iload_3 (pc := 15) X dX4_judgeFrom_15 ?_
            refine g_iload_2 (pc := 16) X dX4_judgeFrom_16 ?_
            first | refine g_icmp_ge_n (pc := 17) X dX4_judgeFrom_17 (tgt := 41) (by decide) (by omega) (by omega) (fun h17 => ?_) (fun h17 => ?_) | refine g_icmp_ge (pc := 17) X dX4_judgeFrom_17 (tgt := 41) (by decide) (fun h17 => ?_) (fun h17 => ?_)
            · refine g_iinc_2_n (pc := 41) X dX4_judgeFrom_41 (by decide) rfl ?_
              refine g_goto (pc := 44) X dX4_judgeFrom_44 (tgt := 2) (by decide) ?_
              have ej : j = i := by omega
              subst ej
              exact g_drop (by simp [lsub]) (ihhL (j + 1) (by omega) (by omega) (by omega) σ1 hO hf ⟨fun x y q5 q6 => ⟨fun q7 q8 q9 => (hJ.1 x y q5 q6).1 q7 (by omega) q9, fun q7 v g nv ps q8 => (hJ.1 x y q5 q6).2 (fun q9 => q7 ⟨q9.1, by omega, q9.2.2⟩) v g nv ps q8⟩, hJ.2⟩)
            · refine g_aload_0 (pc := 20) X dX4_judgeFrom_20 ?_
              refine g_iload_2 (pc := 21) X dX4_judgeFrom_21 ?_
              refine g_iload_3 (pc := 22) X dX4_judgeFrom_22 ?_
              refine g_callV_I (pc := 23) X Y dX4_judgeFrom_23 miX4_isByHand li_X4_47 (s_isByHand (by exact hR1) i j (by omega) (by omega)) rfl (by decide) rfl ⟨_, rfl⟩ rfl ⟨Nat.le_of_ble_eq_true rfl, Nat.le_of_ble_eq_true rfl⟩ (Nat.le_of_ble_eq_true rfl) (Nat.le_of_ble_eq_true rfl) rfl (by exact Nat.le_of_ble_eq_true rfl) (fun x9 σ1 hp => ?_)
              obtain ⟨rfl, rfl⟩ := hp
              rw [h28]
              first | refine g_if_ne_z (pc := 26) X dX4_judgeFrom_26 (tgt := 35) (by decide) (fun h26 => ?_) (fun h26 => ?_) | refine g_if_ne (pc := 26) X dX4_judgeFrom_26 (tgt := 35) (by decide) (fun h26 => ?_) (fun h26 => ?_)
              · refine g_iinc_3_n (pc := 35) X dX4_judgeFrom_35 (by decide) rfl ?_
                refine g_goto (pc := 38) X dX4_judgeFrom_38 (tgt := 15) (by decide) ?_
                exact ihhM (j + 1) (by omega) (by omega) σ1 hO hf ⟨fun x y q5 q6 => ⟨fun q7 q8 q9 => (hJ.1 x y q5 q6).1 q7 (by
                  rcases q8 with q8 | ⟨q8, q10⟩
                  · exact Or.inl q8
                  · refine Or.inr ⟨q8, ?_⟩
                    rcases Nat.lt_or_ge y j with z | z
                    · exact z
                    · have : y = j := by omega
                      subst q8; subst this
                      rw [h26] at q9; cases q9) q9, fun q7 v g nv ps q8 => (hJ.1 x y q5 q6).2 (fun q9 => q7 ⟨q9.1, by omega, q9.2.2⟩) v g nv ps q8⟩, hJ.2⟩
              · refine g_aload_0 (pc := 29) X dX4_judgeFrom_29 ?_
                refine g_iload_2 (pc := 30) X dX4_judgeFrom_30 ?_
                refine g_iload_3 (pc := 31) X dX4_judgeFrom_31 ?_
                refine g_callV_V (pc := 32) X Y dX4_judgeFrom_32 miX4_judge li_X4_51 (s_judgeP (by exact hR1) hE1 hr1 hk i j (by omega) (by omega)) rfl (by decide) rfl ⟨_, rfl⟩ rfl ⟨Nat.le_of_ble_eq_true rfl, Nat.le_of_ble_eq_true rfl⟩ (Nat.le_of_ble_eq_true rfl) (Nat.le_of_ble_eq_true rfl) rfl (by exact Nat.le_of_ble_eq_true rfl) (fun σ2 hp => ?_)
                obtain ⟨hO2, hf2, hp2⟩ := hp
                first | refine g_iinc_3_n (pc := 35) X dX4_judgeFrom_35 (by decide) rfl ?_ | refine g_iinc_3 (pc := 35) X dX4_judgeFrom_35 rfl (by decide) rfl ?_
                refine g_goto (pc := 38) X dX4_judgeFrom_38 (tgt := 15) (by decide) ?_
                exact ihhM (j + 1) (by omega) (by omega) σ2 (hO.trans hO2) (fun x q5 q6 q7 q8 => (hf2 x q5 q6 q7 q8).trans (hf x q5 q6 q7 q8)) ⟨fun x y q5 q6 => ⟨fun q7 q8 q9 => (by
                  by_cases z : x = i ∧ y = j
                  · obtain ⟨rfl, rfl⟩ := z
                    unfold ruled
                    rw [← h3]
                    exact hp2.new (by omega) (by omega)
                  · have w := (hJ.1 x y q5 q6).1 q7 (by omega) q9
                    exact hp2.old (by omega) (by omega) (by omega) (by omega) z (by omega) w), fun q7 v g nv ps q8 => (by
                  by_cases z : x = i ∧ y = j
                  · obtain ⟨rfl, rfl⟩ := z
                    exact absurd ⟨by omega, by omega, h26⟩ q7
                  · exact hp2.old (by omega) (by omega) (by omega) (by omega) z (by omega) ((hJ.1 x y q5 q6).2 (fun q9 => q7 ⟨q9.1, by omega, q9.2.2⟩) v g nv ps q8))⟩, hJ.2.trans (hp2.padd hE.2.1 (by omega) (by omega) (by omega))⟩
        exact hM (i + 1) 0 (by omega) (by omega) σ1 hO hf hJ
  refine g_iload_1 (pc := 0) X dX4_judgeFrom_0 ?_
  refine g_istore_2 (pc := 1) X dX4_judgeFrom_1 (by decide) rfl ?_
  exact hL (N + 1) e he (by omega) (Nat.le_refl _) σ Off.rf (fun _ _ _ _ _ => rfl) ⟨fun x y q5 q6 => ⟨fun q7 q8 _ => by omega, fun _ v g nv ps q => q⟩, fun _ _ _ _ => rfl, fun _ _ => rfl⟩
