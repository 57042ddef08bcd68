/-! what is kept of pairs, when one pair or all are judged anew; rings wiped -/
theorem pairSet.hit {σ s : gSt} {a c : Nat} {v g : Int32} {nv ps : Bool} (h : pairSet σ s a c v g nv ps) (ha : a < 30) (hc : c < 30) {i j : Nat} (hs : sp a c i j = true) : cachedAt s i j v g nv ps := by
  obtain ⟨h1, h2, h3, h4⟩ := h
  have hij : (i = a ∧ j = c) ∨ (i = c ∧ j = a) := by rw [sp_iff] at hs; omega
  have hs2 : sp a c j i = true := by rw [sp_iff] at hs ⊢; omega
  have e1 : i * 30 + j = a * 30 + c ∨ i * 30 + j = c * 30 + a := by omega
  have e2 : j * 30 + i = a * 30 + c ∨ j * 30 + i = c * 30 + a := by omega
  refine ⟨by rw [h1, if_pos e1], by rw [h1, if_pos e2], by rw [h2, if_pos e1], by rw [h2, if_pos e2], ?_, ?_, ?_, ?_⟩
  · rw [rowSet_sp h3 (by omega), if_pos hs]
  · rw [rowSet_sp h3 (by omega), if_pos hs2]
  · rw [rowSet_sp h4 (by omega), if_pos hs]
  · rw [rowSet_sp h4 (by omega), if_pos hs2]
theorem pairSet.other {σ s : gSt} {a c : Nat} {v g : Int32} {nv ps : Bool} (h : pairSet σ s a c v g nv ps) (ha : a < 30) (hc : c < 30) {i j : Nat} (hi : i < 30) (hj : j < 30) (hs : ¬ sp a c i j = true) {v2 g2 : Int32} {nv2 ps2 : Bool} (hc2 : cachedAt σ i j v2 g2 nv2 ps2) : cachedAt s i j v2 g2 nv2 ps2 := by
  obtain ⟨h1, h2, h3, h4⟩ := h
  have hs2 : ¬ sp a c j i = true := by rw [sp_iff] at hs ⊢; omega
  have e1 : ¬ (i * 30 + j = a * 30 + c ∨ i * 30 + j = c * 30 + a) := by rw [sp_iff] at hs; omega
  have e2 : ¬ (j * 30 + i = a * 30 + c ∨ j * 30 + i = c * 30 + a) := by rw [sp_iff] at hs; omega
  obtain ⟨k1, k2, k3, k4, k5, k6, k7, k8⟩ := hc2
  refine ⟨by rw [h1, if_neg e1]; exact k1, by rw [h1, if_neg e2]; exact k2, by rw [h2, if_neg e1]; exact k3, by rw [h2, if_neg e2]; exact k4, ?_, ?_, ?_, ?_⟩
  · rw [rowSet_sp h3 (by omega), if_neg hs]; exact k5
  · rw [rowSet_sp h3 (by omega), if_neg hs2]; exact k6
  · rw [rowSet_sp h4 (by omega), if_neg hs]; exact k7
  · rw [rowSet_sp h4 (by omega), if_neg hs2]; exact k8
theorem vdt_ne {Fc num : Nat → Int32} {kind st cd op : Nat → Nat} {C : Nat} : ¬ vdt Fc num kind st cd op C = (-2147483648 : Int32) := by
  intro h
  have := clampV_ok (if psd Fc num kind st cd op C then nI 0 else vSum Fc num kind st cd op C)
  unfold vdt at h
  rw [h] at this
  have e : (-2147483648 : Int32).toInt = -2147483648 := by decide
  rw [e] at this
  omega
/-- a pair that nobody told: what the class keeps is what the reference says -/
theorem ruled_wgt {Fc num : Nat → Int32} {kind st cd op : Nat → Nat} {C T : Nat} {ta tb : Nat → Nat} {tw : Nat → Int32} {a c : Nat} (hn : ¬ tix T ta tb a c < T) : (if nvr Fc num kind st cd op C then nI 0 else vdt Fc num kind st cd op C) = w0 (wgt Fc num kind st cd op C T ta tb tw a c) ∧ nvr Fc num kind st cd op C = decide (wgt Fc num kind st cd op C T ta tb tw a c = (-2147483648 : Int32)) ∧ psd Fc num kind st cd op C = (!decide (tix T ta tb a c < T) && psd Fc num kind st cd op C) := by
  unfold wgt
  rw [if_neg hn, decide_eq_false hn]
  by_cases hp : psd Fc num kind st cd op C = true
  · have hv : nvr Fc num kind st cd op C = false := by unfold nvr; rw [hp]; rfl
    rw [hp, hv, if_pos rfl]
    refine ⟨?_, by decide, rfl⟩
    rw [if_neg (by decide)]
    unfold vdt
    rw [hp, if_pos rfl]
    decide
  · have hp : psd Fc num kind st cd op C = false := by simpa using hp
    rw [hp]
    by_cases hv : nvr Fc num kind st cd op C = true
    · rw [hv]
      refine ⟨?_, ?_, rfl⟩ <;> simp only [if_true, Bool.false_eq_true, if_false] <;> decide
    · have hv : nvr Fc num kind st cd op C = false := by simpa using hv
      rw [hv, if_neg (by decide), if_neg (by decide), if_neg (by decide)]
      refine ⟨by rw [w0, if_neg vdt_ne], (decide_eq_false vdt_ne).symm, rfl⟩
/-- all from e on judged anew, but those told by hand -/
theorem invP_judged {σ s : gSt} {e N : Nat} {bk nm td yr : Nat → Nat} {fa : Nat → Int32} {C : Nat} {kind st cd op : Nat → Nat} {num : Nat → Int32} {T : Nat} {ta tb : Nat → Nat} {tw : Nat → Int32} (h30 : N ≤ 30) (hj : judged e N σ s bk nm td yr fa C kind st cd op num N 0) (hb : ∀ i j, i < 30 → j < 32 → bt (σ.1 28 i) j = decide (tix T ta tb i j < T)) (h3 : s.1 3 = σ.1 3) (hz : padZ N σ)
    (hold : ∀ i j, j < i → i < N → (i < e ∨ tix T ta tb i j < T) → ∃ g, (¬ tix T ta tb i j < T → g = rsn (fct (σ.1 3) bk nm td yr fa i j) num kind st cd op C) ∧ cachedAt σ i j (w0 (wgt (fct (σ.1 3) bk nm td yr fa i j) num kind st cd op C T ta tb tw i j)) g (decide (wgt (fct (σ.1 3) bk nm td yr fa i j) num kind st cd op C T ta tb tw i j = (-2147483648 : Int32))) (!decide (tix T ta tb i j < T) && psd (fct (σ.1 3) bk nm td yr fa i j) num kind st cd op C)) : invP s N bk nm td yr fa C kind st cd op num T ta tb tw := by
  refine ⟨?_, hj.2.z hz⟩
  intro i j hji hi
  rw [h3]
  obtain ⟨h1, h2⟩ := hj.1 i j hji hi
  by_cases hx : i < e ∨ tix T ta tb i j < T
  · obtain ⟨g, hg, hc⟩ := hold i j hji hi hx
    refine ⟨g, hg, h2 (fun q => ?_) _ _ _ _ hc⟩
    rw [hb i j (by omega) (by omega)] at q
    have := of_decide_eq_false q.2.2
    omega
  · have hn : ¬ tix T ta tb i j < T := fun q => hx (.inr q)
    have hr := h1 (by omega) (.inl hi) (by rw [hb i j (by omega) (by omega)]; exact decide_eq_false hn)
    obtain ⟨r1, r2, r3⟩ := ruled_wgt (Fc := fct (σ.1 3) bk nm td yr fa i j) (num := num) (kind := kind) (st := st) (cd := cd) (op := op) (C := C) (tw := tw) hn
    refine ⟨_, fun _ => rfl, ?_⟩
    unfold ruled at hr
    rw [r1, r2] at hr
    rw [← r3]
    exact hr
/-- the class's wiping and the reference's untelling -/
theorem invG_wiped {σ s0 s t : gSt} {N N2 R : Nat} {hs : Bool} (hG : invG σ N R hs) (h42 : s0.1 42 = σ.1 42) (h43 : s0.1 43 = σ.1 43) (w1 : s.1 42 0 = nI 0) (w2 : s.2.1 42 1 = lN 0) (w3 : (¬ s0.1 42 0 ≤ 0 ∧ ∀ j, j < 900 → s.1 43 j = nI 0) ∨ (s0.1 42 0 ≤ 0 ∧ s.1 43 = s0.1 43)) (t42 : t.1 42 = s.1 42) (t42l : t.2.1 42 = s.2.1 42) (t43 : t.1 43 = s.1 43) (t56 : t.1 65 56 = nI 0) (t57 : t.2.1 65 57 = lN 0) (t60 : t.1 65 60 = nI 0) : invG t N2 0 false := by
  have hz : ∀ j, j < 900 → s.1 43 j = nI 0 := by
    rcases w3 with ⟨_, h⟩ | ⟨h1, h2⟩
    · exact h
    · intro j hj
      rw [h2, h43]
      refine hG.2.2.2.2.2.2.1 ?_ j hj
      rw [h42, hG.1] at h1
      by_cases z : R = 0
      · exact z
      · exact absurd h1 (nI_nle (by omega) (by have := hG.2.2.1; omega))
  refine ⟨by rw [t42]; exact w1, t56, by omega, by rw [t42l, w2, t57], t60, fun _ => rfl, fun _ j hj => by rw [t43]; exact hz j hj, fun a c ha hc => ?_, fun h => by cases h⟩
  rw [t43, hz _ (by omega), hz _ (by omega)]
theorem invR_keep {σ s : gSt} {b : Bool} {C : Nat} {kind st cd op : Nat → Nat} {num : Nat → Int32} (h : invR σ b C kind st cd op num) (h0 : s.1 (kR b) 0 = σ.1 (kR b) 0) (h1 : ∀ k ∈ [1, 2, 3, 4, 5], s.1 (kR b + k) = σ.1 (kR b + k)) (h2 : s.1 65 16 = σ.1 65 16) (h3 : ∀ k ∈ [74, 75, 76, 77, 78, 79], s.1 k = σ.1 k) : invR s b C kind st cd op num := by
  obtain ⟨a1, a2, a3⟩ := h
  refine ⟨?_, ?_, a3⟩
  · unfold rulesAt at a1 ⊢
    rw [h0, h1 1 (by simp), h1 2 (by simp), h1 3 (by simp), h1 4 (by simp), h1 5 (by simp)]
    exact a1
  · unfold rulesM at a2 ⊢
    rw [h2, h3 74 (by simp), h3 75 (by simp), h3 76 (by simp), h3 77 (by simp), h3 78 (by simp), h3 79 (by simp)]
    exact a2
theorem p_untell {σ : gSt} {Q : gSt → Prop} (q : Q (sI (sL (sI σ 65 56 (nI 0)) 65 57 (lN 0)) 65 60 (nI 0))) : W_X12_untell Q σ := by
  unfold W_X12_untell
  first
  | exact fI_i (fL_i (fZ_i (.inl rfl) q))
  | exact fI_i (fL_i (fI_i q))
