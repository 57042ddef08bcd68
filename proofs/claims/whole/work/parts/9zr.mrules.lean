/-! the reference's rules -/
section
variable {B : Nat → Nat} {n : Nat}
theorem p_isMoreM {k : Int} {d : Nat} {s : PS} {t : gSt} (h : MR B n k d s t) {Q : Int32 → gSt → Prop} (q0 : sgB B n s.1 = -18 → ∀ u, Fr [] [11] t u → MR B n k d s u → Q (nI 0) u) (q1 : ¬ sgB B n s.1 = -18 → ∀ u, Fr [] [11] t u → MR B n k d s u → Q (nI 1) u) : W_X12_isMore Q t := by
  have hb := h.1.b
  have hn := h.1.1
  have hle := @plc_le B n s.1
  unfold W_X12_isMore
  refine p_hereM h (fun u hu hm h11 => ?_)
  rw [hm.1.2.1, h11]
  exact br_le (by omega) (by omega) (fun w => q0 ((sg_end hb).mpr (by omega)) u hu hm) (fun w => q1 (fun z => (sg_end hb).mp z w) u hu hm)
theorem MC.fr {z : CSt} {t u : gSt} (h : MC B n z t) (f : Fr [] [11] t u) (hm : MR B n 0 0 z.1 u) : MC B n z u := by
  obtain ⟨h1, h2, h3, h4, h5⟩ := h
  refine ⟨hm, by rw [(f.2.1 17 (by simp)).1]; exact h2, h3, ?_, h5⟩
  unfold MA
  rw [(f.1 80 (by decide) (by simp)).1, (f.1 81 (by decide) (by simp)).1, (f.1 82 (by decide) (by simp)).1, (f.1 83 (by decide) (by simp)).1]
  exact h4
theorem p_readLoopM {Q : Int32 → gSt → Prop} {K : gSt → Prop} : ∀ (m : Nat) (z : CSt) (t : gSt), m + z.2.1 = 17 → MC B n z t → nOut B n (rdP (sgB B n) (vlB B n) m z) t K → L_X12_rules_72 Q K (m + 2) t := by
  intro m
  induction m with
  | zero =>
    intro z t hm h q
    have := h.2.2.1
    omega
  | succ m ih =>
    intro z t hm h q
    have hn := h.1.1.1
    rw [L_X12_rules_72]
    rw [rdP] at q
    refine p_fine_ok h.1.2.1 (bq_f (by decide) (p_isMoreM h.1 (fun w u hu hmu => bq_t rfl ?_) (fun w u hu hmu => bq_f (by decide) ?_)))
    · rw [if_pos w] at q
      exact q u (fr_r hu (by simp) (by simp)) (h.fr hu hmu)
    · rw [if_neg w] at q
      replace q := q.tr (fr_r hu (by simp) (by simp))
      refine p_mclause (h.fr hu hmu) ?_
      cases hcl : clP (sgB B n) (vlB B n) z with
      | inl e =>
        rw [hcl] at q
        intro v hv hmb
        rw [L_X12_rules_72]
        exact p_fine_bad (hmb.bad hn) (bq_t rfl (q v hv hmb))
      | inr z2 =>
        rw [hcl] at q
        intro v hv hmc
        have e2 : z2.2.1 = z.2.1 + 1 := by
          obtain ⟨_, _, s1, s2, s3, _, _, _, rfl⟩ := clP_inr hcl
          rfl
        exact ih z2 v (by omega) hmc (nOut.tr q hv)
theorem p_copyC {Q : Int32 → gSt → Prop} {K : gSt → Prop} {C : Nat} (hC : C ≤ 16) : ∀ (m i : Nat) (t : gSt), i + m = C → t.1 65 16 = nI C → (∀ u, Fr [74, 75, 76, 77] [] t u → (∀ j, i ≤ j → j < C → u.1 74 j = t.1 80 j ∧ u.1 75 j = t.1 81 j ∧ u.1 76 j = t.1 82 j ∧ u.1 77 j = t.1 83 j) → (∀ j, j < i → u.1 74 j = t.1 74 j ∧ u.1 75 j = t.1 75 j ∧ u.1 76 j = t.1 76 j ∧ u.1 77 j = t.1 77 j) → K u) → L_X12_rules_126 Q K (m + 1) (nI i) t := by
  intro m
  induction m with
  | zero =>
    intro i t hi h16 q
    rw [L_X12_rules_126, h16]
    exact bq_t (nI_le (by omega) (by omega)) (q t Fr.rf (fun j h1 h2 => by omega) (fun j _ => ⟨rfl, rfl, rfl, rfl⟩))
  | succ m ih =>
    intro i t hi h16 q
    rw [L_X12_rules_126, h16]
    refine bq_f (nI_ge (by omega) (by omega)) (rI_i (by omega) (wI_i (by omega) (rI_i (by omega) (wI_i (by omega) (rI_i (by omega) (wI_i (by omega) (rI_i (by omega) (wI_i (by omega) ?_))))))))
    rw [nI_add]
    obtain ⟨u, hu⟩ : ∃ u, u = sI (sI (sI (sI t 74 i (t.1 80 i)) 75 i ((sI t 74 i (t.1 80 i)).1 81 i)) 76 i ((sI (sI t 74 i (t.1 80 i)) 75 i ((sI t 74 i (t.1 80 i)).1 81 i)).1 82 i)) 77 i ((sI (sI (sI t 74 i (t.1 80 i)) 75 i ((sI t 74 i (t.1 80 i)).1 81 i)) 76 i ((sI (sI t 74 i (t.1 80 i)) 75 i ((sI t 74 i (t.1 80 i)).1 81 i)).1 82 i)).1 83 i) := ⟨_, rfl⟩
    rw [← hu]
    have f : Fr [74, 75, 76, 77] [] t u := by rw [hu]; exact (((Fr.rf.i (by simp) (by decide)).i (by simp) (by decide)).i (by simp) (by decide)).i (by simp) (by decide)
    have g : ∀ a j, u.1 a j = if a = 77 ∧ j = i then t.1 83 i else if a = 76 ∧ j = i then t.1 82 i else if a = 75 ∧ j = i then t.1 81 i else if a = 74 ∧ j = i then t.1 80 i else t.1 a j := fun a j => by rw [hu]; simp [sI_get]
    refine ih (i + 1) u (by omega) (by rw [(f.2.1 16 (by simp)).1]; exact h16) (fun v hv h1 h2 => q v (f.trans hv) (fun j j1 j2 => ?_) (fun j j1 => ?_))
    · by_cases y : j = i
      · subst y
        obtain ⟨a1, a2, a3, a4⟩ := h2 j (by omega)
        rw [a1, a2, a3, a4, g, g, g, g]
        simp
      · obtain ⟨a1, a2, a3, a4⟩ := h1 j (by omega) j2
        rw [a1, a2, a3, a4, g, g, g, g]
        simp
    · obtain ⟨a1, a2, a3, a4⟩ := h2 j (by omega)
      have y : j ≠ i := by omega
      rw [a1, a2, a3, a4, g, g, g, g]
      simp [y]
theorem p_copyK {Q : Int32 → gSt → Prop} {K : gSt → Prop} {C : Nat} (hC : C ≤ 400) : ∀ (m i : Nat) (t : gSt), i + m = C → t.1 65 15 = nI C → (∀ u, Fr [78, 79] [] t u → (∀ j, i ≤ j → j < C → u.1 78 j = t.1 84 j ∧ u.1 79 j = t.1 85 j) → (∀ j, j < i → u.1 78 j = t.1 78 j ∧ u.1 79 j = t.1 79 j) → K u) → L_X12_rules_190 Q K (m + 1) (nI i) t := by
  intro m
  induction m with
  | zero =>
    intro i t hi h16 q
    rw [L_X12_rules_190, h16]
    exact bq_t (nI_le (by omega) (by omega)) (q t Fr.rf (fun j h1 h2 => by omega) (fun j _ => ⟨rfl, rfl⟩))
  | succ m ih =>
    intro i t hi h16 q
    rw [L_X12_rules_190, h16]
    refine bq_f (nI_ge (by omega) (by omega)) (rI_i (by omega) (wI_i (by omega) (rI_i (by omega) (wI_i (by omega) ?_))))
    rw [nI_add]
    obtain ⟨u, hu⟩ : ∃ u, u = sI (sI t 78 i (t.1 84 i)) 79 i ((sI t 78 i (t.1 84 i)).1 85 i) := ⟨_, rfl⟩
    rw [← hu]
    have f : Fr [78, 79] [] t u := by rw [hu]; exact (Fr.rf.i (by simp) (by decide)).i (by simp) (by decide)
    have g : ∀ a j, u.1 a j = if a = 79 ∧ j = i then t.1 85 i else if a = 78 ∧ j = i then t.1 84 i else t.1 a j := fun a j => by rw [hu]; simp [sI_get]
    refine ih (i + 1) u (by omega) (by rw [(f.2.1 15 (by simp)).1]; exact h16) (fun v hv h1 h2 => q v (f.trans hv) (fun j j1 j2 => ?_) (fun j j1 => ?_))
    · by_cases y : j = i
      · subst y
        obtain ⟨a1, a2⟩ := h2 j (by omega)
        rw [a1, a2, g, g]
        simp
      · obtain ⟨a1, a2⟩ := h1 j (by omega) j2
        rw [a1, a2, g, g]
        simp
    · obtain ⟨a1, a2⟩ := h2 j (by omega)
      have y : j ≠ i := by omega
      rw [a1, a2, g, g]
      simp [y]
/-- what the reference's rules do: a fault, or the clauses that are read -/
theorem p_mrules {t : gSt} {tp : Nat} (h9 : t.1 65 9 = nI tp) (htp : tp ≤ 400) (hn : n ≤ tp) (h73 : ∀ i, i < n → t.1 73 i = nI (B i) ∧ B i < 256) {Q : Int32 → gSt → Prop}
    (q0 : ∀ e, rdP (sgB B n) (vlB B n) 17 z0P = .inl e → ∀ u, Fr [80, 81, 82, 83, 84, 85] [0, 9, 10, 11, 12, 13, 14, 15, 17, 18] t u → u.1 65 0 = nI 0 → u.1 65 9 = nI 0 → u.1 65 18 = nI (plc B n e.2) → Q (nI e.1 - nI 10) u)
    (q1 : ∀ z, rdP (sgB B n) (vlB B n) 17 z0P = .inr z → z.1.2.1 ≤ 400 → ∀ u, Fr [74, 75, 76, 77, 78, 79, 80, 81, 82, 83, 84, 85] [0, 9, 10, 11, 12, 13, 14, 15, 16, 17, 18, 56, 57, 60] t u → u.1 65 0 = nI 0 → u.1 65 9 = nI 0 → u.1 65 18 = -1 → u.1 65 56 = nI 0 → u.2.1 65 57 = lN 0 → u.1 65 60 = nI 0 → rulesM u z.2.1 z.2.2.1 z.2.2.2.2 z.2.2.2.1 z.1.2.2.1 z.1.2.2.2 → Q (nI z.2.1) u) : W_X12_rules (nI n) Q t := by
  unfold W_X12_rules
  refine fI_i ?_
  intro J3 hJ3 J54 hJ54
  have e9 : (sI t 65 0 (nI 0)).1 65 9 = nI tp := by rw [sI_get, if_neg (fun w => absurd w.2 (by decide))]; exact h9
  rw [e9]
  refine bq_f (nI_pos (by omega)) (bq_f (by rw [nI_ltI (by omega) (by omega)]; omega) (hJ3 _ (p_may_ok (by decide) (by rw [sI_get, if_pos ⟨rfl, rfl⟩]) (bq_f (by decide) ?_))))
  refine fI_i (fI_i (fI_i (fI_i (fI_i (fI_i (fI_i (fI_i ?_)))))))
  obtain ⟨v, hv⟩ : ∃ v, v = sI (sI (sI (sI (sI (sI (sI (sI (sI t 65 0 (nI 0)) 65 9 (nI 0)) 65 18 (-1)) 65 10 (nI n)) 65 11 (nI 0)) 65 12 (-1)) 65 14 (nI 0)) 65 15 (nI 0)) 65 17 (nI 0) := ⟨_, rfl⟩
  rw [← hv]
  have gv : ∀ a j, v.1 a j = if a = 65 ∧ j = 17 then nI 0 else if a = 65 ∧ j = 15 then nI 0 else if a = 65 ∧ j = 14 then nI 0 else if a = 65 ∧ j = 12 then -1 else if a = 65 ∧ j = 11 then nI 0 else if a = 65 ∧ j = 10 then nI n else if a = 65 ∧ j = 18 then -1 else if a = 65 ∧ j = 9 then nI 0 else if a = 65 ∧ j = 0 then nI 0 else t.1 a j := fun a j => by rw [hv]; simp only [sI_get]
  have fv : Fr [80, 81, 82, 83, 84, 85] [0, 9, 10, 11, 12, 13, 14, 15, 17, 18] t v := by
    rw [hv]
    exact ((((((((Fr.rf.f (by simp)).f (by simp)).f (by simp)).f (by simp)).f (by simp)).f (by simp)).f (by simp)).f (by simp)).f (by simp)
  have hB : bytM v B n := ⟨by omega, by rw [gv]; simp, fun i hi => by rw [gv]; simp only [false_and, if_false, show ¬ (73 : Nat) = 65 by decide]; exact h73 i hi⟩
  have hMR : MR B n 0 0 z0P.1 v := ⟨hB, by rw [gv]; simp, ⟨0, by rw [gv]; simp, Nat.zero_le _, rfl⟩, by rw [gv]; simp, ⟨Nat.zero_le _, by rw [gv]; simp, by show ((0 : Nat) : Int) + 0 ≤ ((0 : Nat) : Int); omega⟩, fun j hj => absurd hj (Nat.not_lt_zero j)⟩
  have hMC : MC B n z0P v := ⟨hMR, by rw [gv]; simp, by decide, fun i hi => absurd hi (Nat.not_lt_zero i), rfl⟩
  have keep : ∀ u, rfr v u → Fr [80, 81, 82, 83, 84, 85] [0, 9, 10, 11, 12, 13, 14, 15, 17, 18] t u ∧ u.1 65 0 = nI 0 ∧ u.1 65 9 = nI 0 := fun u hu => ⟨fv.trans (hu.mono (by simp) (by simp)), by rw [(hu.2.1 0 (by decide)).1, gv]; simp, by rw [(hu.2.1 9 (by decide)).1, gv]; simp⟩
  refine ⟨19, p_readLoopM 17 z0P v rfl hMC ?_⟩
  cases hrd : rdP (sgB B n) (vlB B n) 17 z0P with
  | inl e =>
    intro u hu hmb
    obtain ⟨k1, k2, k3⟩ := keep u hu
    refine fI_i ?_
    rw [hmb.1]
    obtain ⟨w, hw⟩ : ∃ w, w = sI u 65 18 (nI (plc B n e.2)) := ⟨_, rfl⟩
    rw [← hw]
    have gw : ∀ j, w.1 65 j = if j = 18 then nI (plc B n e.2) else u.1 65 j := fun j => by rw [hw, sI_get]; simp
    refine p_fine_bad (by rw [gw, if_neg (by decide)]; exact hmb.bad (by omega)) (bq_t rfl ?_)
    rw [gw, if_neg (by decide), hmb.2]
    exact q0 e hrd w (k1.trans (by rw [hw]; exact Fr.rf.f (by simp))) (by rw [gw, if_neg (by decide)]; exact k2) (by rw [gw, if_neg (by decide)]; exact k3) (by rw [gw, if_pos rfl])
  | inr z =>
    intro u hu hmc
    obtain ⟨k1, k2, k3⟩ := keep u hu
    obtain ⟨hm, h17, h16, hA, hst⟩ := hmc
    have hcOK := cOK_rd 17 z0P z cOK_z0 hrd
    have hlen : z.1.2.1 ≤ 400 := by
      have h5 := hm.2.2.2.2.1
      have := h5.1
      have := h5.2.2
      omega
    refine fI_i ?_
    rw [hm.2.1]
    obtain ⟨w, hw⟩ : ∃ w, w = sI u 65 18 (-1) := ⟨_, rfl⟩
    rw [← hw]
    have gw : ∀ a j, w.1 a j = if a = 65 ∧ j = 18 then -1 else u.1 a j := fun a j => by rw [hw, sI_get]
    refine p_fine_ok (by rw [gw]; simp; exact hm.2.1) (bq_f (by decide) (fI_i ?_))
    rw [show w.1 65 17 = nI z.2.1 by rw [gw]; simp; exact h17]
    obtain ⟨x, hx⟩ : ∃ x, x = sI w 65 16 (nI z.2.1) := ⟨_, rfl⟩
    rw [← hx]
    have gx : ∀ a j, x.1 a j = if a = 65 ∧ j = 16 then nI z.2.1 else if a = 65 ∧ j = 18 then -1 else u.1 a j := fun a j => by rw [hx, sI_get, gw]
    have fx : Fr [] [16, 18] u x := by rw [hx, hw]; exact (Fr.rf.f (by simp)).f (by simp)
    have gx2 : ∀ a, a ≠ 65 → x.1 a = u.1 a := fun a ha => (fx.1 a ha (by simp)).1
    refine ⟨z.2.1 + 1, p_copyC h16 z.2.1 0 x (by omega) (by rw [gx]; simp) (fun y hy c1 _ => ?_)⟩
    have h15y : y.1 65 15 = nI z.1.2.1 := by
      rw [(hy.2.1 15 (by simp)).1, gx]; simp; exact hm.2.2.2.2.1.2.1
    refine ⟨z.1.2.1 + 1, p_copyK hlen z.1.2.1 0 y (by omega) h15y (fun v2 hv2 c2 _ => p_untell ?_)⟩
    obtain ⟨w2, hw2⟩ : ∃ w2, w2 = sI (sL (sI v2 65 56 (nI 0)) 65 57 (lN 0)) 65 60 (nI 0) := ⟨_, rfl⟩
    rw [← hw2]
    have fw2 : Fr [] [56, 57, 60] v2 w2 := by rw [hw2]; exact ((Fr.rf.f (by simp)).g (by simp)).f (by simp)
    have e16 : w2.1 65 16 = nI z.2.1 := by
      rw [(fw2.2.1 16 (by simp)).1, (hv2.2.1 16 (by simp)).1, (hy.2.1 16 (by simp)).1, gx]; simp
    have ftot : Fr [74, 75, 76, 77, 78, 79, 80, 81, 82, 83, 84, 85] [0, 9, 10, 11, 12, 13, 14, 15, 16, 17, 18, 56, 57, 60] t w2 := ((((k1.mono (by simp) (by simp)).trans (fx.mono (by simp) (by simp))).trans (hy.mono (by simp) (by simp))).trans (hv2.mono (by simp) (by simp))).trans (fw2.mono (by simp) (by simp))
    have far : ∀ j, j ∉ [11, 12, 13, 14, 15, 16, 17, 18, 56, 57, 60] → w2.1 65 j = u.1 65 j := fun j hj => by
      simp only [List.mem_cons, List.not_mem_nil, or_false] at hj
      rw [(fw2.2.1 j (by simp; omega)).1, (hv2.2.1 j (by simp)).1, (hy.2.1 j (by simp)).1, (fx.2.1 j (by simp; omega)).1]
    rw [e16]
    refine q1 z hrd hlen w2 ftot (by rw [far 0 (by decide)]; exact k2) (by rw [far 9 (by decide)]; exact k3) ?_ ?_ ?_ ?_ ⟨e16, fun i hi => ?_, fun j hC hj => ?_⟩
    · rw [(fw2.2.1 18 (by simp)).1, (hv2.2.1 18 (by simp)).1, (hy.2.1 18 (by simp)).1, gx]; simp
    · rw [hw2, sI_get, if_neg (by decide)]
      show (sI v2 65 56 (nI 0)).1 65 56 = _
      rw [sI_get, if_pos ⟨rfl, rfl⟩]
    · rw [hw2]; show (sL (sI v2 65 56 (nI 0)) 65 57 (lN 0)).2.1 65 57 = _; simp [sL, vp_updL]
    · rw [hw2, sI_get, if_pos ⟨rfl, rfl⟩]
    · obtain ⟨a1, a2, a3, a4⟩ := c1 i (Nat.zero_le _) hi
      obtain ⟨b1, b2, b3, b4⟩ := hA i hi
      rw [(fw2.1 74 (by decide) (by simp)).1, (fw2.1 75 (by decide) (by simp)).1, (fw2.1 76 (by decide) (by simp)).1, (fw2.1 77 (by decide) (by simp)).1, (hv2.1 74 (by decide) (by simp)).1, (hv2.1 75 (by decide) (by simp)).1, (hv2.1 76 (by decide) (by simp)).1, (hv2.1 77 (by decide) (by simp)).1, a1, a2, a3, a4, gx2 80 (by decide), gx2 81 (by decide), gx2 82 (by decide), gx2 83 (by decide)]
      exact ⟨b1, b2, b3, b4⟩
    · rw [hst] at hj
      obtain ⟨a1, a2⟩ := c2 j (Nat.zero_le _) hj
      rw [(fw2.1 78 (by decide) (by simp)).1, (fw2.1 79 (by decide) (by simp)).1, a1, a2, (hy.1 84 (by decide) (by simp)).1, (hy.1 85 (by decide) (by simp)).1, gx2 84 (by decide), gx2 85 (by decide)]
      exact hm.2.2.2.2.2 j hj
end
