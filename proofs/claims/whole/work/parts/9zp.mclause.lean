/-! the reference's clauses are the pure ones -/
abbrev rfr (t u : gSt) : Prop := Fr [80, 81, 82, 83, 84, 85] [11, 12, 13, 14, 15, 17] t u
section
variable {B : Nat → Nat} {n : Nat}
theorem fr_r {t u : gSt} {ks js : List Nat} (h : Fr ks js t u) (h1 : ∀ k ∈ ks, k ∈ [80, 81, 82, 83, 84, 85]) (h2 : ∀ j ∈ js, j ∈ [11, 12, 13, 14, 15, 17]) : rfr t u := h.mono h1 h2
theorem mfr.r {t u : gSt} (h : mfr t u) : rfr t u := h.mono (by simp) (by simp)
theorem MR.fr2 {k : Int} {d : Nat} {s : PS} {t u : gSt} {ks js : List Nat} (h : MR B n k d s t) (f : Fr ks js t u) (h1 : ∀ k ∈ [73, 84, 85], k ∉ ks) (h2 : ∀ j ∈ [10, 11, 12, 14, 15], j ∉ js) : MR B n k d s u := by
  obtain ⟨g1, g2, ⟨p, hp, g3⟩, g4, ⟨g5, g6, g7⟩, g8⟩ := h
  refine ⟨g1.fr f (h1 _ (by simp)) (h2 _ (by simp)), ?_, ⟨p, ?_, g3⟩, ?_, ⟨g5, ?_, g7⟩, fun j hj => ?_⟩
  · rw [(f.2.1 12 (h2 _ (by simp))).1]; exact g2
  · rw [(f.2.1 11 (h2 _ (by simp))).1]; exact hp
  · rw [(f.2.1 14 (h2 _ (by simp))).1]; exact g4
  · rw [(f.2.1 15 (h2 _ (by simp))).1]; exact g6
  · rw [(f.1 84 (by decide) (h1 _ (by simp))).1, (f.1 85 (by decide) (h1 _ (by simp))).1]; exact g8 j hj
/-- the clauses that are done -/
def MA (c : Nat) (kd md st : Nat → Nat) (t : gSt) : Prop := ∀ i, i < c → t.1 80 i = nI (kd i) ∧ t.1 81 i = nI (st i) ∧ t.1 82 i = nI (md i) ∧ t.1 83 i = nI (st (i + 1))
def MC (B : Nat → Nat) (n : Nat) (z : CSt) (t : gSt) : Prop := MR B n 0 0 z.1 t ∧ t.1 65 17 = nI z.2.1 ∧ z.2.1 ≤ 16 ∧ MA z.2.1 z.2.2.1 z.2.2.2.1 z.2.2.2.2 t ∧ z.2.2.2.2 z.2.1 = z.1.2.1
def nOut (B : Nat → Nat) (n : Nat) (r : CRs) (t : gSt) (Q : gSt → Prop) : Prop := match r with
  | .inl e => ∀ u, rfr t u → MB B n e u → Q u
  | .inr z => ∀ u, rfr t u → MC B n z u → Q u
theorem nOut.tr {r : CRs} {t u : gSt} {Q : gSt → Prop} (h : nOut B n r t Q) (f : rfr t u) : nOut B n r u Q := by
  cases r with
  | inl e => exact fun v hv => h v (f.trans hv)
  | inr s => exact fun v hv => h v (f.trans hv)
/-- a clause that is begun -/
def MP (z : CSt) (K : Nat) (t : gSt) : Prop := MA z.2.1 z.2.2.1 z.2.2.2.1 z.2.2.2.2 t ∧ t.1 65 17 = nI (z.2.1 + 1) ∧ t.1 80 z.2.1 = nI K ∧ t.1 81 z.2.1 = nI (z.2.2.2.2 z.2.1)
theorem MP.fr {z : CSt} {K : Nat} {t u : gSt} {ks js : List Nat} (h : MP z K t) (f : Fr ks js t u) (h1 : ∀ k ∈ [80, 81, 82, 83], k ∉ ks) (h2 : 17 ∉ js) : MP z K u := by
  unfold MP MA
  rw [(f.1 80 (by decide) (h1 _ (by simp))).1, (f.1 81 (by decide) (h1 _ (by simp))).1, (f.1 82 (by decide) (h1 _ (by simp))).1, (f.1 83 (by decide) (h1 _ (by simp))).1, (f.2.1 17 h2).1]
  exact h
theorem p_mclauseEnd {z : CSt} {K : Nat} {s1 s2 : PS} {t : gSt} (hc16 : z.2.1 < 16) (h : MR B n 0 0 s2 t) (hP : MP z K t) (h82 : t.1 82 z.2.1 = nI s1.2.1) {Q : gSt → Prop} (q : nOut B n (bnC (paP (sgB B n) (nI 59) s2) (fun s3 => .inr (s3, z.2.1 + 1, xat z.2.1 K z.2.2.1, xat z.2.1 s1.2.1 z.2.2.2.1, xat (z.2.1 + 1) s2.2.1 z.2.2.2.2))) t Q) : wI t 83 16 (nI z.2.1) (t.1 65 15) (fun s26 => W_X12_need (nI 59) (fun s27 => Q s27) s26) := by
  have h15 : t.1 65 15 = nI s2.2.1 := h.2.2.2.2.1.2.1
  rw [h15]
  refine wI_i (by omega) ?_
  have f : Fr [83] [] t (sI t 83 z.2.1 (nI s2.2.1)) := Fr.rf.i (by simp) (by decide)
  have h2 := h.fr2 f (by decide) (by simp)
  unfold paP at q
  refine p_needM h2 (by decide) (fun w u hu hm => ?_) (fun w u hu hm => ?_)
  · rw [if_neg w] at q
    exact q u ((fr_r f (by simp) (by simp)).trans (fr_r hu (by simp) (by simp))) hm
  · have had : adP (sgB B n) s2 = (s2.1 + 1, s2.2) := if_neg (fun y => absurd (w.symm.trans y) (by decide))
    rw [if_pos w, had] at q
    have q2 : nOut B n (.inr ((s2.1 + 1, s2.2), z.2.1 + 1, xat z.2.1 K z.2.2.1, xat z.2.1 s1.2.1 z.2.2.2.1, xat (z.2.1 + 1) s2.2.1 z.2.2.2.2)) t Q := q
    obtain ⟨hA, h17, h80, h81⟩ := hP
    have e : ∀ a, a ≠ 65 → u.1 a = (sI t 83 z.2.1 (nI s2.2.1)).1 a := fun a ha => (hu.1 a ha (by simp)).1
    refine q2 u ((fr_r f (by simp) (by simp)).trans (fr_r hu (by simp) (by simp))) ⟨hm.mono (by omega), ?_, by show z.2.1 + 1 ≤ 16; omega, fun i hi => ?_, ?_⟩
    · rw [(hu.2.1 17 (by simp)).1]
      rw [(f.2.1 17 (by simp)).1]
      exact h17
    · have hi2 : i < z.2.1 + 1 := hi
      rw [e 80 (by decide), e 81 (by decide), e 82 (by decide), e 83 (by decide), sI_get, sI_get, sI_get, sI_get, if_neg (fun y => absurd y.1 (by decide)), if_neg (fun y => absurd y.1 (by decide)), if_neg (fun y => absurd y.1 (by decide))]
      show _ = nI (xat z.2.1 K z.2.2.1 i) ∧ _ = nI (xat (z.2.1 + 1) s2.2.1 z.2.2.2.2 i) ∧ _ = nI (xat z.2.1 s1.2.1 z.2.2.2.1 i) ∧ _ = nI (xat (z.2.1 + 1) s2.2.1 z.2.2.2.2 (i + 1))
      by_cases y : i = z.2.1
      · subst y
        rw [xat_at, xat_at, xat_at, xat_ne (by omega), if_pos ⟨rfl, rfl⟩]
        exact ⟨h80, h81, h82, rfl⟩
      · rw [xat_ne y, xat_ne y, xat_ne (by omega), xat_ne (by omega), if_neg (fun w => y w.2)]
        exact hA i (by omega)
    · show xat (z.2.1 + 1) s2.2.1 z.2.2.2.2 (z.2.1 + 1) = s2.2.1
      rw [xat_at]
theorem p_mclause {z : CSt} {t : gSt} (h : MC B n z t) {Q : gSt → Prop} (q : nOut B n (clP (sgB B n) (vlB B n) z) t Q) : W_X12_readClause Q t := by
  obtain ⟨hm, h17, hc16, hA, hst⟩ := h
  have hb := hm.1.b
  have hn := hm.1.1
  have yes : ∀ (c k : Nat) (v : Int64), k < 16 → v = lN (pkL (spl.getD k []).reverse) → (wdB B n c = v ↔ sgB B n c = -(nI (k + 1))) := fun c k v hk hv => by rw [hv]; exact sg_word hb hk
  unfold W_X12_readClause
  refine p_wordM hm (fun u hu hmu h11 => ?_)
  intro J4 hJ4
  have fru : rfr t u := fr_r hu (by simp) (by simp)
  have eu : ∀ a, a ≠ 65 → u.1 a = t.1 a := fun a ha => (hu.1 a ha (by simp)).1
  unfold clP at q
  -- in a bad state nothing follows
  have main : (knd (sgB B n z.1.1) = 4 → J4 (-1)) ∧ (knd (sgB B n z.1.1) ≤ 3 → J4 (nI (knd (sgB B n z.1.1)))) := by
    refine ⟨fun hk => hJ4 _ (fun J6 hJ6 => bq_t rfl (p_wrong_ok hmu.2.1 (fun v hv k1 k2 => hJ6 v ?_))), fun hk => hJ4 _ (fun J6 hJ6 => bq_f (fun w => ?_) ?_)⟩
    · rw [if_pos hk] at q
      rw [h11] at k1
      have hMB : MB B n (1, z.1.1) v := ⟨k1, k2⟩
      exact p_fine_bad (hMB.bad hn) (bq_t rfl (q v (fru.trans (fr_r hv (by simp) (by simp))) hMB))
    · have h3 := nI_pos (n := knd (sgB B n z.1.1)) (by omega)
      rw [w] at h3
      exact absurd (by decide) h3
    · rw [if_neg (by omega)] at q
      have h17u : u.1 65 17 = nI z.2.1 := by rw [(hu.2.1 17 (by simp)).1]; exact h17
      have goB : ∀ (v : gSt) (e : Nat × Nat), rfr t v → MB B n e v → (∀ u, rfr t u → MB B n e u → Q u) → J6 v := fun v e hv hMB hq => hJ6 v (p_fine_bad (hMB.bad hn) (bq_t rfl (hq v hv hMB)))
      rw [h17u]
      refine br_eq (by omega) (by omega) (fun w => p_wrong_ok hmu.2.1 (fun v hv k1 k2 => ?_)) (fun w => hJ6 u (p_fine_ok hmu.2.1 (bq_f (by decide) ?_)))
      · rw [if_pos w] at q
        rw [h11] at k1
        exact goB v (3, z.1.1) (fru.trans (fr_r hv (by simp) (by simp))) ⟨k1, k2⟩ q
      · rw [if_neg w] at q
        have hk4 : sgB B n z.1.1 = -9 ∨ sgB B n z.1.1 = -10 ∨ sgB B n z.1.1 = -11 ∨ sgB B n z.1.1 = -12 := by
          rcases knd_or (sgB B n z.1.1) with ⟨_, _, y⟩ | ⟨y, _⟩
          · exact y
          · omega
        have had : adP (sgB B n) z.1 = (z.1.1 + 1, z.1.2) := if_neg (fun y => by rw [y] at hk4; revert hk4; decide)
        rw [had] at q
        have hl : plc B n z.1.1 < n ∧ isLb (B (plc B n z.1.1)) = true := by
          rcases hk4 with y | y | y | y
          · exact sg_let (k := 8) hb (by decide) y
          · exact sg_let (k := 9) hb (by decide) y
          · exact sg_let (k := 10) hb (by decide) y
          · exact sg_let (k := 11) hb (by decide) y
        refine p_passM hmu h11 hl.1 hl.2 (fun u3 hu3 hm3 => fI_i ?_)
        have h173 : u3.1 65 17 = nI z.2.1 := by rw [(hu3.2.1 17 (by simp)).1]; exact h17u
        rw [h173, nI_add]
        refine wI_i (by omega) (wI_i (by omega) ?_)
        have h15 : u3.1 65 15 = nI z.1.2.1 := hm3.2.2.2.2.1.2.1
        rw [show (sI (sI u3 65 17 (nI (z.2.1 + 1))) 80 z.2.1 (nI (knd (sgB B n z.1.1)))).1 65 15 = nI z.1.2.1 by rw [sI_get, if_neg (fun y => absurd y.1 (by decide)), sI_get, if_neg (fun y => absurd y.2 (by decide))]; exact h15]
        obtain ⟨w2, hw2⟩ : ∃ w2, w2 = sI (sI (sI u3 65 17 (nI (z.2.1 + 1))) 80 z.2.1 (nI (knd (sgB B n z.1.1)))) 81 z.2.1 (nI z.1.2.1) := ⟨_, rfl⟩
        rw [← hw2]
        have fw : Fr [80, 81] [17] u3 w2 := by rw [hw2]; exact ((Fr.rf.f (by simp)).i (by simp) (by decide)).i (by simp) (by decide)
        have frw : rfr t w2 := (fru.trans (fr_r hu3 (by simp) (by simp))).trans (fr_r fw (by simp) (by simp))
        have hmw : MR B n 1 0 (z.1.1 + 1, z.1.2) w2 := hm3.fr2 fw (by decide) (by decide)
        have gw : ∀ a j, w2.1 a j = if a = 81 ∧ j = z.2.1 then nI z.1.2.1 else if a = 80 ∧ j = z.2.1 then nI (knd (sgB B n z.1.1)) else if a = 65 ∧ j = 17 then nI (z.2.1 + 1) else u3.1 a j := fun a j => by rw [hw2]; simp only [sI_get]
        have e3 : ∀ a, a ≠ 65 → u3.1 a = t.1 a := fun a ha => (hu3.1 a ha (by simp)).1.trans (eu a ha)
        have hPw : MP z (knd (sgB B n z.1.1)) w2 := by
          refine ⟨fun i hi => ?_, by rw [gw]; simp, by rw [gw]; simp, by rw [gw, if_pos ⟨rfl, rfl⟩, hst]⟩
          have hne : i ≠ z.2.1 := by omega
          rw [gw, gw, gw, gw]
          simp only [hne, and_false, if_false, false_and]
          rw [if_neg (by simp), if_neg (by simp), if_neg (by simp), if_neg (by simp), e3 80 (by decide), e3 81 (by decide), e3 82 (by decide), e3 83 (by decide)]
          exact hA i hi
        intro J14 hJ14
        have bad14 : ∀ (v : gSt) (e : Nat × Nat), rfr t v → MB B n e v → (∀ u, rfr t u → MB B n e u → Q u) → J14 v := fun v e hv hMB hq => hJ14 v (wI_i (by omega) (by
          have f1 : Fr [82] [] v (sI v 82 z.2.1 (v.1 65 15)) := Fr.rf.i (by simp) (by decide)
          have hMB1 := hMB.fr f1 (by simp) (by simp)
          have hb1 := hMB1.bad hn
          refine p_fine_bad hb1 (fun J19 hJ19 J37 hJ37 => bq_t rfl (hJ37 _ (hJ19 _ _ (p_fine_bad hb1 (fun J22 hJ22 => bq_t rfl (hJ22 _ (p_fine_bad hb1 (fun J25 hJ25 => bq_t rfl (hJ25 _ (wI_i (by omega) ?_))))))))))
          have f2 : Fr [83] [] (sI v 82 z.2.1 (v.1 65 15)) (sI (sI v 82 z.2.1 (v.1 65 15)) 83 z.2.1 ((sI v 82 z.2.1 (v.1 65 15)).1 65 15)) := Fr.rf.i (by simp) (by decide)
          exact p_need_bad ((hMB1.fr f2 (by simp) (by simp)).bad hn) (hq _ ((hv.trans (fr_r f1 (by simp) (by simp))).trans (fr_r f2 (by simp) (by simp))) (hMB1.fr f2 (by simp) (by simp)))))
        have go14 : ∀ (s1 : PS) (v : gSt), mfr w2 v → MR B n 0 0 s1 v → nOut B n (clE (sgB B n) (vlB B n) z (knd (sgB B n z.1.1)) s1) t Q → J14 v := fun s1 v hv hmv q => hJ14 v (by
          have hPv := hPw.fr hv (by decide) (by decide)
          have h15v : v.1 65 15 = nI s1.2.1 := hmv.2.2.2.2.1.2.1
          rw [h15v]
          refine wI_i (by omega) ?_
          obtain ⟨x, hx⟩ : ∃ x, x = sI v 82 z.2.1 (nI s1.2.1) := ⟨_, rfl⟩
          rw [← hx]
          have fx : Fr [82] [] v x := by rw [hx]; exact Fr.rf.i (by simp) (by decide)
          have frx : rfr t x := (frw.trans hv.r).trans (fr_r fx (by simp) (by simp))
          have hmx : MR B n 0 0 s1 x := hmv.fr2 fx (by decide) (by simp)
          have h82 : x.1 82 z.2.1 = nI s1.2.1 := by rw [hx, sI_get, if_pos ⟨rfl, rfl⟩]
          have hPx : MP z (knd (sgB B n z.1.1)) x := by
            refine ⟨fun i hi => ?_, ?_, ?_, ?_⟩
            · have g := hPv.1 i hi
              have hne : i ≠ z.2.1 := by omega
              rw [hx, sI_get, sI_get, sI_get, sI_get, if_neg (fun y => hne y.2), if_neg (fun y => hne y.2), if_neg (fun y => hne y.2), if_neg (fun y => hne y.2)]
              exact g
            · rw [(fx.2.1 17 (by simp)).1]; exact hPv.2.1
            · rw [(fx.1 80 (by decide) (by simp)).1]; exact hPv.2.2.1
            · rw [(fx.1 81 (by decide) (by simp)).1]; exact hPv.2.2.2
          unfold clE at q
          refine p_fine_ok hmx.2.1 (fun J19 hJ19 J37 hJ37 => bq_f (by decide) (p_wordM hmx (fun y hy hmy h11y => ?_)))
          have fry : rfr t y := frx.trans (fr_r hy (by simp) (by simp))
          have hPy := hPx.fr hy (by simp) (by simp)
          have h82y : y.1 82 z.2.1 = nI s1.2.1 := by rw [(hy.1 82 (by decide) (by simp)).1]; exact h82
          have hif := yes s1.1 12 (294 : Int64) (by decide) (by decide)
          refine ⟨fun w => hJ19 (nI 1) y (p_fine_ok hmy.2.1 (fun J22 hJ22 => bq_f (by decide) (bq_f (by decide) (hJ22 y (p_fine_ok hmy.2.1 (fun J25 hJ25 => bq_f (by decide) (bq_f (by decide) ?_))))))), fun w => hJ37 y (hJ19 (nI 0) y (p_fine_ok hmy.2.1 (fun J22 hJ22 => bq_f (by decide) (bq_t rfl ?_))))⟩
          · have w3 : sgB B n s1.1 = -13 := hif.mp w
            unfold ifP at q
            have had1 : adP (sgB B n) s1 = (s1.1 + 1, s1.2) := if_neg (fun y => by rw [w3] at y; exact absurd y (by decide))
            rw [if_pos w3, had1] at q
            have hl1 := sg_let (k := 12) hb (by decide) w3
            refine p_passM hmy h11y hl1.1 hl1.2 (fun y2 hy2 hmy2 => ?_)
            have fry2 : rfr t y2 := fry.trans (fr_r hy2 (by simp) (by simp))
            have hPy2 := hPy.fr hy2 (by simp) (by simp)
            refine mFn_any60 (e := 6) (d := 0) (by omega) 0 _ y2 _ (by omega) (hmy2.mono (by omega)) ?_
            cases hfs : (tsP (sgB B n) (vlB B n) 6).1 (s1.1 + 1, s1.2) with
            | inl e =>
              rw [hfs] at q
              intro y3 hy3 hmb
              refine hJ25 y3 (wI_i (by omega) ?_)
              have f2 : Fr [83] [] y3 (sI y3 83 z.2.1 (y3.1 65 15)) := Fr.rf.i (by simp) (by decide)
              have hmb2 := hmb.fr f2 (by simp) (by simp)
              exact p_need_bad (hmb2.bad hn) (q _ ((fry2.trans hy3.r).trans (fr_r f2 (by simp) (by simp))) hmb2)
            | inr s2 =>
              rw [hfs] at q
              intro y3 hy3 hmy3
              have q2 : nOut B n (bnC (paP (sgB B n) (nI 59) s2) (fun s3 => .inr (s3, z.2.1 + 1, xat z.2.1 (knd (sgB B n z.1.1)) z.2.2.1, xat z.2.1 s1.2.1 z.2.2.2.1, xat (z.2.1 + 1) s2.2.1 z.2.2.2.2))) t Q := q
              exact hJ25 y3 (p_mclauseEnd (by omega) hmy3 (hPy2.fr hy3 (by decide) (by decide)) (by rw [(hy3.1 82 (by decide) (by decide)).1, (hy2.1 82 (by decide) (by simp)).1]; exact h82y) (q2.tr (fry2.trans hy3.r)))
          · have w3 : ¬ sgB B n s1.1 = -13 := fun z => w (hif.mpr z)
            unfold ifP at q
            rw [if_neg w3] at q
            refine br_lt (by omega) (by omega) (fun w4 => hJ22 y (p_fine_ok hmy.2.1 (fun J25 hJ25 => bq_f (by decide) (bq_t rfl (hJ25 y ?_))))) (fun w4 => p_wrong_ok hmy.2.1 (fun v2 hv2 k1 k2 => hJ22 v2 ?_))
            · rw [if_pos (by omega)] at q
              have q2 : nOut B n (bnC (paP (sgB B n) (nI 59) s1) (fun s3 => .inr (s3, z.2.1 + 1, xat z.2.1 (knd (sgB B n z.1.1)) z.2.2.1, xat z.2.1 s1.2.1 z.2.2.2.1, xat (z.2.1 + 1) s1.2.1 z.2.2.2.2))) t Q := q
              exact p_mclauseEnd (by omega) hmy hPy h82y (q2.tr fry)
            · rw [if_neg (by omega)] at q
              rw [h11y] at k1
              have hMB : MB B n (1, s1.1) v2 := ⟨k1, k2⟩
              refine p_fine_bad (hMB.bad hn) (fun J25 hJ25 => bq_t rfl (hJ25 v2 (wI_i (by omega) ?_)))
              have f2 : Fr [83] [] v2 (sI v2 83 z.2.1 (v2.1 65 15)) := Fr.rf.i (by simp) (by decide)
              have hmb2 := hMB.fr f2 (by simp) (by simp)
              exact p_need_bad (hmb2.bad hn) (q _ ((fry.trans (fr_r hv2 (by simp) (by simp))).trans (fr_r f2 (by simp) (by simp))) hmb2))
        intro J42 hJ42
        have hsum : knd (sgB B n z.1.1) ≤ 1 → J42 := fun hk1 => hJ42 (by
          rw [if_pos hk1] at q
          refine mFn_sum60 (e := 6) (d := 0) (by omega) 0 _ w2 _ (by omega) (hmw.mono (by omega)) ?_
          cases hfs : sumP (sgB B n) (vlB B n) 6 (z.1.1 + 1, z.1.2) with
          | inl e =>
            rw [hfs] at q
            exact fun v hv hmb => bad14 v e (frw.trans hv.r) hmb q
          | inr s1 =>
            rw [hfs] at q
            exact fun v hv hmv => go14 s1 v hv hmv q)
        refine ⟨fun y => hsum ?_, fun y => ⟨fun y2 => hsum ?_, fun y2 => ?_⟩⟩
        · have y3 : nI (knd (sgB B n z.1.1)) = nI 0 := y
          rw [nI_eq (by omega) (by omega)] at y3
          omega
        · rw [nI_eq (by omega) (by omega)] at y2
          omega
        · have y3 : ¬ nI (knd (sgB B n z.1.1)) = nI 0 := y
          rw [nI_eq (by omega) (by omega)] at y3
          rw [nI_eq (by omega) (by omega)] at y2
          rw [if_neg (by omega)] at q
          exact go14 _ w2 Fr.rf (hmw.mono (by omega)) q
  have g9 := yes z.1.1 8 (6642 : Int64) (by decide) (by decide)
  have g10 := yes z.1.1 9 (1309981300 : Int64) (by decide) (by decide)
  have g11 := yes z.1.1 10 (14866610 : Int64) (by decide) (by decide)
  have g12 := yes z.1.1 11 (409067 : Int64) (by decide) (by decide)
  refine ⟨fun w => ?_, fun w1 => ⟨fun w => ?_, fun w2 => ⟨fun w => ?_, fun w3 => ⟨fun w => ?_, fun w4 => ?_⟩⟩⟩⟩
  · have m := main.2 (by rw [g9.mp w]; decide)
    rw [show knd (sgB B n z.1.1) = 0 by rw [g9.mp w]; decide] at m
    exact m
  · have m := main.2 (by rw [g10.mp w]; decide)
    rw [show knd (sgB B n z.1.1) = 1 by rw [g10.mp w]; decide] at m
    exact m
  · have m := main.2 (by rw [g11.mp w]; decide)
    rw [show knd (sgB B n z.1.1) = 2 by rw [g11.mp w]; decide] at m
    exact m
  · have m := main.2 (by rw [g12.mp w]; decide)
    rw [show knd (sgB B n z.1.1) = 3 by rw [g12.mp w]; decide] at m
    exact m
  · refine main.1 ?_
    rcases knd_or (sgB B n z.1.1) with ⟨_, _, y⟩ | ⟨y, _⟩
    · rcases y with y | y | y | y
      · exact absurd (g9.mpr y) w1
      · exact absurd (g10.mpr y) w2
      · exact absurd (g11.mpr y) w3
      · exact absurd (g12.mpr y) w4
    · exact y
end
