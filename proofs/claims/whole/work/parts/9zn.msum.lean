/-! the reference's products and sums are the pure ones -/
theorem chP_end {S : Nat → Int32} {x y : Int32} {ox oy : Nat} {f : PS → PR} {m : Nat} {s : PS} (h : ¬ S s.1 = x ∧ ¬ S s.1 = y) : chP S x y ox oy f m s = .inr s := by
  cases m with
  | zero => rfl
  | succ m => rw [chP, if_neg (fun z => z.elim h.1 h.2)]
section
variable {B : Nat → Nat} {n : Nat}
/-- at the last place nothing stands -/
theorem end_of {c : Nat} (hb : ∀ i, i < n → B i < 256) (h : n ≤ c) : sgB B n c = -18 := (sg_end hb).mpr (fun w => by have := plc_ge c w; omega)
theorem bd_unit {R1 R2 R3 : (gSt → Prop) → gSt → Prop} : bdF (S_X12_unit R1 R2 R3) := fun t Q h q => p_fine_bad h (bq_t rfl (q t Fr.rf))
theorem bd_product {R1 R2 R3 : (gSt → Prop) → gSt → Prop} (hR : bdF R3) : bdF (S_X12_product R1 R2 R3) := fun t Q h q => hR t _ h (fun u hu => ⟨1, by
  rw [L_X12_product_4]
  exact p_fine_bad (bad_fr h hu) (bq_t rfl (q u hu))⟩)
theorem p_mchain_product {R1 R2 R3 : (gSt → Prop) → gSt → Prop} {d : Nat} {f : PS → PR} (hR : mFn B n d R3 f) (hat : ∀ s s2, f s = .inr s2 → s.1 < s2.1) {Q : gSt → Prop} {k : Int} (hk : 0 ≤ k) : ∀ (m : Nat) (s : PS) (t : gSt), n ≤ s.1 + m → MR B n k d s t → mOut B n k d (chP (sgB B n) (nI 42) (nI 47) 9 10 f (m + 1) s) t Q → L_X12_product_4 R1 R2 R3 Q (fun s23 => Q s23) (m + 2) t := by
  intro m
  induction m with
  | zero =>
    intro s t hm h q
    have hend : sgB B n s.1 = -18 := end_of h.1.b (by omega)
    rw [chP_end ⟨by rw [hend]; decide, by rw [hend]; decide⟩] at q
    rw [L_X12_product_4]
    have hx := sg_one (c := s.1) (x := 42) h.1.b (by decide)
    have hy := sg_one (c := s.1) (x := 47) h.1.b (by decide)
    refine p_fine_ok h.2.1 (bq_f (by decide) (p_hereM h (fun u hu hm1 _ => ?_)))
    intro J9 hJ9
    refine bq_f (fun w => by rw [hx.mp w] at hend; exact absurd hend (by decide)) (p_hereM hm1 (fun u2 hu2 hm2 _ => bq_f (fun w => by rw [hy.mp w] at hend; exact absurd hend (by decide)) ?_))
    exact q u2 ((fr_m hu (by simp) (by simp)).trans (fr_m hu2 (by simp) (by simp))) hm2
  | succ m ih =>
    intro s t hm h q
    rw [L_X12_product_4]
    have hb := h.1.b
    have hn := h.1.1
    have hx := sg_one (c := s.1) (x := 42) hb (by decide)
    have hy := sg_one (c := s.1) (x := 47) hb (by decide)
    refine p_fine_ok h.2.1 (bq_f (by decide) (p_hereM h (fun u hu hm1 _ => ?_)))
    replace q := q.tr (fr_m hu (by simp) (by simp))
    intro J9 hJ9
    rw [chP] at q
    have step : (sgB B n s.1 = nI 42 ∨ sgB B n s.1 = nI 47) → ∀ v, mfr u v → MR B n k d s v → J9 v := fun hxy v hv hmv => by
      rw [if_pos hxy] at q
      have had : adP (sgB B n) s = (s.1 + 1, s.2) := if_neg (fun w => by rw [w] at hxy; revert hxy; decide)
      rw [had] at q
      have hat2 : plc B n s.1 < n ∧ isLb (B (plc B n s.1)) = false ∧ isDb (B (plc B n s.1)) = false := by
        rcases hxy with e | e
        · exact sg_at (x := 42) hb (by decide) e
        · exact sg_at (x := 47) hb (by decide) e
      refine hJ9 v (p_hereM hmv (fun w hw hmw h11 => fI_i ?_))
      have hm3 := hmw.one h11 hat2.1 hat2.2.1 hat2.2.2
      have fr3 : mfr u (sI w 65 11 (w.1 65 11 + nI 1)) := (hv.trans (fr_m hw (by simp) (by simp))).trans (Fr.rf.f (by simp))
      refine hR (k + 1) _ _ _ (by omega) hm3 ?_
      replace q := q.tr fr3
      cases hfs : f (s.1 + 1, s.2) with
      | inl e =>
        rw [hfs] at q
        intro y hy hmb J15 hJ15
        have key : ∀ o, J15 o := fun o => hJ15 o (p_emit_bad (hmb.bad hn) (by
          rw [L_X12_product_4]
          exact p_fine_bad (hmb.bad hn) (bq_t rfl (q y hy hmb))))
        exact ⟨fun _ => key _, fun _ => key _⟩
      | inr s2 =>
        rw [hfs] at q
        have hlt := hat _ _ hfs
        intro y hy hmy J15 hJ15
        have key : ∀ o, o = (if sgB B n s.1 = nI 42 then 9 else 10) → J15 (nI o) := fun o ho => by
          rw [← ho] at q
          refine hJ15 _ (p_emitM hk hmy (fun z hz hmz => ?_))
          have q3 : mOut B n k d (chP (sgB B n) (nI 42) (nI 47) 9 10 f (m + 1) (emP o (nI 0) s2)) (sI w 65 11 (w.1 65 11 + nI 1)) Q := q
          exact ih _ z (by show n ≤ s2.1 + m; have : s.1 + 1 < s2.1 := hlt; omega) hmz (q3.tr (hy.trans (fr_m hz (by simp) (by simp))))
        exact ⟨fun w => key 9 (by rw [if_pos (hx.mp w)]), fun w => key 10 (by rw [if_neg (fun z => w (hx.mpr z))])⟩
    refine ⟨fun w => step (.inl (hx.mp w)) u Fr.rf hm1, fun w => p_hereM hm1 (fun u2 hu2 hm2 _ => ⟨fun w2 => step (.inr (hy.mp w2)) u2 (fr_m hu2 (by simp) (by simp)) hm2, fun w2 => ?_⟩)⟩
    rw [if_neg (fun z => z.elim (fun z => w (hx.mpr z)) (fun z => w2 (hy.mpr z)))] at q
    exact q u2 (fr_m hu2 (by simp) (by simp)) hm2
theorem mFn_product {R1 R2 R3 : (gSt → Prop) → gSt → Prop} {d : Nat} {f : PS → PR} (hR : mFn B n d R3 f) (hat : ∀ s s2, f s = .inr s2 → s.1 < s2.1) : mFn B n d (S_X12_product R1 R2 R3) (fun s => bnP (f s) (chP (sgB B n) (nI 42) (nI 47) 9 10 f 401)) := by
  intro k s t Q hk h q
  replace q : mOut B n k d (bnP (f s) (chP (sgB B n) (nI 42) (nI 47) 9 10 f 401)) t Q := q
  have hn := h.1.1
  unfold S_X12_product
  refine hR k s t _ hk h ?_
  cases hf : f s with
  | inl e =>
    rw [hf] at q
    intro u hu hmb
    refine ⟨1, ?_⟩
    rw [L_X12_product_4]
    exact p_fine_bad (hmb.bad hn) (bq_t rfl (q u hu hmb))
  | inr s2 =>
    rw [hf] at q
    intro u hu hm2
    have q2 : mOut B n k d (chP (sgB B n) (nI 42) (nI 47) 9 10 f (400 + 1) s2) t Q := q
    exact ⟨402, p_mchain_product hR hat hk 400 s2 u (by omega) hm2 (q2.tr hu)⟩
theorem bd_sum {R1 R2 R3 : (gSt → Prop) → gSt → Prop} (hR : bdF R1) : bdF (S_X12_sum R1 R2 R3) := fun t Q h q => hR t _ h (fun u hu => ⟨1, by
  rw [L_X12_sum_4]
  exact p_fine_bad (bad_fr h hu) (bq_t rfl (q u hu))⟩)
theorem p_mchain_sum {R1 R2 R3 : (gSt → Prop) → gSt → Prop} {d : Nat} {f : PS → PR} (hR : mFn B n d R1 f) (hat : ∀ s s2, f s = .inr s2 → s.1 < s2.1) {Q : gSt → Prop} {k : Int} (hk : 0 ≤ k) : ∀ (m : Nat) (s : PS) (t : gSt), n ≤ s.1 + m → MR B n k d s t → mOut B n k d (chP (sgB B n) (nI 43) (nI 45) 7 8 f (m + 1) s) t Q → L_X12_sum_4 R1 R2 R3 Q (fun s23 => Q s23) (m + 2) t := by
  intro m
  induction m with
  | zero =>
    intro s t hm h q
    have hend : sgB B n s.1 = -18 := end_of h.1.b (by omega)
    rw [chP_end ⟨by rw [hend]; decide, by rw [hend]; decide⟩] at q
    rw [L_X12_sum_4]
    have hx := sg_one (c := s.1) (x := 43) h.1.b (by decide)
    have hy := sg_one (c := s.1) (x := 45) h.1.b (by decide)
    refine p_fine_ok h.2.1 (bq_f (by decide) (p_hereM h (fun u hu hm1 _ => ?_)))
    intro J9 hJ9
    refine bq_f (fun w => by rw [hx.mp w] at hend; exact absurd hend (by decide)) (p_hereM hm1 (fun u2 hu2 hm2 _ => bq_f (fun w => by rw [hy.mp w] at hend; exact absurd hend (by decide)) ?_))
    exact q u2 ((fr_m hu (by simp) (by simp)).trans (fr_m hu2 (by simp) (by simp))) hm2
  | succ m ih =>
    intro s t hm h q
    rw [L_X12_sum_4]
    have hb := h.1.b
    have hn := h.1.1
    have hx := sg_one (c := s.1) (x := 43) hb (by decide)
    have hy := sg_one (c := s.1) (x := 45) hb (by decide)
    refine p_fine_ok h.2.1 (bq_f (by decide) (p_hereM h (fun u hu hm1 _ => ?_)))
    replace q := q.tr (fr_m hu (by simp) (by simp))
    intro J9 hJ9
    rw [chP] at q
    have step : (sgB B n s.1 = nI 43 ∨ sgB B n s.1 = nI 45) → ∀ v, mfr u v → MR B n k d s v → J9 v := fun hxy v hv hmv => by
      rw [if_pos hxy] at q
      have had : adP (sgB B n) s = (s.1 + 1, s.2) := if_neg (fun w => by rw [w] at hxy; revert hxy; decide)
      rw [had] at q
      have hat2 : plc B n s.1 < n ∧ isLb (B (plc B n s.1)) = false ∧ isDb (B (plc B n s.1)) = false := by
        rcases hxy with e | e
        · exact sg_at (x := 43) hb (by decide) e
        · exact sg_at (x := 45) hb (by decide) e
      refine hJ9 v (p_hereM hmv (fun w hw hmw h11 => fI_i ?_))
      have hm3 := hmw.one h11 hat2.1 hat2.2.1 hat2.2.2
      have fr3 : mfr u (sI w 65 11 (w.1 65 11 + nI 1)) := (hv.trans (fr_m hw (by simp) (by simp))).trans (Fr.rf.f (by simp))
      refine hR (k + 1) _ _ _ (by omega) hm3 ?_
      replace q := q.tr fr3
      cases hfs : f (s.1 + 1, s.2) with
      | inl e =>
        rw [hfs] at q
        intro y hy hmb J15 hJ15
        have key : ∀ o, J15 o := fun o => hJ15 o (p_emit_bad (hmb.bad hn) (by
          rw [L_X12_sum_4]
          exact p_fine_bad (hmb.bad hn) (bq_t rfl (q y hy hmb))))
        exact ⟨fun _ => key _, fun _ => key _⟩
      | inr s2 =>
        rw [hfs] at q
        have hlt := hat _ _ hfs
        intro y hy hmy J15 hJ15
        have key : ∀ o, o = (if sgB B n s.1 = nI 43 then 7 else 8) → J15 (nI o) := fun o ho => by
          rw [← ho] at q
          refine hJ15 _ (p_emitM hk hmy (fun z hz hmz => ?_))
          have q3 : mOut B n k d (chP (sgB B n) (nI 43) (nI 45) 7 8 f (m + 1) (emP o (nI 0) s2)) (sI w 65 11 (w.1 65 11 + nI 1)) Q := q
          exact ih _ z (by show n ≤ s2.1 + m; have : s.1 + 1 < s2.1 := hlt; omega) hmz (q3.tr (hy.trans (fr_m hz (by simp) (by simp))))
        exact ⟨fun w => key 7 (by rw [if_pos (hx.mp w)]), fun w => key 8 (by rw [if_neg (fun z => w (hx.mpr z))])⟩
    refine ⟨fun w => step (.inl (hx.mp w)) u Fr.rf hm1, fun w => p_hereM hm1 (fun u2 hu2 hm2 _ => ⟨fun w2 => step (.inr (hy.mp w2)) u2 (fr_m hu2 (by simp) (by simp)) hm2, fun w2 => ?_⟩)⟩
    rw [if_neg (fun z => z.elim (fun z => w (hx.mpr z)) (fun z => w2 (hy.mpr z)))] at q
    exact q u2 (fr_m hu2 (by simp) (by simp)) hm2
theorem mFn_sum {R1 R2 R3 : (gSt → Prop) → gSt → Prop} {d : Nat} {f : PS → PR} (hR : mFn B n d R1 f) (hat : ∀ s s2, f s = .inr s2 → s.1 < s2.1) : mFn B n d (S_X12_sum R1 R2 R3) (fun s => bnP (f s) (chP (sgB B n) (nI 43) (nI 45) 7 8 f 401)) := by
  intro k s t Q hk h q
  replace q : mOut B n k d (bnP (f s) (chP (sgB B n) (nI 43) (nI 45) 7 8 f 401)) t Q := q
  have hn := h.1.1
  unfold S_X12_sum
  refine hR k s t _ hk h ?_
  cases hf : f s with
  | inl e =>
    rw [hf] at q
    intro u hu hmb
    refine ⟨1, ?_⟩
    rw [L_X12_sum_4]
    exact p_fine_bad (hmb.bad hn) (bq_t rfl (q u hu hmb))
  | inr s2 =>
    rw [hf] at q
    intro u hu hm2
    have q2 : mOut B n k d (chP (sgB B n) (nI 43) (nI 45) 7 8 f (400 + 1) s2) t Q := q
    exact ⟨402, p_mchain_sum hR hat hk 400 s2 u (by omega) hm2 (q2.tr hu)⟩
theorem bd_sums (m : Nat) : bdF (WR_X12_product (m + 3)).2.1 := bd_sum (R1 := (WR_X12_product (m + 2)).1) (R2 := (WR_X12_product (m + 2)).2.1) (R3 := (WR_X12_product (m + 2)).2.2) (bd_product (R1 := (WR_X12_product (m + 1)).1) (R2 := (WR_X12_product (m + 1)).2.1) (R3 := (WR_X12_product (m + 1)).2.2) (bd_unit (R1 := (WR_X12_product m).1) (R2 := (WR_X12_product m).2.1) (R3 := (WR_X12_product m).2.2)))
theorem mFn_sums : ∀ (e d m : Nat), d + e = 6 → mFn B n d ((WR_X12_product (m + (3 * e + 6))).2.1) (sumP (sgB B n) (vlB B n) e) := by
  intro e
  induction e with
  | zero =>
    intro d m hd
    have hs : subM B n d ((WR_X12_product (m + 3)).2.1) none := ⟨fun _ => (by omega), fun f hf => (by cases hf)⟩
    exact mFn_sum (mFn_product (mFn_unit (R1 := (WR_X12_product (m + 3)).1) (R3 := (WR_X12_product (m + 3)).2.2) (by omega) hs (bd_sums m)) (unP_at (fun f hf => by cases hf))) (smP_at (fun f hf => by cases hf)).1
  | succ e ih =>
    intro d m hd
    have hs : subM B n d ((WR_X12_product (m + (3 * e + 6))).2.1) (some (sumP (sgB B n) (vlB B n) e)) := ⟨fun h => (by cases h), fun f hf => by
      cases hf
      exact ⟨by omega, ih (d + 1) m (by omega)⟩⟩
    have ha : ∀ f, some (sumP (sgB B n) (vlB B n) e) = some f → ∀ s s2, f s = .inr s2 → s.1 < s2.1 := fun f hf => by cases hf; exact sumP_at e
    have hbd : bdF (WR_X12_product (m + (3 * e + 6))).2.1 := by
      have := bd_sums (m + (3 * e + 3))
      rw [show m + (3 * e + 3) + 3 = m + (3 * e + 6) by omega] at this
      exact this
    exact mFn_sum (mFn_product (mFn_unit (R1 := (WR_X12_product (m + (3 * e + 6))).1) (R3 := (WR_X12_product (m + (3 * e + 6))).2.2) (by omega) hs hbd) (unP_at ha)) (smP_at ha).1
theorem mFn_sum60 {e d : Nat} (h : d + e = 6) : mFn B n d W_X12_sum (sumP (sgB B n) (vlB B n) e) := by
  have h2 := mFn_sums (B := B) (n := n) e d (60 - (3 * e + 6)) h
  rw [show 60 - (3 * e + 6) + (3 * e + 6) = 60 by omega] at h2
  exact h2
theorem bd_sum60 : bdF W_X12_sum := bd_sums 57
end
