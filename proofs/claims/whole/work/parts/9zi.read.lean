/-! the class reads a text -/
theorem bnC_inr {r : PR} {f : PS → CRs} {z : CSt} (h : bnC r f = .inr z) : ∃ s, r = .inr s ∧ f s = .inr z := by
  cases r with
  | inl e => cases h
  | inr s => exact ⟨s, rfl, h⟩
/-- a clause that is read -/
theorem clP_inr {S V : Nat → Int32} {z z2 : CSt} (h : clP S V z = .inr z2) : ¬ knd (S z.1.1) = 4 ∧ ¬ z.2.1 = 16 ∧ ∃ s1 s2 s3, (if knd (S z.1.1) ≤ 1 then sumP S V 6 (adP S z.1) else .inr (adP S z.1)) = .inr s1 ∧ ifP S V (knd (S z.1.1)) s1 = .inr s2 ∧ paP S (nI 59) s2 = .inr s3 ∧ z2 = (s3, z.2.1 + 1, xat z.2.1 (knd (S z.1.1)) z.2.2.1, xat z.2.1 s1.2.1 z.2.2.2.1, xat (z.2.1 + 1) s2.2.1 z.2.2.2.2) := by
  unfold clP at h
  split at h
  · cases h
  · rename_i h1
    split at h
    · cases h
    · rename_i h2
      obtain ⟨s1, e1, h⟩ := bnC_inr h
      obtain ⟨s2, e2, h⟩ := bnC_inr h
      obtain ⟨s3, e3, h⟩ := bnC_inr h
      refine ⟨h1, h2, s1, s2, s3, e1, e2, e3, ?_⟩
      cases h
      rfl
abbrev z0P : CSt := ((0, 0, fun _ => 0, fun _ => 0), 0, fun _ => 0, fun _ => 0, fun _ => 0)
section
variable {b : Bool} {B : Nat → Nat} {n C : Nat}
theorem p_readLoop (hb : ∀ i, i < n → B i < 256) (hC : C ≤ 400) {Q : Int32 → gSt → Prop} : ∀ (m : Nat) (z : CSt) (t : gSt), m + z.2.1 = 17 → CC b B n C z t → dOut b B n C (rdP (sgB B n) (vlB B n) m z) t Q → L_X7_read_44 b Q (fun s18 => Q (nI 1) s18) (m + 1) (nI z.2.1) t := by
  intro m
  induction m with
  | zero =>
    intro z t hm h q
    have := h.2.2.2.1
    omega
  | succ m ih =>
    intro z t hm h q
    have h16 := h.2.2.2.1
    rw [L_X7_read_44]
    rw [rdP] at q
    refine bq_f (by rw [nI_ltI (by omega) (by omega)]; omega) ?_
    rw [h.1.2.2.2.1]
    refine ⟨fun w => ?_, fun w => ?_⟩
    · rw [if_pos w] at q
      exact q t dfr.rf h
    · rw [if_neg w] at q
      refine p_clauseC hb hC h ?_
      cases hcl : clP (sgB B n) (vlB B n) z with
      | inl e =>
        rw [hcl] at q
        exact fun u hu k1 k2 => bq_t rfl (q u hu k1 k2)
      | inr z2 =>
        rw [hcl] at q
        intro u hu hc2
        have e2 : z2.2.1 = z.2.1 + 1 := by
          obtain ⟨_, _, s1, s2, s3, _, _, _, rfl⟩ := clP_inr hcl
          rfl
        refine bq_f (by decide) ?_
        rw [nI_add, ← e2]
        exact ih z2 u (by omega) hc2 (dOut.tr q hu)
theorem p_readC {σ : gSt} (hR : σ.2.2 = gRf b) (hB : bytC σ B n) (hw : wbOK b B n) {Q : Int32 → gSt → Prop}
    (q0 : ∀ e, rdP (sgB B n) (vlB B n) 17 z0P = .inl e → ∀ u, Off [4, kD b, kD b + 1, kD b + 2, kD b + 3, kD b + 4, kD b + 5, 13, 14, 15] σ u → u.1 4 0 = nI 0 → u.1 4 1 = nI e.1 → u.1 4 2 = nI (plc B n e.2) → Q (nI 0) u)
    (q1 : ∀ z C, rdP (sgB B n) (vlB B n) 17 z0P = .inr z → ∀ u, Off [4, kD b, kD b + 1, kD b + 2, kD b + 3, kD b + 4, kD b + 5, 13, 14, 15] σ u → u.1 4 0 = nI 0 → CC b B n C z u → Q (nI 1) u) : W_X7_read b (nI n) Q σ := by
  have hr := kD_or (b := b)
  have hb : ∀ i, i < n → B i < 256 := fun i hi => (hB.2 i hi).2
  unfold W_X7_read
  refine p_scan hR hB hw (fun t C hO hT => ?_)
  have hC : C ≤ 400 := by have := hT.1; have := hB.1; omega
  refine fI_i (fI_i (fI_i ?_))
  unfold W_X9_clear
  refine fI_i (fI_i (fI_i (rI_i (by omega) (fI_i ?_))))
  obtain ⟨w, hw⟩ : ∃ w, w = sI (sI (sI (sI (sI (sI t 4 0 (nI 0)) 4 1 (nI 0)) 4 2 (-1)) (kD b) 0 (nI 0)) (kD b) 5 (nI 0)) 4 9 (nI 0) := ⟨_, rfl⟩
  rw [← hw]
  have gw : ∀ a j, w.1 a j = if a = 4 ∧ j = 9 then nI 0 else if a = kD b ∧ j = 5 then nI 0 else if a = kD b ∧ j = 0 then nI 0 else if a = 4 ∧ j = 2 then -1 else if a = 4 ∧ j = 1 then nI 0 else if a = 4 ∧ j = 0 then nI 0 else t.1 a j := fun a j => by rw [hw]; simp only [sI_get]
  have gws : ∀ a, a ≠ 4 → a ≠ kD b → w.1 a = t.1 a := fun a c1 c2 => by funext j; rw [gw]; simp only [c1, c2, false_and, if_false]
  obtain ⟨v, hv⟩ : ∃ v, v = sI w 4 8 (w.1 13 0) := ⟨_, rfl⟩
  rw [← hv]
  have gv : ∀ a j, v.1 a j = if a = 4 ∧ j = 8 then w.1 13 0 else w.1 a j := fun a j => by rw [hv, sI_get]
  have gvs : ∀ a, a ≠ 4 → a ≠ kD b → v.1 a = t.1 a := fun a c1 c2 => by funext j; rw [gv, if_neg (fun y => c1 y.1), gws a c1 c2]
  have h13 : w.1 13 0 = sgB B n 0 := by rw [gws 13 (by omega) (by omega)]; exact (hT.2.2.2.1 0 (by omega)).2
  have hOv : Off [4, kD b, 13, 14, 15] σ v := by
    rw [hv, hw]
    exact (((((((hO.mono (by simp)).i (by simp)).i (by simp)).i (by simp)).i (by simp)).i (by simp)).i (by simp)).i (by simp)
  have hc : CC b B n C z0P v := by
    refine ⟨⟨hT.at (gvs _ (by omega) (by omega)) (gvs _ (by omega) (by omega)) (gvs _ (by omega) (by omega)), ⟨hB.1, ?_⟩, ?_, ?_, by show 0 ≤ C; omega, ?_, by show ((0 : Nat) : Int) + 0 ≤ ((0 : Nat) : Int); omega, (fun j hj => by cases hj)⟩, (fun j hj => by cases hj), ⟨?_, (fun i hi => by cases hi), (fun h => by cases h)⟩, by show 0 ≤ 16; omega, rfl⟩
    · rw [gv, if_neg (fun y => absurd y.2 (by decide)), gw, if_neg (fun y => absurd y.2 (by decide)), if_neg (fun y => by omega), if_neg (fun y => by omega), if_pos ⟨rfl, rfl⟩]
    · rw [gv, if_neg (fun y => absurd y.2 (by decide)), gw, if_pos ⟨rfl, rfl⟩]
    · rw [gv, if_pos ⟨rfl, rfl⟩]; exact h13
    · rw [gv, if_neg (fun y => by omega), gw, if_neg (fun y => by omega), if_pos ⟨rfl, rfl⟩]
    · rw [gv, if_neg (fun y => by omega), gw, if_neg (fun y => by omega), if_neg (fun y => by omega), if_pos ⟨rfl, rfl⟩]
  have h40 : v.1 4 0 = nI 0 := by
    rw [gv, if_neg (fun y => absurd y.2 (by decide)), gw, if_neg (fun y => absurd y.2 (by decide)), if_neg (fun y => by omega), if_neg (fun y => by omega), if_neg (fun y => absurd y.2 (by decide)), if_neg (fun y => absurd y.2 (by decide)), if_pos ⟨rfl, rfl⟩]
  refine ⟨18, p_readLoop hb hC 17 z0P v rfl hc ?_⟩
  have hfr : ∀ u, dfr b v u → Off [4, kD b, kD b + 1, kD b + 2, kD b + 3, kD b + 4, kD b + 5, 13, 14, 15] σ u ∧ u.1 4 0 = nI 0 := fun u hu => ⟨(hOv.mono (by simp)).trans (hu.1.mono (by simp)), (hu.2 0 (by decide) (by decide) (by decide) (by decide)).trans h40⟩
  cases hrd : rdP (sgB B n) (vlB B n) 17 z0P with
  | inl e => exact fun u hu k1 k2 => q0 e hrd u (hfr u hu).1 (hfr u hu).2 k1 k2
  | inr z => exact fun u hu hc2 => q1 z C hrd u (hfr u hu).1 (hfr u hu).2 hc2
end
