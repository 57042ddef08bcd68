/-! the class's unit -/
section
variable {b : Bool} {B : Nat → Nat} {n C : Nat}
/-- what is asked of a sum one deeper -/
def subOK (b : Bool) (B : Nat → Nat) (n C d : Nat) (R : Int32 → (Int32 → gSt → Prop) → gSt → Prop) (sub : Option (PS → PR)) : Prop := (sub = none → d = 6) ∧ ∀ f, sub = some f → d < 6 ∧ cFn b B n C (R (nI d + nI 1)) f
/-- an opened sum, a sign that is due, and what follows -/
theorem p_opened {t : gSt} {k : Int} {d : Nat} {s : PS} {R2 : Int32 → (Int32 → gSt → Prop) → gSt → Prop} {sub : Option (PS → PR)} (hb : ∀ i, i < n → B i < 256) (hd6 : d ≤ 6) (hs : subOK b B n C d R2 sub) (hk : 0 ≤ k) (hc : CR b B n C k s t) (hw : cWk b B n s t) {g : (PS → PR) → PS → PR} {Q : Int32 → gSt → Prop} (q : cOut b B n C k (opP (sgB B n) (nI 40) sub g s) t Q) {K : gSt → Prop}
    (hK : ∀ f, sub = some f → cFn b B n C (R2 (nI d + nI 1)) f → ∀ u, CR b B n C (k + 1) (s.1 + 1, s.2) u → cEq b (s.1 + 1, s.2) u → cOut b B n C k (g f (s.1 + 1, s.2)) u Q → K u) : W_X7_open (nI 40) (nI d) (fun x28 s29 => ((x28 = 0 → (Q (nI 0) s29)) ∧ (¬ x28 = 0 → K s29))) t := by
  refine p_openC hb hc hw ⟨by decide, by decide⟩ hd6 (fun z u hf k1 k2 => bq_t rfl ?_) (fun z hd u hf k1 k2 => bq_t rfl ?_) (fun z hd u hf hc2 he2 => bq_f (by decide) ?_)
  · unfold opP at q
    rw [if_neg z] at q
    exact q u hf k1 k2
  · unfold opP at q
    rw [if_pos z] at q
    cases hsub : sub with
    | none => rw [hsub] at q; exact q u hf k1 k2
    | some f => have := (hs.2 f hsub).1; omega
  · unfold opP at q
    rw [if_pos z] at q
    cases hsub : sub with
    | none => have := hs.1 hsub; omega
    | some f =>
      rw [hsub] at q
      have z18 : ¬ sgB B n s.1 = -18 := fun w => by rw [z] at w; exact absurd w (by decide)
      have had : adP (sgB B n) s = (s.1 + 1, s.2) := if_neg z18
      have q2 : cOut b B n C k (g f (adP (sgB B n) s)) t Q := q
      rw [had] at q2
      exact hK f hsub (hs.2 f hsub).2 u hc2 he2 (q2.tr hf)
/-- a call, then what follows when it went well -/
theorem p_then {R : (Int32 → gSt → Prop) → gSt → Prop} {f : PS → PR} (hR : cFn b B n C R f) {k : Int} (hk : 0 ≤ k) {s : PS} {t : gSt} (hc : CR b B n C (k + 1) s t) (he : cEq b s t) {h : PS → PR} {Q : Int32 → gSt → Prop} (q : cOut b B n C k (bnP (f s) h) t Q) {K : gSt → Prop} (hK : ∀ s2 u, CR b B n C (k + 1) s2 u → cWk b B n s2 u → cOut b B n C k (h s2) u Q → K u) : R (fun x s2 => ((x = 0 → (Q (nI 0) s2)) ∧ (¬ x = 0 → K s2))) t := by
  refine hR (k + 1) s t _ (by omega) hc he ?_
  cases hf : f s with
  | inl e =>
    rw [hf] at q
    exact fun u hu k1 k2 => bq_t rfl (q u hu k1 k2)
  | inr s2 =>
    rw [hf] at q
    intro u hu hc2 hw2
    have q2 : cOut b B n C k (h s2) t Q := q
    exact bq_f (by decide) (hK s2 u hc2 hw2 (q2.tr hu))
/-- a sign that is due, then what follows -/
theorem p_due {t : gSt} {k : Int} {s : PS} {due : Int32} (hb : ∀ i, i < n → B i < 256) (hc : CR b B n C (k + 1) s t) (hw : cWk b B n s t) (hd : ¬ due = -17 ∧ ¬ due = -18) {h : PS → PR} {Q : Int32 → gSt → Prop} (q : cOut b B n C k (bnP (paP (sgB B n) due s) h) t Q) {K : gSt → Prop} (hK : ∀ u, CR b B n C (k + 1) (s.1 + 1, s.2) u → cEq b (s.1 + 1, s.2) u → cOut b B n C k (h (s.1 + 1, s.2)) u Q → K u) : W_X7_pass due (fun x s2 => ((x = 0 → (Q (nI 0) s2)) ∧ (¬ x = 0 → K s2))) t := by
  refine p_passC hb hc hw hd (fun z u hf k1 k2 => bq_t rfl ?_) (fun z u hf hc2 he2 => bq_f (by decide) ?_)
  · unfold paP at q
    rw [if_neg z] at q
    exact q u hf k1 k2
  · unfold paP at q
    have had : adP (sgB B n) s = (s.1 + 1, s.2) := if_neg (fun w => hd.2 (z.symm.trans w))
    rw [if_pos z, had] at q
    have q2 : cOut b B n C k (h (s.1 + 1, s.2)) t Q := q
    exact hK u (hc2.mono (by omega)) he2 (q2.tr hf)
end
