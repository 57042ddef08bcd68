/-! the class's chains: products and sums -/
section
variable {b : Bool} {B : Nat → Nat} {n C : Nat}
/-- a call of the class that reads does what the pure reader does -/
def cFn (b : Bool) (B : Nat → Nat) (n C : Nat) (R : (Int32 → gSt → Prop) → gSt → Prop) (f : PS → PR) : Prop := ∀ (k : Int) (s : PS) (t : gSt) (Q : Int32 → gSt → Prop), 0 ≤ k → CR b B n C k s t → cEq b s t → cOut b B n C k (f s) t Q → R Q t
theorem cOut.tr {k : Int} {r : PR} {t u : gSt} {Q : Int32 → gSt → Prop} (h : cOut b B n C k r t Q) (f : cfr b t u) : cOut b B n C k r u Q := by
  cases r with
  | inl e => exact fun v hv => h v (f.trans hv)
  | inr s => exact fun v hv => h v (f.trans hv)
theorem cOut.mono {k l : Int} {r : PR} {t : gSt} {Q : Int32 → gSt → Prop} (h : cOut b B n C k r t Q) (hl : k ≤ l) : cOut b B n C l r t Q := by
  cases r with
  | inl e => exact h
  | inr s => exact fun v hv hc hw => h v hv (hc.mono hl) hw
/-- it ends at the latest word -/
theorem CR.in {k : Int} {s : PS} {t : gSt} (h : CR b B n C k s t) (hz : ¬ sgB B n s.1 = -18) : s.1 < C := by
  obtain ⟨hT, h4, h9, h8, hc, h5, hk, ho⟩ := h
  by_cases w : s.1 = C
  · exfalso; refine hz ?_; rw [w, sgB, sgn, if_neg (by rw [hT.2.1]; omega)]
  · omega
end
