/-! the class's products, sums and units -/
section
variable {b : Bool} {B : Nat → Nat} {n C : Nat}
theorem cFn_prod (hb : ∀ i, i < n → B i < 256) (hC : C ≤ 400) {R1 R2 R3 : Int32 → (Int32 → gSt → Prop) → gSt → Prop} {c4 : Int32} {f : PS → PR} (hR : cFn b B n C (R3 c4) f) (hat : ∀ s s2, f s = .inr s2 → s.1 < s2.1) : cFn b B n C (S_X7_readProduct b R1 R2 R3 c4) (fun s => bnP (f s) (chP (sgB B n) (nI 42) (nI 47) 9 10 f 401)) := by
  intro k s t Q hk hc he q
  replace q : cOut b B n C k (bnP (f s) (chP (sgB B n) (nI 42) (nI 47) 9 10 f 401)) t Q := q
  unfold S_X7_readProduct
  refine hR k s t _ hk hc he ?_
  cases hf : f s with
  | inl e =>
    rw [hf] at q
    exact fun u hu k1 k2 => bq_t rfl (q u hu k1 k2)
  | inr s2 =>
    rw [hf] at q
    intro u hu hc2 hw2
    have q2 : cOut b B n C k (chP (sgB B n) (nI 42) (nI 47) 9 10 f (400 + 1) s2) t Q := q
    exact bq_f (by decide) ⟨402, p_chainP hb hR hat 400 0 k s2 u (by omega) (by omega) hC hk hc2 hw2 (q2.tr hu)⟩
theorem cFn_sum (hb : ∀ i, i < n → B i < 256) (hC : C ≤ 400) {R1 R2 R3 : Int32 → (Int32 → gSt → Prop) → gSt → Prop} {c4 : Int32} {f : PS → PR} (hR : cFn b B n C (R1 c4) f) (hat : ∀ s s2, f s = .inr s2 → s.1 < s2.1) : cFn b B n C (S_X7_readSum b R1 R2 R3 c4) (fun s => bnP (f s) (chP (sgB B n) (nI 43) (nI 45) 7 8 f 401)) := by
  intro k s t Q hk hc he q
  replace q : cOut b B n C k (bnP (f s) (chP (sgB B n) (nI 43) (nI 45) 7 8 f 401)) t Q := q
  unfold S_X7_readSum
  refine hR k s t _ hk hc he ?_
  cases hf : f s with
  | inl e =>
    rw [hf] at q
    exact fun u hu k1 k2 => bq_t rfl (q u hu k1 k2)
  | inr s2 =>
    rw [hf] at q
    intro u hu hc2 hw2
    have q2 : cOut b B n C k (chP (sgB B n) (nI 43) (nI 45) 7 8 f (400 + 1) s2) t Q := q
    exact bq_f (by decide) ⟨402, p_chainS hb hR hat 400 0 k s2 u (by omega) (by omega) hC hk hc2 hw2 (q2.tr hu)⟩
theorem i32_six {x : Int32} (h1 : x ≤ (-1 : Int32)) (h2 : (-6 : Int32) ≤ x) : x = -1 ∨ x = -2 ∨ x = -3 ∨ x = -4 ∨ x = -5 ∨ x = -6 := by
  have a := Int32.le_iff_toInt_le.mp h1
  have c := Int32.le_iff_toInt_le.mp h2
  rw [show (-1 : Int32).toInt = -1 by decide] at a
  rw [show (-6 : Int32).toInt = -6 by decide] at c
  rcases (show x.toInt = -1 ∨ x.toInt = -2 ∨ x.toInt = -3 ∨ x.toInt = -4 ∨ x.toInt = -5 ∨ x.toInt = -6 by omega) with h | h | h | h | h | h
  · exact .inl (Int32.toInt_inj.mp h)
  · exact .inr (.inl (Int32.toInt_inj.mp h))
  · exact .inr (.inr (.inl (Int32.toInt_inj.mp h)))
  · exact .inr (.inr (.inr (.inl (Int32.toInt_inj.mp h))))
  · exact .inr (.inr (.inr (.inr (.inl (Int32.toInt_inj.mp h)))))
  · exact .inr (.inr (.inr (.inr (.inr (Int32.toInt_inj.mp h)))))
/-- the numbers of the table -/
abbrev vlB (B : Nat → Nat) (n : Nat) : Nat → Int32 := fun c => nI (tokV B n (plc B n c))
/-- one code and its word -/
theorem p_emad {t : gSt} {k : Int} {o : Nat} {v p0 : Int32} {s : PS} (hb : ∀ i, i < n → B i < 256) (hk : 0 ≤ k) (hc : CR b B n C k s t) (he : cEq b s t) (hz : ¬ sgB B n s.1 = -18) (hv : t.1 15 s.1 = v) (hp : p0 = nI (opC o)) {Q : Int32 → gSt → Prop} (q : cOut b B n C k (.inr (adP (sgB B n) (emP o v s))) t Q) : W_X7_emit b p0 (fun _ s45 => W_X7_advance (fun s46 => Q (nI 1) s46) s45) t := by
  have hin := hc.in hz
  have hlen : s.2.1 < 400 := by
    obtain ⟨hT, h4, h9, h8, hc, h5, hk, ho⟩ := hc
    have := hT.1
    omega
  have had : adP (sgB B n) (emP o v s) = (s.1 + 1, (emP o v s).2) := if_neg hz
  rw [had] at q
  refine p_emitC (k := k - 1) (o := o) (v := v) (by rw [Int.sub_add_cancel]; exact hc) hlen hp (fun u hf hc2 he2 => ?_)
  refine p_advanceC hb hc2 (fun y => absurd y hz) (fun _ u2 hf2 hc3 he3 => q u2 (hf.trans hf2) ?_ (.inr (.inr (he3 (he2 he hv)))))
  rw [Int.sub_add_cancel] at hc3
  exact hc3
end
