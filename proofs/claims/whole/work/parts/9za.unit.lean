/-! the class's chains -/
section
variable {b : Bool} {B : Nat → Nat} {n C : Nat}
/-- one round of the product's chain and the next -/
theorem p_chainP (hb : ∀ i, i < n → B i < 256) {R1 R2 R3 : Int32 → (Int32 → gSt → Prop) → gSt → Prop} {c4 : Int32} {f : PS → PR} (hR : cFn b B n C (R3 c4) f) (hat : ∀ s s2, f s = .inr s2 → s.1 < s2.1) {Q : Int32 → gSt → Prop} : ∀ (m : Nat) (i : Nat) (k : Int) (s : PS) (t : gSt), C ≤ s.1 + m → 2 * i ≤ s.1 → C ≤ 400 → 0 ≤ k → CR b B n C k s t → cWk b B n s t → cOut b B n C k (chP (sgB B n) (nI 42) (nI 47) 9 10 f (m + 1) s) t Q → L_X7_readProduct_12 b R1 R2 R3 Q c4 (fun s22 => Q (nI 1) s22) (m + 2) (nI i) t := by
  intro m
  induction m with
  | zero =>
    intro i k s t hm hi hC hk hc hw q
    have hcC := hc.2.2.2.2.1
    have hend : sgB B n s.1 = -18 := by
      have hT := hc.1
      rw [show s.1 = C by omega, sgB, sgn, if_neg (by rw [hT.2.1]; omega)]
    rw [chP, hend, if_neg (by decide)] at q
    rw [L_X7_readProduct_12]
    refine bq_f (nI_ge (by omega) (by omega)) (fun J9 hJ9 => ?_)
    rw [hc.2.2.2.1, hend]
    exact bq_f (by decide) (bq_f (by decide) (q t cfr.rf hc hw))
  | succ m ih =>
    intro i k s t hm hi hC hk hc hw q
    rw [L_X7_readProduct_12]
    have hcC := hc.2.2.2.2.1
    refine bq_f (nI_ge (by omega) (by omega)) (fun J9 hJ9 => ?_)
    rw [hc.2.2.2.1]
    rw [chP] at q
    have step : (sgB B n s.1 = nI 42 ∨ sgB B n s.1 = nI 47) → J9 := fun hx => by
      rw [if_pos hx] at q
      have z17 : ¬ sgB B n s.1 = -17 := fun w => by rw [w] at hx; rcases hx with h | h <;> exact absurd h (by decide)
      have z18 : ¬ sgB B n s.1 = -18 := fun w => by rw [w] at hx; rcases hx with h | h <;> exact absurd h (by decide)
      have had : adP (sgB B n) s = (s.1 + 1, s.2) := if_neg z18
      rw [had] at q
      refine hJ9 (fun J11 hJ11 => ?_)
      have key : ∀ o x10, x10 = nI (opC o) → o = (if sgB B n s.1 = nI 42 then 9 else 10) → J11 x10 := fun o x10 ho ho2 => by
        rw [← ho2] at q
        refine hJ11 _ (p_advanceC hb hc (fun w => absurd w z18) (fun _ u hf hc2 he => ?_))
        have q2 := q.tr hf
        refine hR (k + 1) _ u _ (by omega) hc2 (he (hw.eq z17 z18)) ?_
        cases hfs : f (s.1 + 1, s.2) with
        | inl e =>
          rw [hfs] at q2
          exact fun v hv k1 k2 => bq_t rfl (q2 v hv k1 k2)
        | inr s2 =>
          rw [hfs] at q2
          have hlt := hat _ _ hfs
          intro v hv hc3 hw3
          refine bq_f (by decide) (p_emitO hk hc3 hw3 ho (fun w hw4 hc4 hw5 => ?_))
          rw [nI_add]
          have q3 : cOut b B n C k (chP (sgB B n) (nI 42) (nI 47) 9 10 f (m + 1) (emP o (nI 0) s2)) u Q := q2
          exact ih (i + 1) k _ w (by show C ≤ s2.1 + m; have : s.1 + 1 < s2.1 := hlt; omega) (by show 2 * (i + 1) ≤ s2.1; have : s.1 + 1 < s2.1 := hlt; omega) hC hk hc4 hw5 (q3.tr (hv.trans hw4))
      rw [hc.2.2.2.1]
      exact ⟨fun w => key 9 _ rfl (by rw [if_pos w]), fun w => key 10 _ rfl (by rw [if_neg w])⟩
    refine ⟨fun w => step (.inl w), fun w => ⟨fun w2 => step (.inr w2), fun w2 => ?_⟩⟩
    rw [if_neg (fun x => x.elim w w2)] at q
    exact q t cfr.rf hc hw
/-- one round of the sum's chain and the next -/
theorem p_chainS (hb : ∀ i, i < n → B i < 256) {R1 R2 R3 : Int32 → (Int32 → gSt → Prop) → gSt → Prop} {c4 : Int32} {f : PS → PR} (hR : cFn b B n C (R1 c4) f) (hat : ∀ s s2, f s = .inr s2 → s.1 < s2.1) {Q : Int32 → gSt → Prop} : ∀ (m : Nat) (i : Nat) (k : Int) (s : PS) (t : gSt), C ≤ s.1 + m → 2 * i ≤ s.1 → C ≤ 400 → 0 ≤ k → CR b B n C k s t → cWk b B n s t → cOut b B n C k (chP (sgB B n) (nI 43) (nI 45) 7 8 f (m + 1) s) t Q → L_X7_readSum_12 b R1 R2 R3 Q c4 (fun s22 => Q (nI 1) s22) (m + 2) (nI i) t := by
  intro m
  induction m with
  | zero =>
    intro i k s t hm hi hC hk hc hw q
    have hcC := hc.2.2.2.2.1
    have hend : sgB B n s.1 = -18 := by
      have hT := hc.1
      rw [show s.1 = C by omega, sgB, sgn, if_neg (by rw [hT.2.1]; omega)]
    rw [chP, hend, if_neg (by decide)] at q
    rw [L_X7_readSum_12]
    refine bq_f (nI_ge (by omega) (by omega)) (fun J9 hJ9 => ?_)
    rw [hc.2.2.2.1, hend]
    exact bq_f (by decide) (bq_f (by decide) (q t cfr.rf hc hw))
  | succ m ih =>
    intro i k s t hm hi hC hk hc hw q
    rw [L_X7_readSum_12]
    have hcC := hc.2.2.2.2.1
    refine bq_f (nI_ge (by omega) (by omega)) (fun J9 hJ9 => ?_)
    rw [hc.2.2.2.1]
    rw [chP] at q
    have step : (sgB B n s.1 = nI 43 ∨ sgB B n s.1 = nI 45) → J9 := fun hx => by
      rw [if_pos hx] at q
      have z17 : ¬ sgB B n s.1 = -17 := fun w => by rw [w] at hx; rcases hx with h | h <;> exact absurd h (by decide)
      have z18 : ¬ sgB B n s.1 = -18 := fun w => by rw [w] at hx; rcases hx with h | h <;> exact absurd h (by decide)
      have had : adP (sgB B n) s = (s.1 + 1, s.2) := if_neg z18
      rw [had] at q
      refine hJ9 (fun J11 hJ11 => ?_)
      have key : ∀ o x10, x10 = nI (opC o) → o = (if sgB B n s.1 = nI 43 then 7 else 8) → J11 x10 := fun o x10 ho ho2 => by
        rw [← ho2] at q
        refine hJ11 _ (p_advanceC hb hc (fun w => absurd w z18) (fun _ u hf hc2 he => ?_))
        have q2 := q.tr hf
        refine hR (k + 1) _ u _ (by omega) hc2 (he (hw.eq z17 z18)) ?_
        cases hfs : f (s.1 + 1, s.2) with
        | inl e =>
          rw [hfs] at q2
          exact fun v hv k1 k2 => bq_t rfl (q2 v hv k1 k2)
        | inr s2 =>
          rw [hfs] at q2
          have hlt := hat _ _ hfs
          intro v hv hc3 hw3
          refine bq_f (by decide) (p_emitO hk hc3 hw3 ho (fun w hw4 hc4 hw5 => ?_))
          rw [nI_add]
          have q3 : cOut b B n C k (chP (sgB B n) (nI 43) (nI 45) 7 8 f (m + 1) (emP o (nI 0) s2)) u Q := q2
          exact ih (i + 1) k _ w (by show C ≤ s2.1 + m; have : s.1 + 1 < s2.1 := hlt; omega) (by show 2 * (i + 1) ≤ s2.1; have : s.1 + 1 < s2.1 := hlt; omega) hC hk hc4 hw5 (q3.tr (hv.trans hw4))
      rw [hc.2.2.2.1]
      exact ⟨fun w => key 7 _ rfl (by rw [if_pos w]), fun w => key 8 _ rfl (by rw [if_neg w])⟩
    refine ⟨fun w => step (.inl w), fun w => ⟨fun w2 => step (.inr w2), fun w2 => ?_⟩⟩
    rw [if_neg (fun x => x.elim w w2)] at q
    exact q t cfr.rf hc hw
end
