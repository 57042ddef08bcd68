/-! the class's tests are the pure ones -/
section
variable {b : Bool} {B : Nat → Nat} {n C : Nat}
theorem cOut.imp {k : Int} {r : PR} {t : gSt} {Q Q2 : Int32 → gSt → Prop} (h : cOut b B n C k r t Q) (h0 : ∀ u, Q (nI 0) u → Q2 (nI 0) u) (h1 : ∀ u, Q (nI 1) u → Q2 (nI 1) u) : cOut b B n C k r t Q2 := by
  cases r with
  | inl e => exact fun u hu k1 k2 => h0 u (h u hu k1 k2)
  | inr s => exact fun u hu hc hw => h1 u (h u hu hc hw)
theorem cFn_not {d : Nat} (hb : ∀ i, i < n → B i < 256) (hd6 : d ≤ 6) {R1 R2 R3 R4 : Int32 → (Int32 → gSt → Prop) → gSt → Prop} {sub : Option (PS → PR)} (hs : subOK b B n C d R4 sub) : cFn b B n C (S_X7_readNot b R1 R2 R3 R4 (nI d)) (opP (sgB B n) (-16) sub (fun f s1 => bnP (f s1) (fun s2 => .inr (emP 18 (nI 0) s2)))) := by
  intro k s t Q hk hc he q
  unfold S_X7_readNot
  refine p_openedD hb ⟨by decide, by decide⟩ hd6 hs hc (.inr (.inr he)) q (fun f hsf hcf u hc2 he2 q2 => p_then hcf hk hc2 he2 q2 (fun s2 u2 hc3 hw3 q3 => ?_))
  exact p_emitO (o := 18) hk hc3 hw3 rfl (fun w hf4 hc4 hw4 => bq_f (by decide) (q3 w hf4 hc4 hw4))
theorem cFn_test {d : Nat} (hb : ∀ i, i < n → B i < 256) (hd6 : d ≤ 6) {R1 R2 R3 R4 : Int32 → (Int32 → gSt → Prop) → gSt → Prop} {sm : PS → PR} {sub : Option ((PS → PR) × (PS → PR))} (hsm : cFn b B n C (W_X7_readSum b (nI d)) sm) (hs1 : subOK b B n C d R1 (sub.map (fun f => f.1))) (hnot : cFn b B n C (R3 (nI d)) (opP (sgB B n) (-16) (sub.map (fun f => f.2)) (fun f s1 => bnP (f s1) (fun s2 => .inr (emP 18 (nI 0) s2))))) : cFn b B n C (S_X7_readTest b R1 R2 R3 R4 (nI d)) (teP (sgB B n) sm sub) := by
  intro k s t Q hk hc he q
  unfold S_X7_readTest
  rw [hc.2.2.2.1]
  unfold teP at q
  refine ⟨fun z => ?_, fun z => ⟨fun z2 => ?_, fun z2 => ?_⟩⟩
  · rw [if_pos z] at q
    exact hnot k s t _ hk hc he (q.imp (fun u h => ⟨.inl rfl, h⟩) (fun u h => ⟨.inr rfl, h⟩))
  · rw [if_neg z, if_pos z2] at q
    refine p_openedD hb ⟨by decide, by decide⟩ hd6 hs1 hc (.inr (.inr he)) q (fun f hsf hcf u hc2 he2 q2 => p_then hcf hk hc2 he2 q2 (fun s2 u2 hc3 hw3 q3 => ?_))
    refine p_passC hb hc3 hw3 ⟨by decide, by decide⟩ (fun z u hf k1 k2 => bq_t rfl ?_) (fun z u hf hc5 he5 => bq_f (by decide) ?_)
    · unfold paP at q3
      rw [if_neg z] at q3
      exact q3 u hf k1 k2
    · unfold paP at q3
      have had : adP (sgB B n) s2 = (s2.1 + 1, s2.2) := if_neg (fun w => absurd (z.symm.trans w) (by decide))
      rw [if_pos z, had] at q3
      exact q3 u hf (hc5.mono (by omega)) (.inr (.inr he5))
  · rw [if_neg z, if_neg z2] at q
    refine hsm k s t _ hk hc he ?_
    cases hfs : sm s with
    | inl e =>
      rw [hfs] at q
      exact fun u hu k1 k2 => bq_t rfl (q u hu k1 k2)
    | inr s1 =>
      rw [hfs] at q
      intro u hu hc2 hw2
      refine bq_f (by decide) (fun J6 hJ6 => ?_)
      replace q : cOut b B n C k (if sgB B n s1.1 = nI 60 ∨ sgB B n s1.1 = nI 62 ∨ sgB B n s1.1 = nI 61 then bnP (sm (adP (sgB B n) s1)) (fun s2 => .inr (emP (if sgB B n s1.1 = nI 60 then 13 else if sgB B n s1.1 = nI 62 then 14 else 15) (nI 0) s2)) else .inl (1, s1.1)) u Q := q.tr hu
      rw [hc2.2.2.2.1]
      have step : (sgB B n s1.1 = nI 60 ∨ sgB B n s1.1 = nI 62 ∨ sgB B n s1.1 = nI 61) → J6 := fun hx => by
        rw [if_pos hx] at q
        have z17 : ¬ sgB B n s1.1 = -17 := fun w => by rw [w] at hx; rcases hx with h | h | h <;> exact absurd h (by decide)
        have z18 : ¬ sgB B n s1.1 = -18 := fun w => by rw [w] at hx; rcases hx with h | h | h <;> exact absurd h (by decide)
        have had : adP (sgB B n) s1 = (s1.1 + 1, s1.2) := if_neg z18
        rw [had] at q
        refine hJ6 (fun J8 hJ8 => ?_)
        have key : ∀ o x7, x7 = nI (opC o) → o = (if sgB B n s1.1 = nI 60 then 13 else if sgB B n s1.1 = nI 62 then 14 else 15) → J8 x7 := fun o x7 ho ho2 => by
          rw [← ho2] at q
          refine hJ8 _ (p_advanceC hb hc2 (fun w => absurd w z18) (fun _ u3 hf hc3 he => ?_))
          exact p_then hsm hk hc3 (he (hw2.eq z17 z18)) (q.tr hf) (fun s4 u5 hc6 hw6 q6 => p_emitO hk hc6 hw6 ho (fun w hf8 hc8 hw8 => bq_f (by decide) (q6 w hf8 hc8 hw8)))
        rw [hc2.2.2.2.1]
        refine ⟨fun w => key 13 _ rfl (by rw [if_pos w]), fun w => ⟨fun w2 => key 14 _ rfl (by rw [if_neg w, if_pos w2]), fun w2 => key 15 _ rfl (by rw [if_neg w, if_neg w2])⟩⟩
      refine ⟨fun w => step (.inl w), fun w => ⟨fun w2 => step (.inr (.inl w2)), fun w2 => ⟨fun w3 => step (.inr (.inr w3)), fun w3 => ?_⟩⟩⟩
      rw [if_neg (fun x => x.elim w (fun y => y.elim w2 w3))] at q
      exact p_refuseC hc2 (fun v hf k1 k2 => ⟨.inl rfl, q v hf k1 k2⟩)
theorem cFn_sum60 (hb : ∀ i, i < n → B i < 256) (hC : C ≤ 400) {e d : Nat} (h : d + e = 6) : cFn b B n C (W_X7_readSum b (nI d)) (sumP (sgB B n) (vlB B n) e) := by
  have h2 := cFn_sums (b := b) (B := B) (n := n) hb hC e d (60 - (3 * e + 3)) h
  rw [show 60 - (3 * e + 3) + (3 * e + 3) = 60 by omega] at h2
  exact h2
theorem cFn_tests (hb : ∀ i, i < n → B i < 256) (hC : C ≤ 400) : ∀ (e d m : Nat), d + e = 6 → cFn b B n C ((WR_X7_readAny b (m + (4 * e + 4))).1 (nI d)) (tsP (sgB B n) (vlB B n) e).1 ∧ cFn b B n C ((WR_X7_readAny b (m + (4 * e + 2))).2.2.2 (nI d)) (tsP (sgB B n) (vlB B n) e).2 := by
  have up : ∀ (e d : Nat), d + e = 6 → ∀ sub : Option ((PS → PR) × (PS → PR)), (∀ f, sub = some f → (∀ s s2, f.1 s = .inr s2 → s.1 < s2.1) ∧ ∀ s s2, f.2 s = .inr s2 → s.1 < s2.1) → (∀ m, cFn b B n C ((WR_X7_readAny b (m + (4 * e + 2))).2.2.2 (nI d)) (teP (sgB B n) (sumP (sgB B n) (vlB B n) e) sub)) → ∀ m, cFn b B n C ((WR_X7_readAny b (m + (4 * e + 4))).1 (nI d)) (ayP (sgB B n) (sumP (sgB B n) (vlB B n) e) sub) := fun e d hd sub hsub ht m => by
    have a1 := teP_at (S := sgB B n) (sumP_at (S := sgB B n) (V := vlB B n) e) hsub
    have a2 := eaP_at a1
    exact cFn_readAny (R1 := (WR_X7_readAny b (m + (4 * e + 3))).1) (R3 := (WR_X7_readAny b (m + (4 * e + 3))).2.2.1) (R4 := (WR_X7_readAny b (m + (4 * e + 3))).2.2.2) hb hC (cFn_readEach (R1 := (WR_X7_readAny b (m + (4 * e + 2))).1) (R2 := (WR_X7_readAny b (m + (4 * e + 2))).2.1) (R3 := (WR_X7_readAny b (m + (4 * e + 2))).2.2.1) hb hC (ht m) a1) a2
  intro e
  induction e with
  | zero =>
    intro d m hd
    have hn : ∀ R, subOK b B n C d R none := fun R => ⟨fun _ => (by omega), fun f hf => by cases hf⟩
    have ht : ∀ m, cFn b B n C ((WR_X7_readAny b (m + (4 * 0 + 2))).2.2.2 (nI d)) (teP (sgB B n) (sumP (sgB B n) (vlB B n) 0) none) := fun m =>
      cFn_test (R1 := (WR_X7_readAny b (m + 1)).1) (R2 := (WR_X7_readAny b (m + 1)).2.1) (R3 := (WR_X7_readAny b (m + 1)).2.2.1) (R4 := (WR_X7_readAny b (m + 1)).2.2.2) hb (by omega) (cFn_sum60 hb hC hd) (hn _) (cFn_not (R1 := (WR_X7_readAny b m).1) (R2 := (WR_X7_readAny b m).2.1) (R3 := (WR_X7_readAny b m).2.2.1) hb (by omega) (hn _))
    exact ⟨up 0 d hd none (fun f hf => by cases hf) ht m, ht m⟩
  | succ e ih =>
    intro d m hd
    have hs1 : ∀ m, subOK b B n C d ((WR_X7_readAny b (m + (4 * e + 4))).1) (some (tsP (sgB B n) (vlB B n) e).1) := fun m => ⟨fun h => (by cases h), fun f hf => by
      cases hf
      refine ⟨by omega, ?_⟩
      rw [nI_add]
      exact (ih (d + 1) m (by omega)).1⟩
    have hs2 : ∀ m, subOK b B n C d ((WR_X7_readAny b (m + (4 * e + 2))).2.2.2) (some (tsP (sgB B n) (vlB B n) e).2) := fun m => ⟨fun h => (by cases h), fun f hf => by
      cases hf
      refine ⟨by omega, ?_⟩
      rw [nI_add]
      exact (ih (d + 1) m (by omega)).2⟩
    have ht : ∀ m, cFn b B n C ((WR_X7_readAny b (m + (4 * (e + 1) + 2))).2.2.2 (nI d)) (teP (sgB B n) (sumP (sgB B n) (vlB B n) (e + 1)) (some (tsP (sgB B n) (vlB B n) e))) := fun m => by
      have h1 := hs1 (m + 1)
      have h2 := hs2 (m + 2)
      rw [show m + 1 + (4 * e + 4) = m + (4 * e + 4) + 1 by omega] at h1
      rw [show m + 2 + (4 * e + 2) = m + (4 * e + 4) by omega] at h2
      exact cFn_test (R1 := (WR_X7_readAny b (m + (4 * e + 4) + 1)).1) (R2 := (WR_X7_readAny b (m + (4 * e + 4) + 1)).2.1) (R3 := (WR_X7_readAny b (m + (4 * e + 4) + 1)).2.2.1) (R4 := (WR_X7_readAny b (m + (4 * e + 4) + 1)).2.2.2) hb (by omega) (cFn_sum60 hb hC hd) h1 (cFn_not (R1 := (WR_X7_readAny b (m + (4 * e + 4))).1) (R2 := (WR_X7_readAny b (m + (4 * e + 4))).2.1) (R3 := (WR_X7_readAny b (m + (4 * e + 4))).2.2.1) hb (by omega) h2)
    exact ⟨up (e + 1) d hd _ (fun f hf => by cases hf; exact tsP_at e) ht m, ht m⟩
theorem cFn_any60 (hb : ∀ i, i < n → B i < 256) (hC : C ≤ 400) {e d : Nat} (h : d + e = 6) : cFn b B n C (W_X7_readAny b (nI d)) (tsP (sgB B n) (vlB B n) e).1 := by
  have h2 := (cFn_tests (b := b) (B := B) (n := n) hb hC e d (60 - (4 * e + 4)) h).1
  rw [show 60 - (4 * e + 4) + (4 * e + 4) = 60 by omega] at h2
  exact h2
end
