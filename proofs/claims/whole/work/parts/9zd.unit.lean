section
variable {b : Bool} {B : Nat → Nat} {n C : Nat}
theorem cFn_unit {d : Nat} (hb : ∀ i, i < n → B i < 256) (hd6 : d ≤ 6) {R1 R2 R3 : Int32 → (Int32 → gSt → Prop) → gSt → Prop} {sub : Option (PS → PR)} (hs : subOK b B n C d R2 sub) : cFn b B n C (S_X7_readUnit b R1 R2 R3 (nI d)) (unP (sgB B n) (vlB B n) sub) := by
  intro k s t Q hk hc he q
  have hw : cWk b B n s t := .inr (.inr he)
  have hT := hc.1
  have hCn := hT.1
  have h4 := hc.2.1
  have hcC := hc.2.2.2.2.1
  unfold S_X7_readUnit
  rw [hc.2.2.2.1, hc.2.2.1]
  unfold unP at q
  refine ⟨fun z => ?_, fun z J2 hJ2 => ?_⟩
  · rw [if_pos z] at q
    have z18 : ¬ sgB B n s.1 = -18 := by rw [z]; decide
    have hin := hc.in z18
    refine rI_i (by omega) ?_
    have h15 := hT.2.2.2.2 _ hin
    rw [h15]
    refine ⟨fun w => ?_, fun w => ?_⟩
    · rw [if_pos w] at q
      exact p_emad hb hk hc he z18 h15 rfl q
    · rw [if_neg w] at q
      exact p_refuseC hc (fun u hf k1 k2 => ⟨.inl rfl, q u hf k1 k2⟩)
  · rw [if_neg z] at q
    have h3 : ¬ (sgB B n s.1 ≤ (-1 : Int32) ∧ (-6 : Int32) ≤ sgB B n s.1) → J2 := fun y => by
      rw [if_neg y] at q
      refine hJ2 (fun J3 hJ3 => ?_)
      have h78 : (sgB B n s.1 = -7 ∨ sgB B n s.1 = -8) → J3 := fun hx => by
        rw [if_pos hx] at q
        have z18 : ¬ sgB B n s.1 = -18 := fun w => by rw [w] at hx; rcases hx with h | h <;> exact absurd h (by decide)
        have had : adP (sgB B n) s = (s.1 + 1, s.2) := if_neg z18
        rw [had] at q
        refine hJ3 (fun J5 hJ5 => ?_)
        have key : ∀ o x4, x4 = nI (opC o) → o = (if sgB B n s.1 = -7 then 11 else 12) → J5 x4 := fun o x4 ho ho2 => by
          rw [← ho2] at q
          refine hJ5 _ (p_advanceC hb hc (fun w => absurd w z18) (fun _ u hf hc2 he2 => ?_))
          refine p_opened hb hd6 hs hk (hc2.mono (by omega)) (.inr (.inr (he2 he))) (q.tr hf) (fun f hsf hcf u2 hc3 he3 q3 => ?_)
          refine p_then hcf hk hc3 he3 q3 (fun s2 u3 hc4 hw4 q4 => ?_)
          refine p_due hb hc4 hw4 ⟨by decide, by decide⟩ q4 (fun u4 hc5 he5 q5 => ?_)
          refine p_then hcf hk hc5 he5 q5 (fun s4 u5 hc6 hw6 q6 => ?_)
          refine p_due hb hc6 hw6 ⟨by decide, by decide⟩ q6 (fun u6 hc7 he7 q7 => ?_)
          exact p_emitO hk hc7 (.inr (.inr he7)) ho (fun w hf8 hc8 hw8 => bq_f (by decide) (q7 w hf8 hc8 hw8))
        exact ⟨fun w => key 11 _ rfl (by rw [if_pos w]), fun w => key 12 _ rfl (by rw [if_neg w])⟩
      refine ⟨fun w => h78 (.inl w), fun w => ⟨fun w2 => h78 (.inr w2), fun w2 => ?_⟩⟩
      rw [if_neg (fun x => x.elim w w2)] at q
      refine p_opened hb hd6 hs hk hc hw q (fun f hsf hcf u2 hc3 he3 q3 => p_then hcf hk hc3 he3 q3 (fun s2 u3 hc4 hw4 q4 => ?_))
      refine p_passC hb hc4 hw4 ⟨by decide, by decide⟩ (fun z u hf k1 k2 => bq_t rfl ?_) (fun z u hf hc5 he5 => bq_f (by decide) ?_)
      · unfold paP at q4
        rw [if_neg z] at q4
        exact q4 u hf k1 k2
      · unfold paP at q4
        have had : adP (sgB B n) s2 = (s2.1 + 1, s2.2) := if_neg (fun w => absurd (z.symm.trans w) (by decide))
        rw [if_pos z, had] at q4
        exact q4 u hf (hc5.mono (by omega)) (.inr (.inr he5))
    refine ⟨fun w => h3 (fun y => absurd w (Int32.not_lt.mpr y.1)), fun w => ⟨fun w2 => h3 (fun y => absurd w2 (Int32.not_lt.mpr y.2)), fun w2 => ?_⟩⟩
    have f1 := Int32.not_lt.mp w
    have f2 := Int32.not_lt.mp w2
    rw [if_pos ⟨f1, f2⟩] at q
    have hp : (-1 : Int32) - sgB B n s.1 = nI (opC (nt (-(sgB B n s.1)))) := by
      rcases i32_six f1 f2 with h | h | h | h | h | h <;> rw [h] <;> decide
    have z18 : ¬ sgB B n s.1 = -18 := fun w => by rw [w] at f2; exact absurd f2 (by decide)
    exact p_emad hb hk hc he z18 (tab0 hT hcC z z18) hp q
end
