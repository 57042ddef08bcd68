/-! the class's steps: pass, emit, open -/
section
variable {b : Bool} {B : Nat → Nat} {n C : Nat}
theorem CR.mono {k l : Int} {s : PS} {t : gSt} (h : CR b B n C k s t) (hl : l ≤ k) : CR b B n C l s t := by
  obtain ⟨hT, h4, h9, h8, hc, h5, hk, ho⟩ := h
  exact ⟨hT, h4, h9, h8, hc, h5, by omega, ho⟩
theorem cWk.eq {s : PS} {t : gSt} (h : cWk b B n s t) (h1 : ¬ sgB B n s.1 = -17) (h2 : ¬ sgB B n s.1 = -18) : cEq b s t := by
  rcases h with h | h | h
  · exact absurd h h1
  · exact absurd h h2
  · exact h
theorem p_passC {t : gSt} {k : Int} {s : PS} {due : Int32} (hb : ∀ i, i < n → B i < 256) (h : CR b B n C k s t) (hw : cWk b B n s t) (hd : ¬ due = -17 ∧ ¬ due = -18) {Q : Int32 → gSt → Prop} (q0 : ¬ sgB B n s.1 = due → ∀ u, cfr b t u → u.1 4 1 = nI 1 → u.1 4 2 = nI (plc B n s.1) → Q (nI 0) u) (q1 : sgB B n s.1 = due → ∀ u, cfr b t u → CR b B n C (k + 1) (s.1 + 1, s.2) u → cEq b (s.1 + 1, s.2) u → Q (nI 1) u) : W_X7_pass due Q t := by
  have h8 := h.2.2.2.1
  unfold W_X7_pass
  rw [h8]
  refine ⟨fun z => ?_, fun z => p_refuseC h (fun u hf k1 k2 => ⟨.inl rfl, q0 z u hf k1 k2⟩)⟩
  refine p_advanceC hb h (fun y => absurd (z.symm.trans y) hd.2) (fun y u hf hc he => q1 z u hf hc (he (hw.eq (fun w => hd.1 (z.symm.trans w)) y)))
theorem p_emitC {t : gSt} {k : Int} {o : Nat} {v p0 : Int32} {s : PS} (h : CR b B n C (k + 1) s t) (hl : s.2.1 < 400) (hp : p0 = nI (opC o)) {Q : Int32 → gSt → Prop} (q : ∀ u, cfr b t u → CR b B n C k (emP o v s) u → (cEq b s t → t.1 15 s.1 = v → cEq b (emP o v s) u) → Q (nI 1) u) : W_X7_emit b p0 Q t := by
  obtain ⟨hT, h4, h9, h8, hc, h5, hk, ho⟩ := h
  have hCn := hT.1
  have hr := kD_or (b := b)
  unfold W_X7_emit
  rw [h9]
  refine rI_i (by omega) ?_
  unfold W_X9_emit
  rw [h5]
  refine bq_f (nI_ge (by omega) (by omega)) (wI_i (by omega) ?_)
  have e1 : (sI t (kD b + 4) s.2.1 p0).1 (kD b) 5 = nI s.2.1 := by rw [sI_get, if_neg (fun w => by omega)]; exact h5
  rw [e1]
  refine wI_i (by omega) (fI_i ?_)
  have e2 : (sI (sI t (kD b + 4) s.2.1 p0) (kD b + 5) s.2.1 (t.1 15 s.1)).1 (kD b) 5 = nI s.2.1 := by rw [sI_get, if_neg (fun w => by omega)]; exact e1
  rw [e2, nI_add]
  obtain ⟨u, hu⟩ : ∃ u, u = sI (sI (sI t (kD b + 4) s.2.1 p0) (kD b + 5) s.2.1 (t.1 15 s.1)) (kD b) 5 (nI (s.2.1 + 1)) := ⟨_, rfl⟩
  rw [← hu]
  have g : ∀ a j, u.1 a j = if a = kD b ∧ j = 5 then nI (s.2.1 + 1) else if a = kD b + 5 ∧ j = s.2.1 then t.1 15 s.1 else if a = kD b + 4 ∧ j = s.2.1 then p0 else t.1 a j := fun a j => by rw [hu, sI_get, sI_get, sI_get]
  have gs : ∀ a, a ≠ kD b → a ≠ kD b + 4 → a ≠ kD b + 5 → u.1 a = t.1 a := fun a a1 a2 a3 => by funext j; rw [g, if_neg (fun w => a1 w.1), if_neg (fun w => a3 w.1), if_neg (fun w => a2 w.1)]
  refine q u ⟨?_, fun j _ _ _ _ => ?_, fun j hj => ?_⟩ ⟨hT.at (gs _ (by omega) (by omega) (by omega)) (gs _ (by omega) (by omega) (by omega)) (gs _ (by omega) (by omega) (by omega)), ⟨h4.1, by rw [gs 4 (by omega) (by omega) (by omega)]; exact h4.2⟩, ?_, ?_, hc, ?_, ?_, fun j hj => ?_⟩ (fun he hv j hj => ?_)
  · rw [hu]; exact ((Off.rf.i (by simp)).i (by simp)).i (by simp)
  · rw [gs 4 (by omega) (by omega) (by omega)]
  · rw [g, if_neg (fun w => hj w.2), if_neg (fun w => by omega), if_neg (fun w => by omega)]
  · rw [gs 4 (by omega) (by omega) (by omega)]; exact h9
  · rw [gs 4 (by omega) (by omega) (by omega)]; exact h8
  · rw [g, if_pos ⟨rfl, rfl⟩]; rfl
  · show ((s.2.1 + 1 : Nat) : Int) + k ≤ ((s.1 : Nat) : Int); omega
  · rw [g, if_neg (fun w => by omega), if_neg (fun w => by omega)]
    show _ = nI (opC (xat s.2.1 o s.2.2.1 j))
    unfold xat
    by_cases z : j = s.2.1
    · rw [if_pos ⟨rfl, z⟩, if_pos z, hp]
    · rw [if_neg (fun w => z w.2), if_neg z]; exact ho j (by have : j < s.2.1 + 1 := hj; omega)
  · rw [g, if_neg (fun w => by omega)]
    show _ = xat s.2.1 v s.2.2.2 j
    unfold xat
    by_cases z : j = s.2.1
    · rw [if_pos ⟨rfl, z⟩, if_pos z]; exact hv
    · rw [if_neg (fun w => z w.2), if_neg z, if_neg (fun w => by omega)]; exact he j (by have : j < s.2.1 + 1 := hj; omega)
/-- a word that is neither a number nor the end has the value 0 -/
theorem tab0 {t : gSt} (hT : tabC t B n C) {c : Nat} (hc : c ≤ C) (h1 : ¬ sgB B n c = -17) (h2 : ¬ sgB B n c = -18) : t.1 15 c = nI 0 := by
  have hlt : c < C := by
    by_cases w : c = C
    · exfalso; refine h2 ?_; rw [w, sgB, sgn, if_neg (by rw [hT.2.1]; omega)]
    · omega
  rw [hT.2.2.2.2 c hlt]
  have hp := hT.2.2.1 c hlt
  unfold sgB sgn at h1
  rw [if_pos hp] at h1
  unfold tokS at h1
  unfold tokV
  by_cases y : isDb (B (plc B n c)) = true
  · by_cases x : isLb (B (plc B n c)) = true
    · unfold isDb at y; unfold isLb at x
      rw [Bool.and_eq_true, decide_eq_true_iff, decide_eq_true_iff] at x y
      omega
    · rw [if_neg x, if_pos y] at h1; exact absurd rfl h1
  · rw [if_neg y]
/-- an emitted sign: its number is 0, or the numbers are lost -/
theorem p_emitO {t : gSt} {k : Int} (hk0 : 0 ≤ k) {o : Nat} {p0 : Int32} {s : PS} (h : CR b B n C (k + 1) s t) (hw : cWk b B n s t) (hp : p0 = nI (opC o)) {Q : Int32 → gSt → Prop} (q : ∀ u, cfr b t u → CR b B n C k (emP o (nI 0) s) u → cWk b B n (emP o (nI 0) s) u → Q (nI 1) u) : W_X7_emit b p0 Q t := by
  have hlen : s.2.1 < 400 := by
    obtain ⟨hT, h4, h9, h8, hc, h5, hk, ho⟩ := h
    have := hT.1
    omega
  refine p_emitC (v := nI 0) h hlen hp (fun u hf hc he => q u hf hc ?_)
  by_cases h1 : sgB B n s.1 = -17
  · exact .inl h1
  · by_cases h2 : sgB B n s.1 = -18
    · exact .inr (.inl h2)
    · exact .inr (.inr (he (hw.eq h1 h2) (tab0 h.1 h.2.2.2.2.1 h1 h2)))
theorem p_openC {t : gSt} {k : Int} {d : Nat} {s : PS} {due : Int32} (hb : ∀ i, i < n → B i < 256) (h : CR b B n C k s t) (hw : cWk b B n s t) (hd : ¬ due = -17 ∧ ¬ due = -18) (hd6 : d ≤ 6) {Q : Int32 → gSt → Prop} (q0 : ¬ sgB B n s.1 = due → ∀ u, cfr b t u → u.1 4 1 = nI 1 → u.1 4 2 = nI (plc B n s.1) → Q (nI 0) u) (q3 : sgB B n s.1 = due → d = 6 → ∀ u, cfr b t u → u.1 4 1 = nI 3 → u.1 4 2 = nI (plc B n s.1) → Q (nI 0) u) (q1 : sgB B n s.1 = due → d < 6 → ∀ u, cfr b t u → CR b B n C (k + 1) (s.1 + 1, s.2) u → cEq b (s.1 + 1, s.2) u → Q (nI 1) u) : W_X7_open due (nI d) Q t := by
  have h8 := h.2.2.2.1
  unfold W_X7_open
  intro J hJ
  rw [h8]
  have hj : (sgB B n s.1 = due → d < 6) → J := fun hlt => hJ (p_passC hb h hw hd (fun z u hf k1 k2 => ⟨.inl rfl, q0 z u hf k1 k2⟩) (fun z u hf hc he => ⟨.inr rfl, q1 z (hlt z) u hf hc he⟩))
  refine ⟨fun z => br_lt (by omega) (by omega) (fun w => hj (fun _ => w)) (fun w => p_refuseC h (fun u hf k1 k2 => ⟨.inl rfl, q3 z (by omega) u hf k1 k2⟩)), fun z => hj (fun w => absurd w z)⟩
end
