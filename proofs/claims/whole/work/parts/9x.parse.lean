/-! the pure reader over the table of words: at, how many codes, the codes, their numbers -/
abbrev PS := Nat × Nat × (Nat → Nat) × (Nat → Int32)
/-- a fault: its kind and its word; or what comes out -/
abbrev PR := Sum (Nat × Nat) PS
def emP (o : Nat) (v : Int32) (s : PS) : PS := (s.1, s.2.1 + 1, xat s.2.1 o s.2.2.1, xat s.2.1 v s.2.2.2)
def adP (S : Nat → Int32) (s : PS) : PS := if S s.1 = -18 then s else (s.1 + 1, s.2)
def bnP (r : PR) (f : PS → PR) : PR := match r with
  | .inl e => .inl e
  | .inr s => f s
def paP (S : Nat → Int32) (due : Int32) (s : PS) : PR := if S s.1 = due then .inr (adP S s) else .inl (1, s.1)
def opP (S : Nat → Int32) (due : Int32) (sub : Option (PS → PR)) (g : (PS → PR) → PS → PR) (s : PS) : PR := if S s.1 = due then (match sub with
  | none => .inl (3, s.1)
  | some f => g f (adP S s)) else .inl (1, s.1)
def unP (S V : Nat → Int32) (sub : Option (PS → PR)) (s : PS) : PR :=
  if S s.1 = -17 then (if V s.1 ≤ nI 9999 then .inr (adP S (emP 0 (V s.1) s)) else .inl (2, s.1))
  else if S s.1 ≤ -1 ∧ (-6 : Int32) ≤ S s.1 then .inr (adP S (emP (nt (-(S s.1))) (nI 0) s))
  else if S s.1 = -7 ∨ S s.1 = -8 then opP S (nI 40) sub (fun f s1 => bnP (f s1) (fun s2 => bnP (paP S (nI 44) s2) (fun s3 => bnP (f s3) (fun s4 => bnP (paP S (nI 41) s4) (fun s5 => .inr (emP (if S s.1 = -7 then 11 else 12) (nI 0) s5)))))) (adP S s)
  else opP S (nI 40) sub (fun f s1 => bnP (f s1) (fun s2 => paP S (nI 41) s2)) s
/-- a chain of the like, with two signs and two codes -/
def chP (S : Nat → Int32) (x y : Int32) (ox oy : Nat) (f : PS → PR) : Nat → PS → PR
  | 0, s => .inr s
  | m + 1, s => if S s.1 = x ∨ S s.1 = y then bnP (f (adP S s)) (fun s2 => chP S x y ox oy f m (emP (if S s.1 = x then ox else oy) (nI 0) s2)) else .inr s
def prP (S V : Nat → Int32) (sub : Option (PS → PR)) (s : PS) : PR := bnP (unP S V sub s) (chP S (nI 42) (nI 47) 9 10 (unP S V sub) 401)
def smP (S V : Nat → Int32) (sub : Option (PS → PR)) (s : PS) : PR := bnP (prP S V sub s) (chP S (nI 43) (nI 45) 7 8 (prP S V sub) 401)
/-- a sum with so many that may still open -/
def sumP (S V : Nat → Int32) : Nat → PS → PR
  | 0 => smP S V none
  | d + 1 => smP S V (some (sumP S V d))
def subP (S V : Nat → Int32) : Nat → Option (PS → PR)
  | 0 => none
  | d + 1 => some (sumP S V d)
theorem sumP_eq {S V : Nat → Int32} (d : Nat) : sumP S V d = smP S V (subP S V d) := by cases d <;> rfl
section
variable {b : Bool} {σ : gSt} {B : Nat → Nat} {n C : Nat}
abbrev sgB (B : Nat → Nat) (n : Nat) : Nat → Int32 := sgn (wsg B) B n
/-- the class in the state s, k codes short of its words -/
def CR (b : Bool) (B : Nat → Nat) (n C : Nat) (k : Int) (s : PS) (t : gSt) : Prop := tabC t B n C ∧ (n ≤ 400 ∧ t.1 4 2 = -1) ∧ t.1 4 9 = nI s.1 ∧ t.1 4 8 = sgB B n s.1 ∧ s.1 ≤ C ∧ t.1 (kD b) 5 = nI s.2.1 ∧ (s.2.1 : Int) + k ≤ s.1 ∧ ∀ j, j < s.2.1 → t.1 (kD b + 4) j = nI (opC (s.2.2.1 j))
def cEq (b : Bool) (s : PS) (t : gSt) : Prop := ∀ j, j < s.2.1 → t.1 (kD b + 5) j = s.2.2.2 j
/-- numbers that differ are lost: the next word is a number or the end -/
def cWk (b : Bool) (B : Nat → Nat) (n : Nat) (s : PS) (t : gSt) : Prop := sgB B n s.1 = -17 ∨ sgB B n s.1 = -18 ∨ cEq b s t
def cfr (b : Bool) (t u : gSt) : Prop := Off [4, kD b, kD b + 4, kD b + 5] t u ∧ (∀ j, j ≠ 1 → j ≠ 2 → j ≠ 8 → j ≠ 9 → u.1 4 j = t.1 4 j) ∧ ∀ j, j ≠ 5 → u.1 (kD b) j = t.1 (kD b) j
theorem cfr.rf {t : gSt} : cfr b t t := ⟨Off.rf, fun _ _ _ _ _ => rfl, fun _ _ => rfl⟩
theorem cfr.trans {t u v : gSt} (h : cfr b t u) (h2 : cfr b u v) : cfr b t v := ⟨h.1.trans h2.1, fun j a1 a2 a3 a4 => (h2.2.1 j a1 a2 a3 a4).trans (h.2.1 j a1 a2 a3 a4), fun j a => (h2.2.2 j a).trans (h.2.2 j a)⟩
/-- what a call of the class that reads does -/
def cOut (b : Bool) (B : Nat → Nat) (n C : Nat) (k : Int) (r : PR) (t : gSt) (Q : Int32 → gSt → Prop) : Prop := match r with
  | .inl e => ∀ u, cfr b t u → u.1 4 1 = nI e.1 → u.1 4 2 = nI (plc B n e.2) → Q (nI 0) u
  | .inr s => ∀ u, cfr b t u → CR b B n C k s u → cWk b B n s u → Q (nI 1) u
theorem kD_or : kD b = 5 ∨ kD b = 17 := by cases b <;> simp [kD]
theorem tabC.at {t u : gSt} (h : tabC t B n C) (h13 : u.1 13 = t.1 13) (h14 : u.1 14 = t.1 14) (h15 : u.1 15 = t.1 15) : tabC u B n C := by
  unfold tabC
  rw [h13, h14, h15]
  exact h
theorem sgn_end {c : Nat} (h : plc B n c < n) (hb : ∀ i, i < n → B i < 256) : ¬ sgB B n c = -18 := by
  unfold sgB sgn tokS
  rw [if_pos h]
  split
  · unfold wsg
    split
    · rename_i h2
      generalize spl.findIdx (isW B (plc B n c) (tokE B n (plc B n c))) = k at h2
      have : ∀ k, k < 16 → ¬ -(nI (k + 1)) = (-18 : Int32) := by decide
      exact this k h2
    · decide
  · split
    · decide
    · have := hb _ h
      intro w
      have h3 := nI_pos (n := B (plc B n c)) (by omega)
      rw [w] at h3
      exact absurd h3 (by decide)
theorem p_refuseC {t : gSt} {kd : Int32} {k : Int} {s : PS} (h : CR b B n C k s t) {Q : Int32 → gSt → Prop} (q : ∀ u, cfr b t u → u.1 4 1 = kd → u.1 4 2 = nI (plc B n s.1) → Q (nI 0) u) : W_X7_refuse kd Q t := by
  obtain ⟨hT, h4, h9, h8, hc, h5, hk, ho⟩ := h
  have hCn := hT.1
  unfold W_X7_refuse
  refine fI_i ?_
  rw [show (sI t 4 1 kd).1 4 9 = nI s.1 from h9]
  refine rI_i (by omega) (fI_i ?_)
  refine q (sI (sI t 4 1 kd) 4 2 _) ?_ (by rw [sI_get, if_neg (fun w => absurd w.2 (by decide)), sI_get, if_pos ⟨rfl, rfl⟩]) ?_
  · refine ⟨(Off.rf.i (by simp)).i (by simp), fun j a1 a2 _ _ => ?_, fun j _ => ?_⟩
    · rw [sI_get, if_neg (fun w => a2 w.2), sI_get, if_neg (fun w => a1 w.2)]
    · rw [sI_get, if_neg (fun w => by rcases kD_or (b := b) with e | e <;> omega), sI_get, if_neg (fun w => by rcases kD_or (b := b) with e | e <;> omega)]
  · rw [sI_get, if_pos ⟨rfl, rfl⟩]
    exact (hT.2.2.2.1 _ hc).1
theorem p_advanceC {t : gSt} {k : Int} {s : PS} (hb : ∀ i, i < n → B i < 256) (h : CR b B n C k s t) {Q : gSt → Prop} (q1 : sgB B n s.1 = -18 → Q t) (q : ¬ sgB B n s.1 = -18 → ∀ u, cfr b t u → CR b B n C (k + 1) (s.1 + 1, s.2) u → (cEq b s t → cEq b (s.1 + 1, s.2) u) → Q u) : W_X7_advance Q t := by
  obtain ⟨hT, h4, h9, h8, hc, h5, hk, ho⟩ := h
  have hCn := hT.1
  unfold W_X7_advance
  rw [h8, h9]
  refine ⟨fun z => q1 z, fun z => fI_i ?_⟩
  have hcC : s.1 < C := by
    by_cases w : s.1 = C
    · exfalso
      refine z ?_
      rw [w, sgB, sgn, if_neg (by rw [hT.2.1]; omega)]
    · omega
  rw [nI_add, show (sI t 4 9 (nI (s.1 + 1))).1 4 9 = nI (s.1 + 1) from sI_get.trans (if_pos ⟨rfl, rfl⟩)]
  refine rI_i (by omega) (fI_i ?_)
  rw [show (sI t 4 9 (nI (s.1 + 1))).1 13 (s.1 + 1) = sgB B n (s.1 + 1) from (hT.2.2.2.1 _ (by omega)).2]
  have hne : kD b ≠ 4 ∧ kD b + 4 ≠ 4 ∧ kD b + 5 ≠ 4 := by rcases kD_or (b := b) with e | e <;> omega
  have hsame : ∀ a, a ≠ 4 → (sI (sI t 4 9 (nI (s.1 + 1))) 4 8 (sgB B n (s.1 + 1))).1 a = t.1 a := fun a ha => by funext j; rw [sI_get, sI_get, if_neg (fun w => ha w.1), if_neg (fun w => ha w.1)]
  refine q z _ ⟨(Off.rf.i (by simp)).i (by simp), fun j _ _ a3 a4 => by rw [sI_get, sI_get, if_neg (fun w => a3 w.2), if_neg (fun w => a4 w.2)], fun j _ => by rw [hsame _ hne.1]⟩ ⟨hT.at (hsame _ (by decide)) (hsame _ (by decide)) (hsame _ (by decide)), ⟨h4.1, by rw [sI_get, if_neg (fun w => absurd w.2 (by decide)), sI_get, if_neg (fun w => absurd w.2 (by decide))]; exact h4.2⟩, by rw [sI_get, if_neg (fun w => absurd w.2 (by decide)), sI_get, if_pos ⟨rfl, rfl⟩], by rw [sI_get, if_pos ⟨rfl, rfl⟩], by show s.1 + 1 ≤ C; omega, by rw [hsame _ hne.1]; exact h5, by show ((s.2.1 : Nat) : Int) + (k + 1) ≤ ((s.1 + 1 : Nat) : Int); omega, fun j hj => by rw [hsame _ hne.2.1]; exact ho j hj⟩ (fun w j hj => by rw [hsame _ hne.2.2]; exact w j hj)
end
