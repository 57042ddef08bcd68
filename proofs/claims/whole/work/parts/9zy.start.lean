/-! the world when the law's loop begins: built by the two constructors, and the invariant holds -/
def apO (σ : gSt) : Nat × Nat × Nat × Nat → gSt
  | (0, k, _, _) => sZ σ k
  | (1, k, j, v) => sR σ k j (some v)
  | (_, k, j, _) => sI σ k j (-1)
def apL (l : List (Nat × Nat × Nat × Nat)) (σ : gSt) : gSt := l.foldl apO σ
def opsA : List (Nat × Nat × Nat × Nat) := [(0, 1, 0, 0), (0, 2, 0, 0), (1, 1, 1, 2), (0, 3, 0, 0), (1, 1, 2, 3), (1, 0, 0, 1), (0, 4, 0, 0), (2, 4, 2, 0), (0, 5, 0, 0), (0, 6, 0, 0), (1, 5, 6, 6), (0, 7, 0, 0), (1, 5, 7, 7), (0, 8, 0, 0), (1, 5, 8, 8), (0, 9, 0, 0), (1, 5, 9, 9), (0, 10, 0, 0), (1, 5, 10, 10), (0, 11, 0, 0), (1, 5, 11, 11), (1, 4, 3, 5), (0, 12, 0, 0), (1, 4, 4, 12), (0, 13, 0, 0), (1, 4, 5, 13), (0, 14, 0, 0), (1, 4, 6, 14), (0, 15, 0, 0), (1, 4, 7, 15), (1, 0, 1, 4), (0, 16, 0, 0), (0, 17, 0, 0), (0, 18, 0, 0), (1, 17, 6, 18), (0, 19, 0, 0), (1, 17, 7, 19), (0, 20, 0, 0), (1, 17, 8, 20), (0, 21, 0, 0), (1, 17, 9, 21), (0, 22, 0, 0), (1, 17, 10, 22), (0, 23, 0, 0), (1, 17, 11, 23), (1, 16, 1, 17), (0, 24, 0, 0), (1, 16, 3, 24), (0, 25, 0, 0), (1, 16, 4, 25), (0, 26, 0, 0), (1, 16, 5, 26), (0, 27, 0, 0), (1, 16, 6, 27), (0, 28, 0, 0), (1, 16, 7, 28), (0, 29, 0, 0), (1, 16, 8, 29), (1, 16, 0, 1), (1, 0, 2, 16), (0, 30, 0, 0), (0, 31, 0, 0), (1, 30, 0, 31), (0, 32, 0, 0), (1, 30, 1, 32), (2, 30, 7, 0), (1, 30, 3, 1), (1, 30, 4, 16), (1, 0, 3, 30), (0, 33, 0, 0), (0, 34, 0, 0), (1, 33, 0, 34), (0, 35, 0, 0), (1, 33, 5, 35), (0, 36, 0, 0), (1, 33, 6, 36), (0, 37, 0, 0), (1, 33, 7, 37), (1, 33, 3, 16), (1, 33, 4, 30), (1, 0, 4, 33), (0, 38, 0, 0), (0, 39, 0, 0), (1, 38, 8, 39), (0, 40, 0, 0), (1, 38, 9, 40), (0, 41, 0, 0), (1, 38, 10, 41), (1, 38, 4, 33), (1, 38, 5, 16), (1, 38, 6, 30), (1, 0, 5, 38), (0, 42, 0, 0), (0, 43, 0, 0), (1, 42, 4, 43), (0, 44, 0, 0), (1, 42, 5, 44), (0, 45, 0, 0), (1, 42, 6, 45), (1, 42, 3, 16), (1, 0, 6, 42), (0, 46, 0, 0), (0, 47, 0, 0), (1, 46, 0, 47), (0, 48, 0, 0), (1, 46, 3, 48), (0, 49, 0, 0), (1, 46, 4, 49), (1, 46, 1, 16), (1, 46, 2, 30), (1, 0, 7, 46), (0, 50, 0, 0), (0, 51, 0, 0), (1, 50, 2, 51), (0, 52, 0, 0), (1, 50, 3, 52), (0, 53, 0, 0), (1, 50, 4, 53), (0, 54, 0, 0), (1, 50, 5, 54), (0, 55, 0, 0), (1, 50, 6, 55), (1, 50, 7, 16), (1, 50, 8, 30), (1, 0, 8, 50), (0, 56, 0, 0), (0, 57, 0, 0), (1, 56, 4, 57), (0, 58, 0, 0), (1, 56, 5, 58), (0, 59, 0, 0), (1, 56, 6, 59), (0, 60, 0, 0), (1, 56, 7, 60), (0, 61, 0, 0), (1, 56, 8, 61), (0, 62, 0, 0), (1, 56, 9, 62), (1, 56, 3, 50), (1, 0, 9, 56), (0, 63, 0, 0), (1, 0, 10, 63), (0, 64, 0, 0), (1, 0, 11, 64)]
def opsB : List (Nat × Nat × Nat × Nat) := [(0, 66, 0, 0), (1, 65, 2, 66), (0, 67, 0, 0), (1, 65, 3, 67), (0, 68, 0, 0), (1, 65, 4, 68), (0, 69, 0, 0), (1, 65, 5, 69), (0, 70, 0, 0), (1, 65, 6, 70), (0, 71, 0, 0), (1, 65, 7, 71), (0, 72, 0, 0), (1, 65, 8, 72), (2, 65, 18, 0), (0, 73, 0, 0), (1, 65, 19, 73), (0, 74, 0, 0), (1, 65, 20, 74), (0, 75, 0, 0), (1, 65, 21, 75), (0, 76, 0, 0), (1, 65, 22, 76), (0, 77, 0, 0), (1, 65, 23, 77), (0, 78, 0, 0), (1, 65, 24, 78), (0, 79, 0, 0), (1, 65, 25, 79), (0, 80, 0, 0), (1, 65, 26, 80), (0, 81, 0, 0), (1, 65, 27, 81), (0, 82, 0, 0), (1, 65, 28, 82), (0, 83, 0, 0), (1, 65, 29, 83), (0, 84, 0, 0), (1, 65, 30, 84), (0, 85, 0, 0), (1, 65, 31, 85), (0, 86, 0, 0), (1, 65, 32, 86), (0, 87, 0, 0), (1, 65, 34, 87), (0, 88, 0, 0), (1, 65, 35, 88), (0, 89, 0, 0), (1, 65, 36, 89), (0, 90, 0, 0), (1, 65, 37, 90), (0, 91, 0, 0), (1, 65, 38, 91), (0, 92, 0, 0), (1, 65, 39, 92), (0, 93, 0, 0), (1, 65, 40, 93), (2, 65, 43, 0), (0, 94, 0, 0), (1, 65, 45, 94), (0, 95, 0, 0), (1, 65, 46, 95), (0, 96, 0, 0), (1, 65, 47, 96), (0, 97, 0, 0), (1, 65, 48, 97), (0, 98, 0, 0), (1, 65, 49, 98), (0, 99, 0, 0), (1, 65, 55, 99), (0, 100, 0, 0), (1, 65, 58, 100), (0, 101, 0, 0), (1, 65, 59, 101), (0, 102, 0, 0), (1, 65, 63, 102), (0, 103, 0, 0), (1, 65, 65, 103), (0, 104, 0, 0), (1, 65, 66, 104), (0, 105, 0, 0), (1, 65, 67, 105), (0, 106, 0, 0), (1, 65, 81, 106), (0, 107, 0, 0), (1, 65, 82, 107), (0, 108, 0, 0), (1, 65, 83, 108), (0, 109, 0, 0), (1, 65, 84, 109), (0, 110, 0, 0), (1, 65, 85, 110), (0, 111, 0, 0), (1, 65, 86, 111), (0, 112, 0, 0), (1, 65, 87, 112), (0, 113, 0, 0), (1, 65, 89, 113), (0, 114, 0, 0), (1, 65, 90, 114)]
def opsL : List (Nat × Nat × Nat × Nat) := (0, 0, 0, 0) :: (opsA ++ (0, 65, 0, 0) :: opsB)
def σ0 : gSt := (fun _ _ => 0, fun _ _ => 0, fun _ _ => none)
theorem apL_app (l1 l2 : List (Nat × Nat × Nat × Nat)) (σ : gSt) : apL (l1 ++ l2) σ = apL l2 (apL l1 σ) := by simp [apL, List.foldl_append]
theorem apL_ints (k j : Nat) : ∀ (l : List (Nat × Nat × Nat × Nat)) (σ : gSt), σ.1 k j = 0 → l.all (fun q => decide (q.1 ≤ 1) || !(q.2.1 == k && q.2.2.1 == j)) = true → (apL l σ).1 k j = 0 := by
  intro l
  induction l with
  | nil => intro σ h _; exact h
  | cons q l ih =>
    intro σ h ha
    rw [List.all_cons, Bool.and_eq_true] at ha
    obtain ⟨ha, hb⟩ := ha
    refine ih (apO σ q) ?_ hb
    obtain ⟨c, k2, j2, v⟩ := q
    match c with
    | 0 =>
      show (if k = k2 then (fun _ => (0 : Int32)) else σ.1 k) j = 0
      split
      · rfl
      · exact h
    | 1 => exact h
    | c + 2 =>
      show (sI σ k2 j2 (-1)).1 k j = 0
      rw [sI_get, if_neg ?_]
      · exact h
      · rintro ⟨rfl, rfl⟩
        simp at ha
theorem apL_longs (k j : Nat) : ∀ (l : List (Nat × Nat × Nat × Nat)) (σ : gSt), σ.2.1 k j = 0 → (apL l σ).2.1 k j = 0 := by
  intro l
  induction l with
  | nil => intro σ h; exact h
  | cons q l ih =>
    intro σ h
    refine ih (apO σ q) ?_
    obtain ⟨c, k2, j2, v⟩ := q
    match c with
    | 0 =>
      show (if k = k2 then (fun _ => (0 : Int64)) else σ.2.1 k) j = 0
      split
      · rfl
      · exact h
    | 1 => exact h
    | c + 2 => exact h
def rfO (k j : Nat) (x : Option Nat) : Nat × Nat × Nat × Nat → Option Nat
  | (0, k2, _, _) => if k = k2 then none else x
  | (1, k2, j2, v) => if k = k2 then (if j = j2 then some v else x) else x
  | _ => x
theorem apL_refs (k j : Nat) : ∀ (l : List (Nat × Nat × Nat × Nat)) (σ : gSt), (apL l σ).2.2 k j = l.foldl (rfO k j) (σ.2.2 k j) := by
  intro l
  induction l with
  | nil => intro σ; rfl
  | cons q l ih =>
    intro σ
    have e := ih (apO σ q)
    refine Eq.trans e ?_
    rw [List.foldl_cons]
    congr 1
    obtain ⟨c, k2, j2, v⟩ := q
    match c with
    | 0 =>
      show (if k = k2 then (fun _ => none) else σ.2.2 k) j = if k = k2 then none else σ.2.2 k j
      split <;> rfl
    | 1 =>
      show (if k = k2 then (fun b => if b = j2 then some v else σ.2.2 k2 b) else σ.2.2 k) j = if k = k2 then (if j = j2 then some v else σ.2.2 k j) else σ.2.2 k j
      by_cases h : k = k2
      · subst h; rw [if_pos rfl, if_pos rfl]
      · rw [if_neg h, if_neg h]
    | c + 2 => rfl
theorem rfO_none (k j : Nat) : ∀ (l : List (Nat × Nat × Nat × Nat)), l.all (fun q => !(q.1 == 1 && q.2.1 == k && q.2.2.1 == j)) = true → l.foldl (rfO k j) none = none := by
  intro l
  induction l with
  | nil => intro _; rfl
  | cons q l ih =>
    intro ha
    rw [List.all_cons, Bool.and_eq_true] at ha
    obtain ⟨ha, hb⟩ := ha
    rw [List.foldl_cons]
    have e : rfO k j none q = none := by
      obtain ⟨c, k2, j2, v⟩ := q
      match c with
      | 0 => show (if k = k2 then none else none) = none; split <;> rfl
      | 1 =>
        show (if k = k2 then (if j = j2 then some v else none) else none) = none
        split
        · split
          · rename_i h1 h2; subst h1; subst h2; simp at ha
          · rfl
        · rfl
      | c + 2 => rfl
    rw [e]
    exact ih hb
theorem refs_A : opsL.all (fun q => !(q.1 == 1) || decide (gRf false q.2.1 q.2.2.1 = opsL.foldl (rfO q.2.1 q.2.2.1) none)) = true := by decide +kernel
theorem refs_B : (List.range 120).all (fun k => (List.range ((gRL false).getD k []).length).all (fun j => (gRf false k j).isNone || opsL.any (fun q => q.1 == 1 && q.2.1 == k && q.2.2.1 == j))) = true := by decide +kernel
theorem refs_len : (gRL false).length ≤ 120 := by decide +kernel
theorem refs_start : (apL opsL σ0).2.2 = gRf false := by
  funext k j
  rw [apL_refs]
  show opsL.foldl (rfO k j) none = gRf false k j
  by_cases h : opsL.all (fun q => !(q.1 == 1 && q.2.1 == k && q.2.2.1 == j)) = true
  · rw [rfO_none k j opsL h]
    have hn : (gRf false k j).isNone = true := by
      by_cases hk : k < 120
      · by_cases hj : j < ((gRL false).getD k []).length
        · have := List.all_eq_true.mp (List.all_eq_true.mp refs_B k (List.mem_range.mpr hk)) j (List.mem_range.mpr hj)
          rw [Bool.or_eq_true] at this
          rcases this with q | q
          · exact q
          · rw [List.any_eq_true] at q
            obtain ⟨x, hx, q⟩ := q
            have := List.all_eq_true.mp h x hx
            rw [q] at this
            exact absurd this (by decide)
        · have : gRf false k j = none := by
            show ((gRL false).getD k []).getD j none = none
            rw [List.getD_eq_getElem?_getD, List.getElem?_eq_none (by omega)]
            rfl
          rw [this]; rfl
      · have : gRf false k j = none := by
          show ((gRL false).getD k []).getD j none = none
          rw [List.getD_eq_getElem?_getD (l := gRL false), List.getElem?_eq_none (by have := refs_len; omega)]
          rfl
        rw [this]; rfl
    exact (Option.isNone_iff_eq_none.mp hn).symm
  · have h2 : ∃ q ∈ opsL, ¬ (!(q.1 == 1 && q.2.1 == k && q.2.2.1 == j)) = true := by
      rcases Classical.em (∃ q ∈ opsL, ¬ (!(q.1 == 1 && q.2.1 == k && q.2.2.1 == j)) = true) with w | w
      · exact w
      · exact absurd (List.all_eq_true.mpr (fun q hq => Classical.byContradiction fun hc => w ⟨q, hq, hc⟩)) h
    obtain ⟨q, hq, h3⟩ := h2
    have h4 : (q.1 == 1 && q.2.1 == k && q.2.2.1 == j) = true := by
      cases he : (q.1 == 1 && q.2.1 == k && q.2.2.1 == j)
      · rw [he] at h3; exact absurd rfl h3
      · rfl
    rw [Bool.and_eq_true, Bool.and_eq_true] at h4
    obtain ⟨⟨e1, e2⟩, e3⟩ := h4
    have e2 := eq_of_beq e2
    have e3 := eq_of_beq e3
    have := List.all_eq_true.mp refs_A q hq
    rw [e1] at this
    have := of_decide_eq_true (by simpa using this : decide (gRf false q.2.1 q.2.2.1 = opsL.foldl (rfO q.2.1 q.2.2.1) none) = true)
    rw [e2, e3] at this
    exact this.symm
theorem refs_115 : ((gRL false).getD 115 []).length = 0 := by decide +kernel
/-- the state when the loop begins -/
def σF : gSt := sZ (dg (apL opsL σ0) 0) 115
theorem σF_refs : σF.2.2 = gRf false := by
  have e : σF.2.2 = (fun a => if a = 115 then (fun _ => none) else (apL opsL σ0).2.2 a) := rfl
  rw [e, refs_start]
  funext a
  split
  · rename_i h; subst h; funext j
    show none = ((gRL false).getD 115 []).getD j none
    rw [List.getD_eq_getElem?_getD, List.getElem?_eq_none (by rw [refs_115]; exact Nat.zero_le _)]; rfl
  · rfl
theorem σF_long (k j : Nat) : σF.2.1 k j = 0 := by
  show (if k = 115 then (fun _ => (0 : Int64)) else (apL opsL σ0).2.1 k) j = 0
  split
  · rfl
  · exact apL_longs k j opsL σ0 rfl
theorem σF_int {k j : Nat} (hk : k ≠ 72) (h : (apL opsL σ0).1 k j = 0) : σF.1 k j = nI 0 := by
  show (if k = 115 then (fun _ => (0 : Int32)) else (if k = 72 then _ else (apL opsL σ0).1 k)) j = nI 0
  rw [if_neg hk]
  split
  · show (0 : Int32) = nI 0; decide
  · rw [h]; decide
theorem σF_at {k j : Nat} {x : Int32} (hk : k ≠ 72) (h5 : k ≠ 115) (h : (apL opsL σ0).1 k j = x) : σF.1 k j = x := by
  show (if k = 115 then (fun _ => (0 : Int32)) else (if k = 72 then _ else (apL opsL σ0).1 k)) j = x
  rw [if_neg hk, if_neg h5]
  exact h
theorem ops_min : opsL.all (fun q => decide (q.1 ≤ 1) || ((q.2.1 == 4 && q.2.2.1 == 2) || (q.2.1 == 30 && q.2.2.1 == 7) || (q.2.1 == 65 && q.2.2.1 == 18) || (q.2.1 == 65 && q.2.2.1 == 43))) = true := by decide +kernel
theorem ints_0 {k j : Nat} (h1 : ¬ (k = 4 ∧ j = 2)) (h2 : ¬ (k = 30 ∧ j = 7)) (h3 : ¬ (k = 65 ∧ (j = 18 ∨ j = 43))) : (apL opsL σ0).1 k j = 0 := by
  refine apL_ints k j opsL σ0 rfl (List.all_eq_true.mpr (fun q hq => ?_))
  have := List.all_eq_true.mp ops_min q hq
  rw [Bool.or_eq_true] at this ⊢
  rcases this with w | w
  · exact Or.inl w
  · refine Or.inr ?_
    cases he : (q.2.1 == k && q.2.2.1 == j)
    · rfl
    · exfalso
      simp only [Bool.or_eq_true, Bool.and_eq_true, beq_iff_eq] at w he
      omega
theorem ints_4 : (apL opsL σ0).1 4 2 = -1 := by decide +kernel
theorem ints_30 : (apL opsL σ0).1 30 7 = -1 := by decide +kernel
theorem ints_a : (apL opsL σ0).1 65 18 = -1 := by decide +kernel
theorem ints_b : (apL opsL σ0).1 65 43 = -1 := by decide +kernel
theorem σF_72 {x y : Nat} (hx : x < 16) (hy : y < 16) : σF.1 72 (16 * x + y) = if x = y then nI 100 else nI 0 := by
  show (if (16 * x + y) % 17 = 0 ∧ 0 ≤ (16 * x + y) / 17 ∧ (16 * x + y) / 17 < 16 then (100 : Int32) else (apL opsL σ0).1 72 (16 * x + y)) = _
  by_cases h : x = y
  · rw [if_pos h, if_pos (by omega)]; decide
  · rw [if_neg h, if_neg (by omega), ints_0 (by omega) (by omega) (by omega)]; decide
theorem bt_z (i : Nat) : bt (nI 0) i = false := by
  have e : nI 0 = (0 : Int32) := by decide
  rw [e]
  show (0 : BitVec 32).getLsbD i = false
  simp
theorem inv_start : Inv false σF := by
  have z : ∀ k j, k ≠ 72 → k ≠ 4 → k ≠ 30 → k ≠ 65 → σF.1 k j = nI 0 := fun k j a b c d => σF_int a (ints_0 (by omega) (by omega) (by omega))
  have z65 : ∀ j, j ≠ 18 → j ≠ 43 → σF.1 65 j = nI 0 := fun j a b => σF_int (by decide) (ints_0 (by omega) (by omega) (by omega))
  have z30 : ∀ j, j ≠ 7 → σF.1 30 j = nI 0 := fun j a => σF_int (by decide) (ints_0 (by omega) (by omega) (by omega))
  have z4 : ∀ j, j ≠ 2 → σF.1 4 j = nI 0 := fun j a => σF_int (by decide) (ints_0 (by omega) (by omega) (by omega))
  have m4 : σF.1 4 2 = -1 := σF_at (by decide) (by decide) ints_4
  have m30 : σF.1 30 7 = -1 := σF_at (by decide) (by decide) ints_30
  have ma : σF.1 65 18 = -1 := σF_at (by decide) (by decide) ints_a
  have mb : σF.1 65 43 = -1 := σF_at (by decide) (by decide) ints_b
  have h72 : ∀ x y, x < 16 → y < 16 → σF.1 72 (16 * x + y) = if x = y then nI 100 else nI 0 := fun x y hx hy => σF_72 hx hy
  have hRf := σF_refs
  have hl0 := σF_long
  generalize σF = s at *
  refine ⟨hRf, 0, fun _ => 0, fun _ => 0, fun _ => 0, fun _ => 0, fun _ => 0, 0, fun _ => 0, fun _ => 0, fun _ => 0, fun _ => 0, fun _ => 0, 0, fun _ => 0, fun _ => 0, fun _ => 0, 0, 0, -1, 0, fun _ => 0, fun _ => 0, fun _ => false, fun _ => 0, 0, fun _ => 0, fun _ _ => 0, 0, 0, false, ?_, ?_, ?_, ?_, ?_, ?_, ?_, ?_⟩
  · refine ⟨⟨z 1 0 (by decide) (by decide) (by decide) (by decide), by omega, fun i hi => absurd hi (Nat.not_lt_zero _)⟩, ⟨z65 1 (by decide) (by decide), by omega, fun i hi => absurd hi (Nat.not_lt_zero _), fun x y hx hy => ?_⟩, fun x y hx hy => ?_, fun i hi => absurd hi (Nat.not_lt_zero _)⟩
    · rw [h72 x y hx hy, z 3 _ (by decide) (by decide) (by decide) (by decide)]
    · rw [z 3 _ (by decide) (by decide) (by decide) (by decide), z 3 _ (by decide) (by decide) (by decide) (by decide)]
  · refine ⟨⟨z 17 0 (by decide) (by decide) (by decide) (by decide), fun i hi => absurd hi (Nat.not_lt_zero _), fun h => absurd h (Nat.lt_irrefl _), fun j h => absurd h (Nat.lt_irrefl _)⟩, ⟨z65 16 (by decide) (by decide), fun i hi => absurd hi (Nat.not_lt_zero _), fun j h => absurd h (Nat.lt_irrefl _)⟩, ⟨by omega, fun i hi => absurd hi (Nat.not_lt_zero _), fun h => absurd h (Nat.lt_irrefl _)⟩⟩
  · refine ⟨⟨z65 33 (by decide) (by decide), by omega, fun i hi => absurd hi (Nat.not_lt_zero _)⟩, z 16 2 (by decide) (by decide) (by decide) (by decide), fun i hi => absurd hi (Nat.not_lt_zero _), fun i _ hi => absurd hi (Nat.not_lt_zero _), fun a c _ _ => ?_⟩
    rw [z 28 a (by decide) (by decide) (by decide) (by decide), bt_z, decide_eq_false (Nat.not_lt_zero _)]
  · refine ⟨⟨z65 44 (by decide) (by decide), by omega, fun i hi => absurd hi (Nat.not_lt_zero _)⟩, fun i hi => absurd hi (Nat.not_lt_zero _), fun i _ hi => absurd hi (Nat.not_lt_zero _), ⟨z65 41 (by decide) (by decide), z30 5 (by decide), by omega⟩, ⟨z65 42 (by decide) (by decide), z30 6 (by decide), by omega⟩, ⟨mb, m30, Or.inl rfl⟩, z30 2 (by decide), fun a c _ _ => ?_⟩
    rw [z 31 a (by decide) (by decide) (by decide) (by decide), z 32 a (by decide) (by decide) (by decide) (by decide), bt_z, tieF, cutF, decide_eq_false (Nat.not_lt_zero _)]
    exact ⟨rfl, rfl⟩
  · refine ⟨fun i j _ hi => absurd hi (Nat.not_lt_zero _), fun i k _ _ _ => ?_, fun i _ => z 24 _ (by decide) (by decide) (by decide) (by decide)⟩
    rw [z 27 i (by decide) (by decide) (by decide) (by decide), bt_z]
  · exact ⟨z 33 1 (by decide) (by decide) (by decide) (by decide), ⟨z 33 2 (by decide) (by decide) (by decide) (by decide), z65 88 (by decide) (by decide), by omega⟩, fun i hi => absurd hi (Nat.not_lt_zero _), fun i hi => absurd hi (Nat.not_lt_zero _)⟩
  · refine ⟨z4 0 (by decide), z65 9 (by decide) (by decide), by omega, fun i hi => absurd hi (Nat.not_lt_zero _), m4.trans ma.symm, z 56 10 (by decide) (by decide) (by decide) (by decide)⟩
  · refine ⟨z 42 0 (by decide) (by decide) (by decide) (by decide), z65 56 (by decide) (by decide), by omega, (hl0 42 1).trans (hl0 65 57).symm, (z65 60 (by decide) (by decide)).trans (by decide), fun _ => rfl, fun _ j _ => z 43 j (by decide) (by decide) (by decide) (by decide), fun a c _ _ => ?_, fun h => absurd h (by decide)⟩
    rw [z 43 _ (by decide) (by decide) (by decide) (by decide), z 43 _ (by decide) (by decide) (by decide) (by decide)]
