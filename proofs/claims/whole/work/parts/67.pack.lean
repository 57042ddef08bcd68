/-! the packing of rings, as a pure fold -/
/-- the rests, how many rings, how many packed, the sum, the ring asked for -/
abbrev PK := (Nat → Nat → Int32) × Nat × Nat × Int64 × (Nat → Int32)
def pkTake (q : Int32) (a b c : Nat) (s : PK) : PK := (fun i j => if (i = a ∧ j = b) ∨ (i = a ∧ j = c) ∨ (i = b ∧ j = c) then s.1 i j - M3 s.1 a b c else s.1 i j, s.2.1 + 1, s.2.2.1 + 1, s.2.2.2.1 + i2l (M3 s.1 a b c), if nI s.2.2.1 = q then (fun i => if i = 0 then nI a else if i = 1 then nI b else if i = 2 then nI c else M3 s.1 a b c) else s.2.2.2.2)
def pkStep (P : Nat → Nat → Nat → Bool) (q : Int32) (a b c : Nat) (s : PK) : PK := if P a b c then (if M3 s.1 a b c = 0 then (s.1, s.2.1 + 1, s.2.2) else pkTake q a b c s) else s
def pkNn (s : PK) (N : Nat) : Prop := ∀ i j, i < j → j < N → (0 : Int32) ≤ s.1 i j
theorem M3_le {u : Nat → Nat → Int32} {a b c : Nat} : (M3 u a b c).toInt ≤ (u a b).toInt ∧ (M3 u a b c).toInt ≤ (u a c).toInt ∧ (M3 u a b c).toInt ≤ (u b c).toInt := by
  unfold M3
  rw [minI_toInt, minI_toInt]
  omega
theorem M3_nn {s : PK} {N a b c : Nat} (h : pkNn s N) (hab : a < b) (hbc : b < c) (hc : c < N) : (0 : Int32) ≤ M3 s.1 a b c := by
  have h1 := h a b hab (by omega)
  have h2 := h a c (by omega) hc
  have h3 := h b c hbc hc
  rw [fa_le] at h1 h2 h3 ⊢
  unfold M3
  rw [minI_toInt, minI_toInt]
  omega
theorem sub_nn {x m : Int32} (h0 : (0 : Int32) ≤ m) (h : m.toInt ≤ x.toInt) : (0 : Int32) ≤ x - m := by
  rw [fa_le] at h0 ⊢
  have e0 : (0 : Int32).toInt = 0 := by decide
  rw [e0] at h0 ⊢
  have l1 := Int32.toInt_lt x
  have l2 := Int32.le_toInt x
  rw [Int32.toInt_sub, Int.bmod_eq_of_le (by omega) (by omega)]
  omega
theorem pkStep_nn {P : Nat → Nat → Nat → Bool} {q : Int32} {N a b c : Nat} {s : PK} (h : pkNn s N) (hab : a < b) (hbc : b < c) (hc : c < N) : pkNn (pkStep P q a b c s) N := by
  unfold pkStep
  split
  · split
    · exact h
    · intro i j hij hj
      show (0 : Int32) ≤ (if (i = a ∧ j = b) ∨ (i = a ∧ j = c) ∨ (i = b ∧ j = c) then s.1 i j - M3 s.1 a b c else s.1 i j)
      split
      · refine sub_nn (M3_nn h hab hbc hc) ?_
        rename_i e
        obtain ⟨m1, m2, m3⟩ := @M3_le s.1 a b c
        rcases e with ⟨rfl, rfl⟩ | ⟨rfl, rfl⟩ | ⟨rfl, rfl⟩
        · exact m1
        · exact m2
        · exact m3
      · exact h i j hij hj
  · exact h
