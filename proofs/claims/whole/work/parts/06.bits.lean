/-! bits of rows -/
theorem bt_1 (i : Nat) (hi : i < 32) : bt (nI 1) i = decide (i = 0) := by
  have h : ∀ i, i < 32 → bt (nI 1) i = decide (i = 0) := by decide +kernel
  exact h i hi
theorem bt_one (b : Nat) (hb : b < 32) {j : Nat} (hj : j < 32) : bt (nI 1 <<< (nI b &&& 31)) j = decide (j = b) := by
  rw [b_shl b hb _ hj]
  by_cases h : b ≤ j
  · rw [bt_1 _ (by omega)]
    simp only [h, decide_true, Bool.true_and]
    by_cases h2 : j = b
    · subst h2; simp
    · have : ¬ j - b = 0 := by omega
      simp [h2, this]
  · have : ¬ j = b := by omega
    simp [h, this]
theorem b_and1 {y : Int32} : (y &&& nI 1 = 0) ↔ bt y 0 = false := by
  constructor
  · intro h
    have h1 : bt (y &&& nI 1) 0 = false := by rw [h]; exact b_0 0
    rw [b_and, bt_1 0 (by decide)] at h1
    simpa using h1
  · intro h
    apply b_ext
    intro i hi
    rw [b_and, bt_1 i hi, b_0]
    by_cases h2 : i = 0
    · subst h2; simp [h]
    · simp [h2]
theorem bit_test {x : Int32} {b : Nat} (hb : b < 32) : ((x.toUInt32 >>> ((nI b).toUInt32 &&& Int32.toUInt32 31)).toInt32 &&& nI 1 = 0) ↔ bt x b = false := by
  rw [b_and1, b_ushr b hb, Nat.add_zero]
theorem bt_not (b : Nat) (hb : b < 32) {j : Nat} (hj : j < 32) : bt ((nI 1 <<< (nI b &&& 31)) ^^^ (-1)) j = decide (j ≠ b) := by
  rw [b_xor, bt_one b hb hj, b_m1 j hj]
  by_cases h : j = b <;> simp [h]
def rowSet (f g : Nat → Int32) (a b : Nat) (on : Bool) : Prop := ∀ i j, j < 32 → bt (g i) j = if (i = a ∧ j = b) ∨ (i = b ∧ j = a) then on else bt (f i) j
theorem rowSet_on {f : Nat → Int32} {a b : Nat} (ha : a < 32) (hb : b < 32) : rowSet f (upd (upd f a (f a ||| (nI 1 <<< (nI b &&& 31)))) b (upd f a (f a ||| (nI 1 <<< (nI b &&& 31))) b ||| (nI 1 <<< (nI a &&& 31)))) a b true := by
  intro i j hj
  by_cases h1 : i = b
  · subst h1
    by_cases h2 : i = a
    · subst h2
      simp only [upd, if_true, b_or, bt_one i ha hj]
      by_cases h3 : j = i <;> simp [h3]
    · simp only [upd, if_true, h2, if_false, b_or, bt_one a ha hj]
      by_cases h3 : j = a <;> simp [h3, h2]
  · by_cases h2 : i = a
    · subst h2
      simp only [upd, if_true, h1, if_false, b_or, bt_one b hb hj]
      by_cases h3 : j = b <;> simp [h3, h1]
    · simp [upd, h1, h2]
theorem rowSet_off {f : Nat → Int32} {a b : Nat} (ha : a < 32) (hb : b < 32) : rowSet f (upd (upd f a (f a &&& ((nI 1 <<< (nI b &&& 31)) ^^^ (-1)))) b (upd f a (f a &&& ((nI 1 <<< (nI b &&& 31)) ^^^ (-1))) b &&& ((nI 1 <<< (nI a &&& 31)) ^^^ (-1)))) a b false := by
  intro i j hj
  by_cases h1 : i = b
  · subst h1
    by_cases h2 : i = a
    · subst h2
      simp only [upd, if_true, b_and, bt_not i ha hj]
      by_cases h3 : j = i <;> simp [h3]
    · simp only [upd, if_true, h2, if_false, b_and, bt_not a ha hj]
      by_cases h3 : j = a <;> simp [h3, h2]
  · by_cases h2 : i = a
    · subst h2
      simp only [upd, if_true, h1, if_false, b_and, bt_not b hb hj]
      by_cases h3 : j = b <;> simp [h3, h1]
    · simp [upd, h1, h2]
theorem sI_k {σ : gSt} {k j : Nat} {x : Int32} : (sI σ k j x).1 k = upd (σ.1 k) j x := sI_self
section GA
variable {o : gOm} {γ : gCx} {cc : ByteArray} {nL : Nat} {own : String} {cells slots n : Nat} {σ : gSt} {pc : Nat} {ls : List (Option Value)} {rest : List Value}
theorem g_alen (X : gX o γ cc nL own) {k len : Nat} (hd : decode cc pc = .ok (.arraylength, 1)) (hlay : lay k = (0, len)) (hk : k < n) (kk : G o γ cells slots n σ (pc + 1) ls (.int (nI len) :: rest)) : G o γ cells slots n σ pc ls (.ref (ad o k) :: rest) := by
  obtain ⟨p, l, e, R, s, m, args, below, meth, c, Q⟩ := γ
  obtain ⟨hx, hb, hml, hown, hts, hK, hbase, hlk, hfx⟩ := X
  intro H locs lsC hW hS hn hl
  exact va_alen hx hb hK hW.1 k 0 (by rw [wl_get hk, ent_i hlay]) (ty := .int) rfl (v := nI len) rfl hd (kk H locs lsC hW hS hn hl)
end GA
