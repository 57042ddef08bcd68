/-! who is together, as bits of a long -/
def bL (x : Int64) (q : Nat) : Bool := x.toBitVec.getLsbD q
theorem bL_ext {x y : Int64} (h : ∀ q, q < 64 → bL x q = bL y q) : x = y := Int64.toBitVec_inj.mp (BitVec.eq_of_getLsbD_eq (fun i hi => h i hi))
theorem bL_or (x y : Int64) (q : Nat) : bL (x ||| y) q = (bL x q || bL y q) := by unfold bL; rw [Int64.toBitVec_or, BitVec.getLsbD_or]
theorem bL_and (x y : Int64) (q : Nat) : bL (x &&& y) q = (bL x q && bL y q) := by unfold bL; rw [Int64.toBitVec_and, BitVec.getLsbD_and]
theorem bL_xor (x y : Int64) (q : Nat) : bL (x ^^^ y) q = (bL x q ^^ bL y q) := by unfold bL; rw [Int64.toBitVec_xor, BitVec.getLsbD_xor]
theorem bL_lN {v q : Nat} (hq : q < 64) : bL (lN v) q = v.testBit q := by
  unfold bL
  rw [lN_bv, BitVec.getLsbD_ofNat, decide_eq_true hq, Bool.true_and]
theorem bL_m1 {q : Nat} (hq : q < 64) : bL (-1) q = true := by
  have : ∀ q, q < 64 → bL (-1) q = true := by decide +kernel
  exact this q hq
theorem bL_0 (q : Nat) : bL (lN 0) q = false := by
  unfold bL
  rw [lN_bv]
  exact BitVec.getLsbD_zero
theorem bL_one {s q : Nat} (hs : s < 64) (hq : q < 64) : bL (shlL (lN 1) (nI s)) q = decide (q = s) := by
  unfold shlL
  rw [wb_shl 1 hs, Nat.one_mul, bL_lN hq, Nat.testBit_two_pow, decide_eq_decide]
  exact eq_comm
theorem bL_sh {m : Int32} {s q : Nat} (hm : ∀ j, 10 ≤ j → bt m j = false) (hs : s < 54) (hq : q < 64) : bL (shlL (i2l m) (nI s)) q = (decide (s ≤ q) && bt m (q - s)) := by
  have hv : nt m < 2 ^ 10 := Nat.lt_pow_two_of_testBit _ (fun i hi => by rw [← nt_bt]; exact hm i hi)
  have em : m = nI (nt m) := nt_inj (by rw [nt_nI (by omega)])
  have el : i2l m = lN (nt m) := by
    rw [em]
    show (nI (nt m)).toInt64 = _
    rw [nI_l (by omega), ← em]
  unfold shlL
  rw [el, wb_shl _ (by omega), bL_lN hq, ← Nat.shiftLeft_eq, Nat.testBit_shiftLeft, nt_bt]
theorem half_le : ∀ i, i < 11 → i * (i - 1) / 2 ≤ 45 := by decide
theorem pmL_bits {a : Nat → Nat} : ∀ (n : Nat), n ≤ 10 → ∀ q, q < 64 → (bL (pmL 0 a n) q = true ↔ ∃ x y, x < y ∧ y < n ∧ q = y * (y - 1) / 2 + x ∧ a x = a y)
  | 0, _, q, _ => by
    show bL (lN 0) q = true ↔ _
    rw [bL_0]
    constructor
    · intro h; cases h
    · rintro ⟨x, y, _, h, _⟩; omega
  | i + 1, hn, q, hq => by
    have ih := pmL_bits (a := a) i (by omega) q hq
    have hh := half_le i (by omega)
    rw [pmL, if_pos (Nat.zero_le _), bL_or, Bool.or_eq_true, ih, bL_sh (fun j hj => ?_) (by omega) hq, Bool.and_eq_true, decide_eq_true_iff]
    · constructor
      · rintro (⟨x, y, h1, h2, h3, h4⟩ | ⟨h1, h2⟩)
        · exact ⟨x, y, h1, by omega, h3, h4⟩
        · by_cases z : q - i * (i - 1) / 2 < 32
          · rw [mkI_bt (by omega) z, Bool.and_eq_true, Bool.and_eq_true, decide_eq_true_iff, decide_eq_true_iff, decide_eq_true_iff] at h2
            exact ⟨_, i, h2.1, by omega, by omega, h2.2.2⟩
          · rw [b_big (by omega)] at h2; cases h2
      · rintro ⟨x, y, h1, h2, h3, h4⟩
        by_cases z : y = i
        · subst z
          refine .inr ⟨by omega, ?_⟩
          rw [show q - y * (y - 1) / 2 = x by omega, mkI_bt (by omega) (by omega), decide_eq_true h1, decide_eq_true h4]
          rfl
        · exact .inl ⟨x, y, h1, by omega, h3, h4⟩
    · by_cases z : j < 32
      · rw [mkI_bt (by omega) z, decide_eq_false (by omega), Bool.false_and]
      · exact b_big (by omega)
theorem p_maskNow {t : gSt} {n : Nat} {a : Nat → Nat} (hn : n ≤ 10) (h64 : t.1 65 64 = nI n) (h106 : ∀ j, j < n → t.1 106 j = nI (a j) ∧ a j < 10) {Q : Int64 → Prop} (q : Q (pmL 0 a n)) : W_X12_maskNow Q t := by
  have fin1 : ∀ m : Int64, (∀ q, q < 64 → (bL m q = true ↔ ∃ x y, x < y ∧ y < n ∧ q = y * (y - 1) / 2 + x ∧ a x = a y)) → Q m := fun m hm => by
    have : m = pmL 0 a n := bL_ext (fun q hq => by
      have h1 := hm q hq
      have h2 := pmL_bits (a := a) n hn q hq
      cases e1 : bL m q <;> cases e2 : bL (pmL 0 a n) q
      · rfl
      · rw [h1.mpr (h2.mp e2)] at e1; cases e1
      · rw [h2.mpr (h1.mp e1)] at e2; cases e2
      · rfl)
    rw [this]; exact q
  have inner : ∀ (c j i : Nat) (m : Int64) (K : Int64 → Prop), j + c = n → i < j → (∀ q, q < 64 → (bL m q = true ↔ ∃ x y, x < y ∧ y < n ∧ (x < i ∨ (x = i ∧ y < j)) ∧ q = y * (y - 1) / 2 + x ∧ a x = a y)) → (∀ m2, (∀ q, q < 64 → (bL m2 q = true ↔ ∃ x y, x < y ∧ y < n ∧ x < i + 1 ∧ q = y * (y - 1) / 2 + x ∧ a x = a y)) → K m2) → L_X12_maskNow_17 Q (nI i) t K (c + 1) m (nI j) := by
    intro c
    induction c with
    | zero =>
      intro j i m K hj hi hm hK
      obtain rfl : j = n := by omega
      rw [L_X12_maskNow_17, h64]
      refine bq_t (nI_le (Nat.le_refl _) (by omega)) (hK m (fun q hq => ?_))
      rw [hm q hq]
      constructor
      · rintro ⟨x, y, h1, h2, h3, h4, h5⟩; exact ⟨x, y, h1, h2, by omega, h4, h5⟩
      · rintro ⟨x, y, h1, h2, h3, h4, h5⟩; exact ⟨x, y, h1, h2, by omega, h4, h5⟩
    | succ c ih =>
      intro j i m K hj hi hm hK
      have hjn : j < n := by omega
      rw [L_X12_maskNow_17, h64]
      refine bq_f (nI_ge hjn (by omega)) (rI_i (by omega) (rI_i (by omega) ?_))
      obtain ⟨e1, b1⟩ := h106 i (by omega)
      obtain ⟨e2, b2⟩ := h106 j hjn
      rw [e1, e2, nI_add]
      refine br_eq (by omega) (by omega) (fun z => ⟨by decide, ?_⟩) (fun z => ?_)
      · rw [half_i j (by omega), nI_add]
        refine ih (j + 1) i _ K (by omega) (by omega) (fun q hq => ?_) hK
        have hh := half_le j (by omega)
        rw [bL_or, Bool.or_eq_true, hm q hq, bL_one (by omega) hq, decide_eq_true_iff]
        constructor
        · rintro (⟨x, y, h1, h2, h3, h4, h5⟩ | h)
          · exact ⟨x, y, h1, h2, by omega, h4, h5⟩
          · exact ⟨i, j, hi, hjn, by omega, h, z⟩
        · rintro ⟨x, y, h1, h2, h3, h4, h5⟩
          by_cases w : x = i ∧ y = j
          · exact .inr (by rw [h4, w.1, w.2])
          · exact .inl ⟨x, y, h1, h2, by omega, h4, h5⟩
      · refine ih (j + 1) i _ K (by omega) (by omega) (fun q hq => ?_) hK
        rw [hm q hq]
        constructor
        · rintro ⟨x, y, h1, h2, h3, h4, h5⟩; exact ⟨x, y, h1, h2, by omega, h4, h5⟩
        · rintro ⟨x, y, h1, h2, h3, h4, h5⟩
          refine ⟨x, y, h1, h2, ?_, h4, h5⟩
          by_cases w : x = i ∧ y = j
          · exact absurd (by rw [← w.1, ← w.2]; exact h5) z
          · omega
  have outer : ∀ (c i : Nat) (m : Int64), i + c = n → (∀ q, q < 64 → (bL m q = true ↔ ∃ x y, x < y ∧ y < n ∧ x < i ∧ q = y * (y - 1) / 2 + x ∧ a x = a y)) → L_X12_maskNow_4 Q t (fun y17 => Q y17) (c + 1) m (nI i) := by
    intro c
    induction c with
    | zero =>
      intro i m hi hm
      obtain rfl : i = n := by omega
      rw [L_X12_maskNow_4, h64]
      refine bq_t (nI_le (Nat.le_refl _) (by omega)) (fin1 m (fun q hq => ?_))
      rw [hm q hq]
      constructor
      · rintro ⟨x, y, h1, h2, h3, h4, h5⟩; exact ⟨x, y, h1, h2, h4, h5⟩
      · rintro ⟨x, y, h1, h2, h4, h5⟩; exact ⟨x, y, h1, h2, by omega, h4, h5⟩
    | succ c ih =>
      intro i m hi hm
      rw [L_X12_maskNow_4, h64, nI_add]
      refine bq_f (nI_ge (by omega) (by omega)) ⟨n - (i + 1) + 1, inner (n - (i + 1)) (i + 1) i m _ (by omega) (by omega) (fun q hq => ?_) (fun m2 hm2 => ih (i + 1) m2 (by omega) hm2)⟩
      rw [hm q hq]
      constructor
      · rintro ⟨x, y, h1, h2, h3, h4, h5⟩; exact ⟨x, y, h1, h2, by omega, h4, h5⟩
      · rintro ⟨x, y, h1, h2, h3, h4, h5⟩; exact ⟨x, y, h1, h2, by omega, h4, h5⟩
  unfold W_X12_maskNow
  refine ⟨n + 1, outer n 0 (lN 0) (by omega) (fun q _ => ?_)⟩
  rw [bL_0]
  constructor
  · intro h; cases h
  · rintro ⟨x, y, _, _, h, _⟩; omega
