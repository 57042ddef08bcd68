/-! the first bit; the members of an entry's part -/
def ntz4 (a b : Int32) : Int32 := b + ushr a (nI 1)
def ntz3 (a b : Int32) : Int32 := if a ≤ nI 4 then ntz4 a b else ntz4 (ushr a (nI 2)) (b + nI 2)
def ntz2 (a b : Int32) : Int32 := if a ≤ nI 16 then ntz3 a b else ntz3 (ushr a (nI 4)) (b + nI 4)
def ntz1 (a b : Int32) : Int32 := if a ≤ nI 256 then ntz2 a b else ntz2 (ushr a (nI 8)) (b + nI 8)
def ntz0 (y : Int32) : Int32 := if 0 < y then (if y ≤ (65536 : Int32) then ntz1 y (nI 1) else ntz1 (ushr y (nI 16)) (nI 1 + nI 16)) else y &&& nI 32
theorem ntz_val : ∀ e, e < 30 → ntz0 (nI (2 ^ e - 1)) = nI e := by decide +kernel
theorem ntz_w {x y : Int32} (hy : (x ^^^ (-1 : Int32)) &&& (x - nI 1) = y) {σ : gSt} {Q : Int32 → Prop} (q : Q (ntz0 y)) : W_J6_numberOfTrailingZeros_0f7a4 x Q σ := by
  unfold W_J6_numberOfTrailingZeros_0f7a4
  rw [hy]
  have s3 : ∀ a b, Q (ntz3 a b) → ∀ J13 : Int32 → Int32 → Prop, (∀ x11 x12, (Q (x12 + (ushr x11 (nI 1)))) → J13 x11 x12) → ((a ≤ (nI 4) → (J13 a b)) ∧ (¬ a ≤ (nI 4) → (J13 (ushr a (nI 2)) (b + nI 2)))) := fun a b h J hJ =>
    ⟨fun c => hJ _ _ (by rw [ntz3, if_pos c] at h; exact h), fun c => hJ _ _ (by rw [ntz3, if_neg c] at h; exact h)⟩
  refine ⟨fun c J4 h4 => ⟨fun c2 => h4 _ _ (fun J7 h7 => ?_), fun c2 => h4 _ _ (fun J7 h7 => ?_)⟩, fun c => by rw [ntz0, if_neg c] at q; exact q⟩
  · rw [ntz0, if_pos c, if_pos c2] at q
    refine ⟨fun c3 => h7 _ _ (fun J10 h10 => ?_), fun c3 => h7 _ _ (fun J10 h10 => ?_)⟩
    · rw [ntz1, if_pos c3] at q
      exact ⟨fun c4 => h10 _ _ (s3 _ _ (by rw [ntz2, if_pos c4] at q; exact q)), fun c4 => h10 _ _ (s3 _ _ (by rw [ntz2, if_neg c4] at q; exact q))⟩
    · rw [ntz1, if_neg c3] at q
      exact ⟨fun c4 => h10 _ _ (s3 _ _ (by rw [ntz2, if_pos c4] at q; exact q)), fun c4 => h10 _ _ (s3 _ _ (by rw [ntz2, if_neg c4] at q; exact q))⟩
  · rw [ntz0, if_pos c, if_neg c2] at q
    refine ⟨fun c3 => h7 _ _ (fun J10 h10 => ?_), fun c3 => h7 _ _ (fun J10 h10 => ?_)⟩
    · rw [ntz1, if_pos c3] at q
      exact ⟨fun c4 => h10 _ _ (s3 _ _ (by rw [ntz2, if_pos c4] at q; exact q)), fun c4 => h10 _ _ (s3 _ _ (by rw [ntz2, if_neg c4] at q; exact q))⟩
    · rw [ntz1, if_neg c3] at q
      exact ⟨fun c4 => h10 _ _ (s3 _ _ (by rw [ntz2, if_pos c4] at q; exact q)), fun c4 => h10 _ _ (s3 _ _ (by rw [ntz2, if_neg c4] at q; exact q))⟩
theorem nt_xor (x y : Int32) : nt (x ^^^ y) = nt x ^^^ nt y := by unfold nt; rw [Int32.toBitVec_xor, BitVec.toNat_xor]
theorem ntz_bits {x : Int32} {e : Nat} (he : e < 30) (h1 : bt x e = true) (h0 : ∀ k, k < e → bt x k = false) : (x ^^^ (-1 : Int32)) &&& (x - nI 1) = nI (2 ^ e - 1) := by
  have hp : 2 ^ e < 2 ^ 30 := Nat.pow_lt_pow_right (by decide) he
  have hpp : 0 < 2 ^ e := Nat.pow_pos (by decide)
  have hm : nt x % 2 ^ (e + 1) = 2 ^ e := by
    refine Nat.eq_of_testBit_eq (fun j => ?_)
    rw [Nat.testBit_mod_two_pow, Nat.testBit_two_pow]
    by_cases z : j < e + 1
    · rw [decide_eq_true z, Bool.true_and, ← nt_bt]
      by_cases y : e = j
      · rw [← y, h1, decide_eq_true rfl]
      · rw [h0 j (by omega), decide_eq_false y]
    · rw [decide_eq_false z, Bool.false_and, decide_eq_false (by omega)]
  have hd := Nat.div_add_mod (nt x) (2 ^ (e + 1))
  rw [hm] at hd
  obtain ⟨q, hq⟩ : ∃ q, q = nt x / 2 ^ (e + 1) := ⟨_, rfl⟩
  rw [← hq] at hd
  have hlt := nt_lt x
  have n1 : nt (nI 1) = 1 := by decide
  have hx1 : nt (x - nI 1) = 2 ^ (e + 1) * q + (2 ^ e - 1) := by rw [nt_sub (by omega), n1]; omega
  refine nt_inj ?_
  rw [nt_and, nt_xor, hx1, show nt (-1 : Int32) = 2 ^ 32 - 1 by decide, nt_nI (by omega), ← hd]
  refine Nat.eq_of_testBit_eq (fun j => ?_)
  rw [Nat.testBit_and, Nat.testBit_xor, Nat.testBit_two_pow_mul_add q (by rw [Nat.pow_succ]; omega), Nat.testBit_two_pow_mul_add q (by rw [Nat.pow_succ]; omega), Nat.testBit_two_pow_sub_one, Nat.testBit_two_pow_sub_one, Nat.testBit_two_pow]
  by_cases z : j < e + 1
  · rw [if_pos z, if_pos z, decide_eq_true (show j < 32 by omega)]
    by_cases y : e = j
    · rw [y, decide_eq_true rfl, decide_eq_false (Nat.lt_irrefl _)]; rfl
    · rw [decide_eq_false y, decide_eq_true (show j < e by omega)]; rfl
  · rw [if_neg z, if_neg z, decide_eq_false (show ¬ j < e by omega)]
    have hj : ∀ b : Bool, (b = true → j < 32) → ((b ^^ decide (j < 32)) && b) = false := fun b hb => by
      cases b
      · rw [Bool.and_false]
      · rw [decide_eq_true (hb rfl)]; rfl
    refine hj _ (fun w => ?_)
    by_cases y : j < 32
    · exact y
    · exfalso
      have h3 : (nt x).testBit j = true := by
        rw [← hd, Nat.testBit_two_pow_mul_add q (by rw [Nat.pow_succ]; omega), if_neg z]; exact w
      rw [Nat.testBit_lt_two_pow (Nat.lt_of_lt_of_le (show nt x < 2 ^ 32 by omega) (Nat.pow_le_pow_right (by decide) (by omega)))] at h3
      cases h3
theorem p_ntz {x : Int32} {e : Nat} (he : e < 30) (h1 : bt x e = true) (h0 : ∀ k, k < e → bt x k = false) {σ : gSt} {Q : Int32 → Prop} (q : Q (nI e)) : W_J6_numberOfTrailingZeros_0f7a4 x Q σ := ntz_w (ntz_bits he h1 h0) (by rw [ntz_val e he]; exact q)
theorem p_membersOf {b : Bool} {σ : gSt} (hR : σ.2.2 = gRf b) {N : Nat} {bk yr : Nat → Nat} {wt : Nat → Nat → Int32} {nv ti ap : Nat → Nat → Bool} (hC : pwC σ N bk yr wt nv ti ap) (hS : pwS N wt nv ti ap) (hN : σ.1 1 0 = nI N) (h30 : N ≤ 30) {e : Nat} (he : e < N) {Q : Int32 → gSt → Prop} (q : ∀ x t, Off [47, 48, 49] σ t → (∀ k, bt x k = rc N (fun j => decide (j < N)) (hgP wt ti) e k) → Q x t) : W_X11_membersOfPart (nI e) Q σ := by
  unfold W_X11_membersOfPart
  refine ⟨_, fun o l => s_everyone hR N h30 hN, ?_⟩
  refine p_find hR hC hS hN h30 (fun j hj => of_decide_eq_true hj) (bt_every N h30) (fun t hO h47 h49 => ?_)
  exact p_membersWith hS h30 h47 h49 he (decide_eq_true he) (fun x hx => q x t hO hx)
