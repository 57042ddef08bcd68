/-! the words, packed into longs, as the reference compares them -/
theorem sh5 {v y : Nat} (hy : y < 32) : shlL (lN v) (nI 5) ||| i2l (nI y) = lN (v * 32 + y) := by
  have e1 : shlL (lN v) (nI 5) = lN (v * 2 ^ 5) := wb_shl v (by decide)
  have e2 : i2l (nI y) = lN y := by
    show (nI y).toInt64 = _
    rw [nI_l (by omega)]
  rw [e1, e2]
  have e3 : v * 32 + y = v * 2 ^ 5 ||| y := by
    have := Nat.shiftLeft_add_eq_or_of_lt (i := 5) (b := y) (by omega) v
    rw [Nat.shiftLeft_eq] at this
    rw [← this]
  rw [e3]
  apply Int64.toBitVec_inj.mp
  rw [Int64.toBitVec_or, lN_bv, lN_bv, lN_bv]
  apply BitVec.eq_of_getLsbD_eq
  intro i hi
  simp [BitVec.getLsbD_ofNat, Nat.testBit_or, hi]
theorem gD {α : Type} {w : List α} {k : Nat} {d : α} (h : k < w.length) : w.getD k d = w[k] := by
  rw [List.getD_eq_getElem?_getD, List.getElem?_eq_getElem h]
  rfl
/-- the packed word -/
def pkL : List Nat → Nat
  | [] => 0
  | x :: r => pkL r * 32 + (x - 96)
theorem pkL_lt : ∀ (l : List Nat), (∀ x ∈ l, x ≤ 122) → pkL l < 32 ^ l.length
  | [], _ => by decide
  | x :: r, h => by
    have h1 := pkL_lt r (fun y hy => h y (List.mem_cons_of_mem _ hy))
    have h2 := h x (List.mem_cons_self ..)
    rw [pkL, List.length_cons, Nat.pow_succ]
    omega
theorem pkL_inj : ∀ (l m : List Nat), (∀ x ∈ l, 97 ≤ x ∧ x ≤ 122) → (∀ x ∈ m, 97 ≤ x ∧ x ≤ 122) → pkL l = pkL m → l = m
  | [], [], _, _, _ => rfl
  | [], y :: m, _, h2, h => by
    have := h2 y (List.mem_cons_self ..)
    rw [pkL, pkL] at h
    omega
  | x :: l, [], h1, _, h => by
    have := h1 x (List.mem_cons_self ..)
    rw [pkL, pkL] at h
    omega
  | x :: l, y :: m, h1, h2, h => by
    have a1 := h1 x (List.mem_cons_self ..)
    have a2 := h2 y (List.mem_cons_self ..)
    rw [pkL, pkL] at h
    have e1 : x = y := by omega
    have e2 : pkL l = pkL m := by omega
    rw [e1, pkL_inj l m (fun z hz => h1 z (List.mem_cons_of_mem _ hz)) (fun z hz => h2 z (List.mem_cons_of_mem _ hz)) e2]
/-- the first bytes from p on, the latest first -/
def btL (B : Nat → Nat) (p : Nat) : Nat → List Nat
  | 0 => []
  | m + 1 => B (p + m) :: btL B p m
theorem btL_len {B : Nat → Nat} {p : Nat} : ∀ m, (btL B p m).length = m
  | 0 => rfl
  | m + 1 => by rw [btL, List.length_cons, btL_len m]
theorem btL_mem {B : Nat → Nat} {p x : Nat} : ∀ m, x ∈ btL B p m → ∃ k, k < m ∧ x = B (p + k)
  | 0, h => by cases h
  | m + 1, h => by
    rw [btL, List.mem_cons] at h
    rcases h with h | h
    · exact ⟨m, by omega, h⟩
    · obtain ⟨k, hk, e⟩ := btL_mem m h
      exact ⟨k, by omega, e⟩
theorem btL_eq {B : Nat → Nat} {p : Nat} : ∀ (w : List Nat), (∀ k, k < w.length → B (p + k) = w.getD k 0) → btL B p w.length = w.reverse := by
  have : ∀ (w : List Nat) (m : Nat), m ≤ w.length → (∀ k, k < w.length → B (p + k) = w.getD k 0) → btL B p m = (w.take m).reverse := by
    intro w m
    induction m with
    | zero => intro _ _; rw [List.take_zero]; rfl
    | succ m ih =>
      intro hm hk
      rw [btL, ih (by omega) hk, hk m (by omega), List.take_succ_eq_append_getElem (by omega), List.reverse_append, gD (by omega)]
      rfl
  intro w h
  rw [this w w.length (Nat.le_refl _) h, List.take_length]
theorem btL_get {B : Nat → Nat} {p : Nat} (w : List Nat) (h : btL B p w.length = w.reverse) : ∀ k, k < w.length → B (p + k) = w.getD k 0 := by
  have : ∀ (m : Nat) (w : List Nat), w.length = m → btL B p m = w.reverse → ∀ k, k < m → B (p + k) = w.getD k 0 := by
    intro m
    induction m with
    | zero => intro w _ _ k hk; omega
    | succ m ih =>
      intro w hw h k hk
      have hne : w ≠ [] := by intro z; rw [z] at hw; cases hw
      have e1 : w = w.dropLast ++ [w.getLast hne] := (List.dropLast_concat_getLast hne).symm
      have hl : w.dropLast.length = m := by rw [List.length_dropLast, hw]; rfl
      rw [btL] at h
      rw [e1, List.reverse_append] at h
      rw [List.reverse_singleton, List.singleton_append] at h
      injection h with h1 h2
      rw [e1]
      by_cases z : k = m
      · subst z
        rw [gD (by rw [List.length_append, hl]; exact Nat.lt_succ_self _), List.getElem_append_right (by omega), h1]
        simp [hl]
      · rw [gD (by rw [List.length_append, hl]; show k < m + 1; omega), List.getElem_append_left (by omega), ← gD (d := 0)]
        exact ih _ hl h2 k (by omega)
  exact this w.length w rfl h
/-- where the letters end -/
def ltE (B : Nat → Nat) (n p : Nat) : Nat := runE isLb B n (n - p) p
theorem ltE_ge {B : Nat → Nat} {n p : Nat} : p ≤ ltE B n p := runE_ge _ _
theorem ltE_le {B : Nat → Nat} {n p : Nat} (h : p ≤ n) : ltE B n p ≤ n := runE_le _ _ h
theorem ltE_tok {B : Nat → Nat} {n p : Nat} (hp : p < n) (h : isLb (B p) = true) : ltE B n p = tokE B n p := by
  unfold ltE tokE
  rw [if_pos h, show n - p = (n - (p + 1)) + 1 by omega, runE, if_pos ⟨hp, h⟩]
theorem ltE_no {B : Nat → Nat} {n p : Nat} (h : p < n → isLb (B p) = false) : ltE B n p = p := by
  unfold ltE
  cases e : n - p with
  | zero => rfl
  | succ m => rw [runE, if_neg (fun w => by rw [h w.1] at w; cases w.2)]
/-- what the reference packs -/
def pkV (B : Nat → Nat) (p c : Nat) : Nat := if c ≤ 7 then pkL (btL B p c) else 0
def wdB (B : Nat → Nat) (n c : Nat) : Int64 := lN (pkV B (plc B n c) (ltE B n (plc B n c) - plc B n c))
theorem plc_le {B : Nat → Nat} {n : Nat} : ∀ c, plc B n c ≤ n
  | 0 => runE_le _ _ (Nat.zero_le _)
  | c + 1 => by
    rw [plc]
    unfold nxt
    split
    · rename_i h
      exact runE_le _ _ (tokE_ok h).2
    · exact runE_le _ _ (Nat.le_refl _)
theorem nxt_ge {B : Nat → Nat} {n p : Nat} : p ≤ nxt B n p := runE_ge _ _
theorem nxt_le {B : Nat → Nat} {n p : Nat} (h : p ≤ n) : nxt B n p ≤ n := runE_le _ _ h
theorem plc_ge {B : Nat → Nat} {n : Nat} : ∀ c, plc B n c < n → c ≤ plc B n c
  | 0, _ => Nat.zero_le _
  | c + 1, h => by
    have h0 := h
    rw [plc] at h ⊢
    split at h
    · rename_i h1
      rw [if_pos h1]
      have h2 := plc_ge c h1
      have h3 := (tokE_ok (B := B) h1).1
      have h4 := @nxt_ge B n (tokE B n (plc B n c))
      omega
    · rw [nxt_here (fun w => absurd w (Nat.lt_irrefl _))] at h
      omega
theorem plc_succ {B : Nat → Nat} {n c : Nat} (h : plc B n c < n) : nxt B n (tokE B n (plc B n c)) = plc B n (c + 1) := by rw [plc, if_pos h]
/-- no blank stands at a word -/
theorem plc_nb {B : Nat → Nat} {n c : Nat} (h : plc B n c < n) : B (plc B n c) ≠ 32 := by
  have : ∀ p, nxt B n p < n → p ≤ n → B (nxt B n p) ≠ 32 := fun p hp hle z => by
    unfold nxt at hp z
    have := runE_at (P := fun x => decide (x = 32)) (B := B) (n := n) (n - p) p (by omega) hp
    rw [z] at this
    exact absurd this (by decide)
  cases c with
  | zero => exact this 0 h (Nat.zero_le _)
  | succ c =>
    rw [plc] at h ⊢
    split at h
    · rename_i h1
      rw [if_pos h1]
      exact this _ h (tokE_ok h1).2
    · rw [nxt_here (fun w => absurd w (Nat.lt_irrefl _))] at h
      omega
theorem plc_nxt {B : Nat → Nat} {n c : Nat} : nxt B n (plc B n c) = plc B n c := nxt_here (fun h => plc_nb h)
/-- a sign of the table, told by what stands there -/
def hvB (B : Nat → Nat) (n c : Nat) : Int32 := if plc B n c < n then nI (B (plc B n c)) else nI 0
theorem wsg_neg {B : Nat → Nat} {i e : Nat} : (wsg B i e = -19 ∨ ∃ k, k < 16 ∧ wsg B i e = -(nI (k + 1))) := by
  unfold wsg
  split
  · rename_i h; exact .inr ⟨_, h, rfl⟩
  · exact .inl rfl
theorem wsg_lt0 {B : Nat → Nat} {i e : Nat} : wsg B i e < 0 ∧ ¬ wsg B i e = -17 ∧ ¬ wsg B i e = -18 := by
  rcases @wsg_neg B i e with h | ⟨k, hk, h⟩
  · rw [h]; decide
  · rw [h]
    have : ∀ k, k < 16 → -(nI (k + 1)) < (0 : Int32) ∧ ¬ -(nI (k + 1)) = (-17 : Int32) ∧ ¬ -(nI (k + 1)) = (-18 : Int32) := by decide
    exact this k hk
theorem isLb_or {x : Nat} (h : isLb x = true) : 97 ≤ x ∧ x ≤ 122 := by
  unfold isLb at h
  rw [Bool.and_eq_true, decide_eq_true_iff, decide_eq_true_iff] at h
  exact h
theorem isDb_or {x : Nat} (h : isDb x = true) : 48 ≤ x ∧ x ≤ 57 := by
  unfold isDb at h
  rw [Bool.and_eq_true, decide_eq_true_iff, decide_eq_true_iff] at h
  exact h
/-- a sign of one byte -/
theorem sg_one {B : Nat → Nat} {n c x : Nat} (hb : ∀ i, i < n → B i < 256) (hx : isLb x = false ∧ isDb x = false ∧ x ≠ 0 ∧ x < 256) : hvB B n c = nI x ↔ sgB B n c = nI x := by
  unfold hvB sgB sgn
  by_cases h : plc B n c < n
  · rw [if_pos h, if_pos h]
    have h2 := hb _ h
    unfold tokS
    by_cases hl : isLb (B (plc B n c)) = true
    · rw [if_pos hl, nI_eq (by omega) (by omega)]
      constructor
      · intro z; rw [z, hx.1] at hl; cases hl
      · intro z
        have h3 := (@wsg_lt0 B (plc B n c) (tokE B n (plc B n c))).1
        rw [z] at h3
        exact absurd h3 (nI_pos (by omega))
    · rw [if_neg hl]
      by_cases hd : isDb (B (plc B n c)) = true
      · rw [if_pos hd, nI_eq (by omega) (by omega)]
        constructor
        · intro z; rw [z, hx.2.1] at hd; cases hd
        · intro z
          have h3 := nI_pos (n := x) (by omega)
          rw [← z] at h3
          exact absurd (by decide) h3
      · rw [if_neg hd]
  · rw [if_neg h, if_neg h, nI_eq (by omega) (by omega)]
    constructor
    · intro z; exact absurd z.symm hx.2.2.1
    · intro z
      have h3 := nI_pos (n := x) (by omega)
      rw [← z] at h3
      exact absurd (by decide) h3
/-- a number -/
theorem sg_num {B : Nat → Nat} {n c : Nat} (hb : ∀ i, i < n → B i < 256) : sgB B n c = -17 ↔ plc B n c < n ∧ isDb (B (plc B n c)) = true := by
  unfold sgB sgn
  by_cases h : plc B n c < n
  · rw [if_pos h]
    have h2 := hb _ h
    unfold tokS
    by_cases hl : isLb (B (plc B n c)) = true
    · rw [if_pos hl]
      have a := isLb_or hl
      constructor
      · intro z; exact absurd z (@wsg_lt0 B (plc B n c) (tokE B n (plc B n c))).2.1
      · intro z; have := isDb_or z.2; omega
    · rw [if_neg hl]
      by_cases hd : isDb (B (plc B n c)) = true
      · rw [if_pos hd]; exact ⟨fun _ => ⟨h, hd⟩, fun _ => rfl⟩
      · rw [if_neg hd]
        constructor
        · intro z
          have h3 := nI_pos (n := B (plc B n c)) (by omega)
          rw [z] at h3
          exact absurd (by decide) h3
        · intro z; exact absurd z.2 hd
  · rw [if_neg h]
    exact ⟨fun z => absurd z (by decide), fun z => absurd z.1 h⟩
/-- the end -/
theorem sg_end {B : Nat → Nat} {n c : Nat} (hb : ∀ i, i < n → B i < 256) : sgB B n c = -18 ↔ ¬ plc B n c < n := by
  constructor
  · intro z h; exact sgn_end h hb z
  · intro h; unfold sgB sgn; rw [if_neg h]
/-- which word it is -/
theorem wsg_iff {B : Nat → Nat} {i e : Nat} {k : Nat} (hk : k < 16) : wsg B i e = -(nI (k + 1)) ↔ isW B i e (spl.getD k []) = true := by
  have hl : spl.length = 16 := rfl
  have hin0 : ∀ a, a < 16 → ∀ c, c < 16 → (-(nI (a + 1)) : Int32) = -(nI (c + 1)) → a = c := by decide
  have hin : ∀ a c, a < 16 → c < 16 → (-(nI (a + 1)) : Int32) = -(nI (c + 1)) → a = c := fun a c ha hc => hin0 a ha c hc
  have hne : ∀ a, a < 16 → ¬ ((-19 : Int32) = -(nI (a + 1))) := by decide
  have hdis0 : ∀ a, a < 16 → ∀ c, c < 16 → (spl.getD a []) = (spl.getD c []) → a = c := by decide
  have hdis : ∀ a c, a < 16 → c < 16 → (spl.getD a []) = (spl.getD c []) → a = c := fun a c ha hc => hdis0 a ha c hc
  have heq : ∀ a c, a < 16 → c < 16 → isW B i e (spl.getD a []) = true → isW B i e (spl.getD c []) = true → a = c := fun a c ha hc h1 h2 => by
    refine hdis a c ha hc ?_
    unfold isW at h1 h2
    rw [Bool.and_eq_true, decide_eq_true_iff, List.all_eq_true] at h1 h2
    apply List.ext_getElem (by omega)
    intro j j1 j2
    have g1 := h1.2 j (List.mem_range.mpr j1)
    have g2 := h2.2 j (List.mem_range.mpr j2)
    rw [decide_eq_true_iff, gD j1] at g1
    rw [decide_eq_true_iff, gD j2] at g2
    rw [← g1, ← g2]
  unfold wsg
  constructor
  · intro h
    split at h
    · rename_i h2
      have := hin _ _ h2 hk h
      have h3 : isW B i e (spl.getD (List.findIdx (isW B i e) spl) []) = true := by
        rw [gD (show List.findIdx (isW B i e) spl < spl.length from h2)]
        exact List.findIdx_getElem
      rw [this] at h3
      exact h3
    · exact absurd h (hne k hk)
  · intro h
    have hm : spl.findIdx (isW B i e) < 16 := by
      rw [← hl, List.findIdx_lt_length]
      refine ⟨spl.getD k [], ?_, h⟩
      rw [gD (by rw [hl]; exact hk)]
      exact List.getElem_mem _
    rw [if_pos hm]
    have h3 : isW B i e (spl.getD (List.findIdx (isW B i e) spl) []) = true := by
      rw [gD (show List.findIdx (isW B i e) spl < spl.length from hm)]
      exact List.findIdx_getElem
    rw [heq _ _ hm hk h3 h]
/-- the packed words of the sixteen -/
theorem spl_pk : ∀ k, k < 16 → (spl.getD k []).length ≤ 7 ∧ 2 ≤ (spl.getD k []).length ∧ ∀ x ∈ (spl.getD k []), 97 ≤ x ∧ x ≤ 122 := by decide
/-- a word of the table is known by its packed letters -/
theorem sg_word {B : Nat → Nat} {n c k : Nat} (hb : ∀ i, i < n → B i < 256) (hk : k < 16) : wdB B n c = lN (pkL (spl.getD k []).reverse) ↔ sgB B n c = -(nI (k + 1)) := by
  obtain ⟨s1, s2, s3⟩ := spl_pk k hk
  have hs : ∀ x ∈ (spl.getD k []).reverse, 97 ≤ x ∧ x ≤ 122 := fun x hx => s3 x (List.mem_reverse.mp hx)
  have hsl : pkL (spl.getD k []).reverse < 32 ^ 7 := by
    have h1 := pkL_lt (spl.getD k []).reverse (fun x hx => (hs x hx).2)
    rw [List.length_reverse] at h1
    exact Nat.lt_of_lt_of_le h1 (Nat.pow_le_pow_right (by decide) s1)
  have hnz : ¬ pkL (spl.getD k []).reverse = 0 := fun z => by
    have := pkL_inj _ [] hs (fun x hx => by cases hx) z
    have h2 := congrArg List.length this
    rw [List.length_reverse] at h2
    have : ([] : List Nat).length = 0 := rfl
    omega
  have hneg : ∀ x : Nat, x < 2147483648 → ¬ nI x = -(nI (k + 1)) := fun x hx z => by
    have h1 := nI_pos (n := x) hx
    have h2 : ∀ k, k < 16 → -(nI (k + 1)) < (0 : Int32) := by decide
    rw [z] at h1
    exact h1 (h2 k hk)
  have hlet : ∀ x ∈ btL B (plc B n c) (ltE B n (plc B n c) - plc B n c), 97 ≤ x ∧ x ≤ 122 := fun x hx => by
    obtain ⟨j, hj, e⟩ := btL_mem _ hx
    rw [e]
    exact isLb_or (runE_in (P := isLb) (B := B) (n := n) (n - plc B n c) (plc B n c) _ (by omega) (by unfold ltE at hj; omega))
  have hpl : pkV B (plc B n c) (ltE B n (plc B n c) - plc B n c) < 32 ^ 7 := by
    unfold pkV
    split
    · rename_i h7
      have h1 := pkL_lt _ (fun x hx => (hlet x hx).2)
      rw [btL_len] at h1
      exact Nat.lt_of_lt_of_le h1 (Nat.pow_le_pow_right (by decide) h7)
    · decide
  have hlN : ∀ x y : Nat, x < 32 ^ 7 → y < 32 ^ 7 → lN x = lN y → x = y := fun x y hx hy h => by
    have h1 := congrArg (fun z : Int64 => z.toBitVec.toNat) h
    have h2 : (32 : Nat) ^ 7 < 2 ^ 64 := by decide
    rw [lN_nat (by omega), lN_nat (by omega)] at h1
    exact h1
  have p2 := @plc_le B n c
  unfold sgB sgn wdB
  by_cases h : plc B n c < n
  · rw [if_pos h]
    unfold tokS
    by_cases hl : isLb (B (plc B n c)) = true
    · rw [if_pos hl, wsg_iff hk, ltE_tok h hl]
      rw [ltE_tok h hl] at hlet hpl
      constructor
      · intro z
        have z2 := hlN _ _ hpl hsl z
        unfold pkV at z2
        split at z2
        · have z3 := pkL_inj _ _ hlet hs z2
          have z4 := congrArg List.length z3
          rw [btL_len, List.length_reverse] at z4
          rw [z4] at z3
          have z5 := btL_get _ z3
          unfold isW
          rw [Bool.and_eq_true, decide_eq_true_iff, List.all_eq_true]
          exact ⟨z4, fun x hx => decide_eq_true (z5 x (List.mem_range.mp hx))⟩
        · exact absurd z2.symm hnz
      · intro z
        unfold isW at z
        rw [Bool.and_eq_true, decide_eq_true_iff, List.all_eq_true] at z
        rw [z.1]
        unfold pkV
        rw [if_pos s1, btL_eq _ (fun j hj => of_decide_eq_true (z.2 j (List.mem_range.mpr hj)))]
    · rw [if_neg hl, ltE_no (fun _ => ts_nt hl), Nat.sub_self]
      constructor
      · intro z
        exact absurd (hlN 0 _ (by decide) hsl z).symm hnz
      · intro z
        split at z
        · have : ∀ k, k < 16 → ¬ ((-17 : Int32) = -(nI (k + 1))) := by decide
          exact absurd z (this k hk)
        · have := hb _ h
          exact absurd z (hneg _ (by omega))
  · rw [if_neg h, ltE_no (fun w => absurd w h), Nat.sub_self]
    constructor
    · intro z
      exact absurd (hlN 0 _ (by decide) hsl z).symm hnz
    · intro z
      have : ∀ k, k < 16 → ¬ ((-18 : Int32) = -(nI (k + 1))) := by decide
      exact absurd z (this k hk)
