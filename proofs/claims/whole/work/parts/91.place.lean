/-! the class goes through the heapings of a part -/
theorem lvk_app {f : Nat → List (Nat → Nat)} : ∀ (c k : Nat), lvk f (c + 1) k = lvk f c k ++ f (k + c)
  | 0, k => by simp [lvk]
  | c + 1, k => by
    rw [lvk, lvk_app c (k + 1), lvk, List.append_assoc, show k + 1 + c = k + (c + 1) by omega]
theorem fold_no {α β : Type} {f : α → β → α} {x : α} : ∀ {l : List β}, (∀ b ∈ l, f x b = x) → l.foldl f x = x
  | [], _ => rfl
  | b :: l, h => by
    rw [List.foldl_cons, h b (by simp)]
    exact fold_no (fun c hc => h c (by simp [hc]))
def lp (s : Nat) (a : Nat → Nat) (v : Nat) : Nat := fa_first (fun j => decide (s ≤ j) && decide (a j = v)) 10
theorem lp_is {s m v : Nat} {a : Nat → Nat} (hs : s ≤ m) (hm : m < 10) (ha : a m = v) (hl : ∀ j, s ≤ j → j < m → ¬ a j = v) : lp s a v = m := by
  unfold lp
  refine Nat.le_antisymm ?_ ?_
  · refine Nat.le_of_not_lt (fun h => ?_)
    have := fa_first_no (fun j => decide (s ≤ j) && decide (a j = v)) 10 m h
    simp only [decide_eq_true hs, decide_eq_true ha] at this
    cases this
  · refine Nat.le_of_not_lt (fun h => ?_)
    have := fa_first_yes (fun j => decide (s ≤ j) && decide (a j = v)) 10 (by omega)
    rw [Bool.and_eq_true] at this
    exact hl _ (of_decide_eq_true this.1) h (of_decide_eq_true this.2)
theorem lp_ex {s i v : Nat} {a : Nat → Nat} (hi : i ≤ 10) (h : ∃ j, s ≤ j ∧ j < i ∧ a j = v) : s ≤ lp s a v ∧ lp s a v < i ∧ a (lp s a v) = v ∧ ∀ j, s ≤ j → j < lp s a v → ¬ a j = v := by
  obtain ⟨m, m0, m1, m2⟩ := fb_first (p := fun j => s ≤ j ∧ a j = v) (n := i) (by obtain ⟨j, h1, h2, h3⟩ := h; exact ⟨j, h2, h1, h3⟩)
  rw [lp_is m1.1 (by omega) m1.2 (fun j h1 h2 q => m2 j h2 ⟨h1, q⟩)]
  exact ⟨m1.1, m0, m1.2, fun j h1 h2 q => m2 j h2 ⟨h1, q⟩⟩
theorem lp_up {s i k v : Nat} {a : Nat → Nat} (hi : i ≤ 10) (h : ∃ j, s ≤ j ∧ j < i ∧ a j = v) : lp s (upN a i k) v = lp s a v := by
  obtain ⟨h1, h2, h3, h4⟩ := lp_ex hi h
  exact lp_is h1 (by omega) (by rw [upN_ne (by omega)]; exact h3) (fun j j1 j2 => by rw [upN_ne (by omega)]; exact h4 j j1 j2)
def odN (z : Nat) (H : Nat → Nat → Bool) (s : Nat) (a : Nat → Nat) (n : Nat) : Nat := if z = 2 then fb_sm (fun i => if s ≤ i then fb_ct (fun j => decide (s ≤ j) && (decide (a j = a i) != H i j)) i else 0) n else 0
theorem odN_cong {z : Nat} {H : Nat → Nat → Bool} {s n : Nat} {a b : Nat → Nat} (h : ∀ j, s ≤ j → j < n → a j = b j) : odN z H s a n = odN z H s b n := by
  unfold odN
  by_cases q : z = 2
  · rw [if_pos q, if_pos q]
    refine fb_sm_cong (fun i hi => ?_)
    by_cases y : s ≤ i
    · rw [if_pos y, if_pos y]
      refine fb_ct_cong (fun j hj => ?_)
      by_cases x : s ≤ j
      · rw [h j x (by omega), h i y hi]
      · rw [decide_eq_false x, Bool.false_and, Bool.false_and]
    · rw [if_neg y, if_neg y]
  · rw [if_neg q, if_neg q]
theorem odN_succ {z : Nat} {H : Nat → Nat → Bool} {s i : Nat} {a : Nat → Nat} (hs : s ≤ i) : odN z H s a (i + 1) = odN z H s a i + (if z = 2 then fb_ct (fun j => decide (s ≤ j) && (decide (a j = a i) != H i j)) i else 0) := by
  unfold odN
  by_cases q : z = 2
  · rw [if_pos q, if_pos q, if_pos q, fb_sm_succ, if_pos hs]
  · rw [if_neg q, if_neg q, if_neg q]
def mkI (s : Nat) (a : Nat → Nat) (i k : Nat) : Int32 := orBits (fun j => decide (s ≤ j) && decide (a j = k)) i
def pmL (s : Nat) (a : Nat → Nat) : Nat → Int64
  | 0 => lN 0
  | i + 1 => if s ≤ i then pmL s a i ||| shlL (i2l (mkI s a i (a i))) (nI (i * (i - 1) / 2)) else lN 0
theorem orBits_cong {p q : Nat → Bool} : ∀ {n : Nat}, (∀ k, k < n → p k = q k) → orBits p n = orBits q n
  | 0, _ => rfl
  | n + 1, h => by rw [orBits, orBits, orBits_cong (n := n) (fun k hk => h k (by omega)), h n (by omega)]
theorem mkI_cong {s i k : Nat} {a b : Nat → Nat} (h : ∀ j, s ≤ j → j < i → a j = b j) : mkI s a i k = mkI s b i k := by
  refine orBits_cong (fun j hj => ?_)
  by_cases z : s ≤ j
  · rw [h j z hj]
  · rw [decide_eq_false z, Bool.false_and, Bool.false_and]
theorem pmL_cong {s : Nat} {a b : Nat → Nat} : ∀ {n : Nat}, (∀ j, s ≤ j → j < n → a j = b j) → pmL s a n = pmL s b n
  | 0, _ => rfl
  | i + 1, h => by
    rw [pmL, pmL]
    by_cases z : s ≤ i
    · rw [if_pos z, if_pos z, pmL_cong (n := i) (fun j h1 h2 => h j h1 (by omega)), h i z (by omega), mkI_cong (fun j h1 h2 => h j h1 (by omega))]
    · rw [if_neg z, if_neg z]
theorem placed_bits : ∀ i, i < 11 → ∀ s, s < 11 → s ≤ i → ∀ j, j < 32 → bt ((nI 1 <<< (nI i &&& 31)) - (nI 1 <<< (nI s &&& 31))) j = (decide (s ≤ j) && decide (j < i)) := by decide +kernel
theorem half_i : ∀ i, i < 11 → (nI i * (nI i - nI 1)) / nI 2 = nI (i * (i - 1) / 2) := by decide +kernel
/-- a part in the class: its pairs, from where it is searched, what for -/
def dfC (t : gSt) (s n rm z : Nat) (W : Nat → Nat → Int32) (A T H : Nat → Nat → Bool) (r : Nat → Nat) : Prop := t.1 50 0 = nI n ∧ t.1 50 1 = nI rm ∧ (∀ i j, j < i → i < n → t.1 52 (i * 10 + j) = W i j) ∧ (∀ i k, i < n → k < 32 → bt (t.1 53 i) k = (decide (k < n) && decide (k ≠ i) && A i k)) ∧ (∀ i k, i < n → k < 32 → bt (t.1 54 i) k = (decide (k < n) && decide (k ≠ i) && T i k)) ∧ (z = 2 → ∀ i k, i < n → k < 32 → bt (t.1 55 i) k = (decide (k < n) && decide (k ≠ i) && H i k)) ∧ t.1 56 11 = nI s ∧ t.1 56 13 = nI z ∧ (∀ i, s < i → i ≤ n → t.1 57 i = nI (r i))
def FD (t t2 : gSt) : Prop := Off [56, 58, 59, 60, 61, 62] t t2 ∧ t2.1 56 11 = t.1 56 11 ∧ t2.1 56 13 = t.1 56 13
theorem FD.rf {t : gSt} : FD t t := ⟨Off.rf, rfl, rfl⟩
theorem FD.trans {t t2 t3 : gSt} (h1 : FD t t2) (h2 : FD t2 t3) : FD t t3 := ⟨h1.1.trans h2.1, h2.2.1.trans h1.2.1, h2.2.2.trans h1.2.2⟩
theorem dfC.fr {t t2 : gSt} {s n rm z : Nat} {W : Nat → Nat → Int32} {A T H : Nat → Nat → Bool} {r : Nat → Nat} (h : dfC t s n rm z W A T H r) (f : FD t t2) : dfC t2 s n rm z W A T H r := by
  unfold dfC at h ⊢
  rw [(f.1.1 50 (by decide)).1, (f.1.1 52 (by decide)).1, (f.1.1 53 (by decide)).1, (f.1.1 54 (by decide)).1, (f.1.1 55 (by decide)).1, (f.1.1 57 (by decide)).1, f.2.1, f.2.2]
  exact h
def dfN (t : gSt) (s i h : Nat) (a : Nat → Nat) : Prop := t.1 56 10 = nI h ∧ (∀ k, k < h → ∀ j, j < 32 → bt (t.1 58 k) j = (decide (s ≤ j) && decide (j < i) && decide (a j = k))) ∧ (∀ k, k < h → t.1 59 k = nI (lp s a k)) ∧ (∀ j, s ≤ j → j < i → t.1 60 j = nI (lp s a (a j)))
/-- .. with the heap k about to take place i -/
def dfE (t : gSt) (s i h k : Nat) (a : Nat → Nat) : Prop := t.1 56 10 = nI (nxh h k) ∧ (∀ x, x < nxh h k → ∀ j, j < 32 → bt (t.1 58 x) j = (decide (s ≤ j) && decide (j < i) && decide (a j = x))) ∧ (∀ x, x < nxh h k → t.1 59 x = nI (lp s (upN a i k) x)) ∧ (∀ j, s ≤ j → j < i → t.1 60 j = nI (lp s a (a j)))
theorem mxI_0 {w : Int32} (h : okW w) : mxI (nI 0) w = nI (cwN w false) := by
  obtain ⟨h1, h2⟩ := h
  have n0 : (nI 0 : Int32).toInt = 0 := by decide
  rw [show cwN w false = w.toInt.toNat from rfl, fa_eq]
  unfold mxI
  by_cases z : nI 0 < w
  · rw [if_pos z, nI_toInt (by omega)]
    rw [fa_lt, n0] at z
    omega
  · rw [if_neg z, n0, nI_toInt (by omega)]
    rw [fa_lt, n0] at z
    omega
theorem p_drawn {t : gSt} {s n rm z : Nat} {W : Nat → Nat → Int32} {A T H : Nat → Nat → Bool} {r : Nat → Nat} (hn : n ≤ 10) (hW : ∀ i j, j < i → i < n → okW (W i j)) (hC : dfC t s n rm z W A T H r) {i : Nat} (hi : i < n) (hs : s ≤ i) {Q : Int32 → Prop} (q : Q (nI (fb_sm (fun j => if s ≤ j then cwN (W i j) false else 0) i))) : W_X10_drawn (nI i) Q t := by
  have lpp : ∀ (m j : Nat), j + m = i → s ≤ j → L_X10_drawn_7 Q (nI i) t (fun y8 => Q y8) (m + 1) (nI (fb_sm (fun j => if s ≤ j then cwN (W i j) false else 0) j)) (nI j) := by
    intro m
    induction m with
    | zero =>
      intro j hj hs2
      obtain rfl : j = i := by omega
      rw [L_X10_drawn_7]
      exact bq_t (nI_le (Nat.le_refl _) (by omega)) q
    | succ m ih =>
      intro j hj hs2
      rw [L_X10_drawn_7]
      refine bq_f (nI_ge (by omega) (by omega)) ?_
      unfold W_X5_pull
      rw [nI_mul, nI_add]
      refine rI_i (by omega) ?_
      rw [hC.2.2.1 i j (by omega) hi]
      show L_X10_drawn_7 Q (nI i) t (fun y8 => Q y8) (m + 1) (nI (fb_sm (fun j => if s ≤ j then cwN (W i j) false else 0) j) + mxI (nI 0) (W i j)) (nI j + nI 1)
      rw [mxI_0 (hW i j (by omega) hi), nI_add, nI_add]
      have := ih (j + 1) (by omega) (by omega)
      rw [fb_sm_succ, if_pos hs2] at this
      exact this
  unfold W_X10_drawn
  rw [hC.2.2.2.2.2.2.1]
  have start := lpp (i - s) s (by omega) (Nat.le_refl _)
  rw [fb_sm_cong (g := fun _ => 0) (fun k hk => if_neg (by omega)), fb_sm_const, Nat.mul_zero] at start
  exact ⟨i - s + 1, start⟩
theorem p_pullTo {t : gSt} {s n rm z : Nat} {W : Nat → Nat → Int32} {A T H : Nat → Nat → Bool} {r : Nat → Nat} (hn : n ≤ 10) (hW : ∀ i j, j < i → i < n → okW (W i j)) (hC : dfC t s n rm z W A T H r) {i k : Nat} {a : Nat → Nat} (hi : i < n) (hs : s ≤ i) {Q : Int32 → Prop} (q : ∀ x, x.toInt = fb_si (fun j => if s ≤ j ∧ a j = k then (W i j).toInt else 0) i → Q x) : W_X10_pullTo (nI i) (mkI s a i k) Q t := by
  have lpp : ∀ (m j : Nat) (v : Int32), j + m = i → s ≤ j → v.toInt = fb_si (fun j => if s ≤ j ∧ a j = k then (W i j).toInt else 0) j → L_X10_pullTo_8 Q (nI i) (mkI s a i k) t (fun y => Q y) (m + 1) v (nI j) := by
    intro m
    induction m with
    | zero =>
      intro j v hj hs2 hv
      obtain rfl : j = i := by omega
      rw [L_X10_pullTo_8]
      exact bq_t (nI_le (Nat.le_refl _) (by omega)) (q v hv)
    | succ m ih =>
      intro j v hj hs2 hv
      rw [L_X10_pullTo_8]
      have hjw := hW i j (by omega) hi
      have hbit : bt (mkI s a i k) j = decide (a j = k) := by
        unfold mkI
        rw [bt_orBits _ i (by omega) j (by omega), decide_eq_true (show j < i by omega), decide_eq_true hs2, Bool.true_and, Bool.true_and]
      have hbd := fb_si_bound (c := 1000000) (by decide) (n := j) (f := fun j => if s ≤ j ∧ a j = k then (W i j).toInt else 0) (fun x hx => by
        have := hW i x (by omega) hi
        by_cases y : s ≤ x ∧ a x = k
        · rw [if_pos y]; exact this
        · rw [if_neg y]; omega)
      have hb := @bit_test (mkI s a i k) j (by omega)
      refine bq_f (nI_ge (by omega) (by omega)) ⟨fun y => ?_, fun y => ?_⟩
      · rw [nI_add]
        refine ih (j + 1) v (by omega) (by omega) ?_
        have h1 := hb.mp y
        rw [hbit] at h1
        rw [fb_si_succ, if_neg (fun w => of_decide_eq_false h1 w.2), hv]
        omega
      · unfold W_X5_pull
        rw [nI_mul, nI_add]
        refine rI_i (by omega) ?_
        rw [hC.2.2.1 i j (by omega) hi, nI_add]
        refine ih (j + 1) _ (by omega) (by omega) ?_
        have h1 : a j = k := by
          refine Classical.byContradiction (fun w => y (hb.mpr ?_))
          rw [hbit]
          exact decide_eq_false w
        rw [fb_si_succ, if_pos ⟨hs2, h1⟩, ← hv]
        unfold okW at hjw
        exact fb_addI (by omega) (by omega)
  unfold W_X10_pullTo
  rw [hC.2.2.2.2.2.2.1]
  refine ⟨i - s + 1, lpp (i - s) s (nI 0) (by omega) (Nat.le_refl _) ?_⟩
  rw [fb_si_cong (g := fun _ => (0 : Int) * 0) (fun x hx => by rw [if_neg (by omega)]; rfl), fb_si_mul]
  rw [Int.zero_mul]
  decide
/-- what is left when it isn't alone -/
theorem cost_k {W : Nat → Nat → Int32} {s i k : Nat} {a : Nat → Nat} : ∀ (n : Nat), ((fb_sm (fun j => if s ≤ j then cwN (W i j) false else 0) n : Nat) : Int) - fb_si (fun j => if s ≤ j ∧ a j = k then (W i j).toInt else 0) n = ((fb_sm (fun j => if s ≤ j then cwN (W i j) (decide (a j = k)) else 0) n : Nat) : Int)
  | 0 => rfl
  | n + 1 => by
    have ih := cost_k (W := W) (s := s) (i := i) (k := k) (a := a) n
    rw [fb_sm_succ, fb_sm_succ, fb_si_succ]
    by_cases z : s ≤ n
    · by_cases y : a n = k
      · rw [if_pos z, if_pos ⟨z, y⟩, if_pos z, decide_eq_true y]
        rw [show cwN (W i n) false = (W i n).toInt.toNat from rfl, show cwN (W i n) true = (-(W i n).toInt).toNat from rfl]
        omega
      · rw [if_pos z, if_neg (fun w => y w.2), if_pos z, decide_eq_false y]
        omega
    · rw [if_neg z, if_neg (fun w => z w.1), if_neg z]
      omega
