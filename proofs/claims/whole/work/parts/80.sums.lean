/-! sums over pairs: what a change of a heaping costs -/
theorem fa_fb (p : Nat → Bool) : ∀ n, fa_cnt p n = fb_ct p n
  | 0 => rfl
  | n + 1 => by
    rw [fb_ct_succ, ← fa_fb p n]
    cases h : p n
    · rw [fa_cnt_no h]; simp
    · rw [fa_cnt_yes h]; simp
theorem i64_z (x : Int64) : lN 0 + x = x := Int64.zero_add x
theorem rowS_zero {f : Nat → Int64} : ∀ {n : Nat}, (∀ k, k < n → f k = lN 0) → rowS f n = lN 0
  | 0, _ => rfl
  | n + 1, h => by rw [rowS, rowS_zero (n := n) (fun k hk => h k (by omega)), h n (by omega)]; rfl
theorem rowS_one {x : Int64} {a : Nat} : ∀ {n : Nat}, a < n → rowS (fun j => if j = a then x else lN 0) n = x
  | n + 1, h => by
    rw [rowS]
    by_cases e : a = n
    · subst e
      rw [rowS_zero (fun k hk => by rw [if_neg (by omega)]), if_pos rfl, i64_z]
    · rw [rowS_one (n := n) (by omega), if_neg (Ne.symm e), lN0_add]
theorem rowS_sub (f g : Nat → Int64) : ∀ n : Nat, rowS (fun k => f k - g k) n = rowS f n - rowS g n
  | 0 => (Int64.sub_self _).symm
  | n + 1 => by
    rw [rowS, rowS, rowS, rowS_sub f g n]
    grind
theorem triS_sym (A : Nat → Nat → Int64) : ∀ N : Nat, triS (fun i j => A i j + A j i) N + rowS (fun i => A i i) N = rowS (fun i => rowS (A i) N) N
  | 0 => rfl
  | N + 1 => by
    have h1 : rowS (fun i => rowS (A i) (N + 1)) N = rowS (fun i => rowS (A i) N) N + rowS (fun i => A i N) N := by
      rw [← rowS_add]
      exact rowS_cong (fun k _ => rfl)
    have h2 : rowS (fun j => A N j + A j N) N = rowS (A N) N + rowS (fun i => A i N) N := rowS_add (A N) (fun i => A i N) N
    have ih := triS_sym A N
    show triS (fun i j => A i j + A j i) N + rowS (fun j => A N j + A j N) N + (rowS (fun i => A i i) N + A N N) = rowS (fun i => rowS (A i) (N + 1)) N + (rowS (A N) N + A N N)
    rw [h1, h2, ← ih]
    grind
theorem triS_add (f g : Nat → Nat → Int64) : ∀ n : Nat, triS (fun i j => f i j + g i j) n = triS f n + triS g n
  | 0 => rfl
  | n + 1 => by
    show triS (fun i j => f i j + g i j) n + rowS (fun j => f n j + g n j) n = _
    rw [triS_add f g n, rowS_add (f n) (g n) n, triS, triS]
    grind
/-- the cost of a heaping -/
def cst (wt : Nat → Nat → Int32) (N : Nat) (f : Nat → Nat) : Int64 := triS (fun i j => cpr (wt j i) (decide (f j = f i))) N
theorem cpr_tf {w : Int32} (hw : okW w) : cpr w true + i2l w = cpr w false := by
  obtain ⟨h1, h2⟩ := hw
  have hneg : (-w).toInt = -w.toInt := fb_negI (by omega)
  have n0 : (nI 0 : Int32).toInt = 0 := by decide
  have z0 : (nI 0).toInt64.toInt = 0 := by decide
  rw [fa_eq64]
  simp only [cpr, if_true, Bool.false_eq_true, if_false]
  by_cases z : w < nI 0
  · have z' : ¬ -w < nI 0 := by rw [fa_lt, hneg, n0]; rw [fa_lt, n0] at z; omega
    rw [if_pos z, if_neg z', fb_addL] <;> rw [Int32.toInt_toInt64, Int32.toInt_toInt64, hneg] <;> omega
  · rw [if_neg z]
    rw [fa_lt, n0] at z
    by_cases y : -w < nI 0
    · rw [if_pos y, fb_addL] <;> rw [z0, Int32.toInt_toInt64] <;> omega
    · have : w.toInt = 0 := by rw [fa_lt, hneg, n0] at y; omega
      rw [if_neg y, fb_addL] <;> rw [Int32.toInt_toInt64, Int32.toInt_toInt64, hneg] <;> omega
/-- two heapings, and a table of what goes together anew -/
theorem cst_diff {wt : Nat → Nat → Int32} {N : Nat} {f g : Nat → Nat} {A : Nat → Nat → Int64} (hd : ∀ i, i < N → A i i = lN 0) (h : ∀ i j, j < i → i < N → cpr (wt j i) (decide (g j = g i)) + (A i j + A j i) = cpr (wt j i) (decide (f j = f i))) : cst wt N g + rowS (fun i => rowS (A i) N) N = cst wt N f := by
  rw [← triS_sym, rowS_zero hd, lN0_add]
  unfold cst
  rw [← triS_add]
  exact triS_cong h
/-- what goes from an entry to a heap -/
def PT (wt : Nat → Nat → Int32) (N : Nat) (f : Nat → Nat) (e v : Nat) : Int64 := rowS (fun j => if f j = v then i2l (wt e j) else lN 0) N
theorem i2l_0 : i2l (nI 0) = lN 0 := by decide
theorem rowS_ite {c : Prop} [Decidable c] {f : Nat → Int64} {n : Nat} : rowS (fun j => if c then f j else lN 0) n = if c then rowS f n else lN 0 := by
  by_cases h : c
  · rw [if_pos h]; exact rowS_cong (fun k _ => if_pos h)
  · rw [if_neg h]; exact rowS_zero (fun k _ => if_neg h)
def upN (f : Nat → Nat) (e v : Nat) : Nat → Nat := fun k => if k = e then v else f k
/-- an entry goes to another heap -/
theorem cst_go {wt : Nat → Nat → Int32} {N : Nat} {f : Nat → Nat} {e v : Nat} (hs : ∀ i j, i < N → j < N → wt i j = wt j i) (hok : ∀ i j, i < N → j < N → okW (wt i j)) (h0 : ∀ i, wt i i = nI 0) (he : e < N) (hv : v ≠ f e) : cst wt N (upN f e v) = cst wt N f + PT wt N f e (f e) - PT wt N f e v := by
  have key := cst_diff (wt := wt) (N := N) (f := f) (g := upN f e v) (A := fun i j => if i = e then ((if f j = v then i2l (wt e j) else lN 0) - (if f j = f e then i2l (wt e j) else lN 0)) else lN 0) (fun i hi => by
    by_cases z : i = e
    · subst z
      simp only [if_true, if_neg (Ne.symm hv), h0, i2l_0]
      decide
    · simp only [if_neg z]) (fun i j hj hi => by
    have ctf := cpr_tf (hok j i (by omega) hi)
    have hsy := hs i j hi (by omega)
    have hne : ¬ j = i := by omega
    by_cases z : i = e
    · subst z
      simp only [upN, if_true, if_neg hne]
      by_cases h1 : f j = v
      · have h2 : ¬ f j = f i := fun q => hv (h1.symm.trans q)
        rw [if_pos h1, if_neg h2, decide_eq_true h1, decide_eq_false h2, hsy]
        rw [← ctf]
        show _ + (i2l _ - (0 : Int64) + (0 : Int64)) = _
        grind
      · rw [if_neg h1, decide_eq_false h1]
        by_cases h2 : f j = f i
        · rw [if_pos h2, decide_eq_true h2, hsy, ← ctf]
          show _ + ((0 : Int64) - i2l _ + (0 : Int64)) = _
          grind
        · rw [if_neg h2, decide_eq_false h2]
          show _ + ((0 : Int64) - (0 : Int64) + (0 : Int64)) = _
          grind
    · by_cases y : j = e
      · subst y
        simp only [upN, if_true, if_neg z]
        by_cases h1 : f i = v
        · have h2 : ¬ f i = f j := fun q => hv (h1.symm.trans q)
          rw [if_pos h1, if_neg h2, decide_eq_true h1.symm, decide_eq_false (fun q => h2 q.symm)]
          rw [← ctf]
          show _ + ((0 : Int64) + (i2l _ - (0 : Int64))) = _
          grind
        · rw [if_neg h1, decide_eq_false (fun q => h1 q.symm)]
          by_cases h2 : f i = f j
          · rw [if_pos h2, decide_eq_true h2.symm, ← ctf]
            show _ + ((0 : Int64) + ((0 : Int64) - i2l _)) = _
            grind
          · rw [if_neg h2, decide_eq_false (fun q => h2 q.symm)]
            show _ + ((0 : Int64) + ((0 : Int64) - (0 : Int64))) = _
            grind
      · simp only [upN, if_neg z, if_neg y]
        show _ + ((0 : Int64) + (0 : Int64)) = _
        grind)
  have e1 : rowS (fun i => rowS (fun j => if i = e then ((if f j = v then i2l (wt e j) else lN 0) - (if f j = f e then i2l (wt e j) else lN 0)) else lN 0) N) N = PT wt N f e v - PT wt N f e (f e) := by
    rw [show (fun i => rowS (fun j => if i = e then ((if f j = v then i2l (wt e j) else lN 0) - (if f j = f e then i2l (wt e j) else lN 0)) else lN 0) N) = fun i => if i = e then (PT wt N f e v - PT wt N f e (f e)) else lN 0 from funext fun i => by
      rw [rowS_ite, rowS_sub]
      rfl]
    exact rowS_one he
  rw [e1] at key
  rw [← key]
  grind
/-- two heaps become one -/
theorem cst_join {wt : Nat → Nat → Int32} {N : Nat} {f : Nat → Nat} {x y : Nat} (hs : ∀ i j, i < N → j < N → wt i j = wt j i) (hok : ∀ i j, i < N → j < N → okW (wt i j)) (hxy : x ≠ y) : cst wt N (fun k => if f k = y then x else f k) = cst wt N f - rowS (fun i => if f i = x then PT wt N f i y else lN 0) N := by
  have key := cst_diff (wt := wt) (N := N) (f := f) (g := fun k => if f k = y then x else f k) (A := fun i j => if f i = x then (if f j = y then i2l (wt i j) else lN 0) else lN 0) (fun i hi => by
    by_cases z : f i = x
    · rw [if_pos z, if_neg (by omega)]
    · rw [if_neg z]) (fun i j hj hi => by
    have ctf := cpr_tf (hok j i (by omega) hi)
    have hsy := hs i j hi (by omega)
    by_cases a1 : f i = x
    · have a2 : ¬ f i = y := by omega
      rw [if_pos a1, if_neg a2]
      by_cases b1 : f j = y
      · have b2 : ¬ f j = x := by omega
        have b3 : ¬ f j = f i := by omega
        rw [if_pos b1, if_pos b1, if_neg b2, decide_eq_true a1.symm, decide_eq_false b3, hsy, ← ctf]
        show _ + (i2l _ + (0 : Int64)) = _
        grind
      · rw [if_neg b1, if_neg b1]
        by_cases b2 : f j = x
        · rw [if_pos b2, if_neg a2]
          show _ + ((0 : Int64) + (0 : Int64)) = _
          grind
        · rw [if_neg b2]
          show _ + ((0 : Int64) + (0 : Int64)) = _
          grind
    · rw [if_neg a1]
      by_cases b2 : f j = x
      · have b1 : ¬ f j = y := by omega
        rw [if_pos b2, if_neg b1]
        by_cases a2 : f i = y
        · have b3 : ¬ f j = f i := by omega
          rw [if_pos a2, if_pos a2, decide_eq_true b2, decide_eq_false b3, ← ctf]
          show _ + ((0 : Int64) + i2l _) = _
          grind
        · rw [if_neg a2, if_neg a2]
          show _ + ((0 : Int64) + (0 : Int64)) = _
          grind
      · rw [if_neg b2]
        have : decide ((if f j = y then x else f j) = (if f i = y then x else f i)) = decide (f j = f i) := by
          by_cases a2 : f i = y
          · by_cases b1 : f j = y
            · rw [if_pos a2, if_pos b1, a2, b1]; simp
            · rw [if_pos a2, if_neg b1, decide_eq_false b2, decide_eq_false (by omega)]
          · by_cases b1 : f j = y
            · rw [if_neg a2, if_pos b1, decide_eq_false (fun q => a1 q.symm), decide_eq_false (by omega)]
            · rw [if_neg a2, if_neg b1]
        rw [this]
        show _ + ((0 : Int64) + (0 : Int64)) = _
        grind)
  have e1 : rowS (fun i => rowS (fun j => if f i = x then (if f j = y then i2l (wt i j) else lN 0) else lN 0) N) N = rowS (fun i => if f i = x then PT wt N f i y else lN 0) N := rowS_cong (fun k _ => rowS_ite)
  rw [e1] at key
  rw [← key]
  grind
/-- two entries change places -/
theorem cst_swap {wt : Nat → Nat → Int32} {N : Nat} {f : Nat → Nat} {a b : Nat} (hs : ∀ i j, i < N → j < N → wt i j = wt j i) (hok : ∀ i j, i < N → j < N → okW (wt i j)) (h0 : ∀ i, wt i i = nI 0) (ha : a < N) (hb : b < N) (hne : f a ≠ f b) : cst wt N (upN (upN f a (f b)) b (f a)) = cst wt N f + (PT wt N f a (f a) + PT wt N f b (f b)) - (PT wt N f a (f b) + PT wt N f b (f a) - (2 : Int64) * i2l (wt a b)) := by
  have hab : a ≠ b := fun e => hne (by rw [e])
  have s1 := cst_go (v := f b) hs hok h0 ha (Ne.symm hne)
  have fb : upN f a (f b) b = f b := if_neg (Ne.symm hab)
  have s2 := cst_go (f := upN f a (f b)) (v := f a) hs hok h0 hb (by rw [fb]; exact hne)
  rw [fb] at s2
  have p1 : PT wt N (upN f a (f b)) b (f b) = PT wt N f b (f b) + i2l (wt b a) := by
    rw [← rowS_one (x := i2l (wt b a)) ha]
    unfold PT
    rw [← rowS_add]
    refine rowS_cong (fun k _ => ?_)
    unfold upN
    by_cases z : k = a
    · subst z
      rw [if_pos rfl, if_pos rfl, if_neg hne, if_pos rfl, i64_z]
    · rw [if_neg z, if_neg z, lN0_add]
  have p2 : PT wt N (upN f a (f b)) b (f a) = PT wt N f b (f a) - i2l (wt b a) := by
    rw [← rowS_one (x := i2l (wt b a)) ha]
    unfold PT
    rw [← rowS_sub]
    refine rowS_cong (fun k _ => ?_)
    unfold upN
    by_cases z : k = a
    · subst z
      rw [if_pos rfl, if_neg (Ne.symm hne), if_pos rfl, if_pos rfl]
      exact (Int64.sub_self _).symm
    · rw [if_neg z, if_neg z]
      exact (Int64.sub_zero _).symm
  rw [s2, s1, p1, p2, hs b a hb ha]
  grind
