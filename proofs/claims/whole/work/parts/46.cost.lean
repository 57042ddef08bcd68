/-! the reference's cost of a heaping, and who is barred in it -/
theorem rowS_cong {f g : Nat → Int64} : ∀ {n : Nat}, (∀ k, k < n → f k = g k) → rowS f n = rowS g n
  | 0, _ => rfl
  | n + 1, h => by rw [rowS, rowS, rowS_cong (n := n) (fun k hk => h k (by omega)), h n (by omega)]
theorem rowS_add (f g : Nat → Int64) : ∀ n : Nat, rowS (fun k => f k + g k) n = rowS f n + rowS g n
  | 0 => by rw [rowS, rowS, rowS, lN0_add]
  | n + 1 => by
    rw [rowS, rowS, rowS, rowS_add f g n, Int64.add_assoc, Int64.add_assoc]
    congr 1
    rw [← Int64.add_assoc, ← Int64.add_assoc, Int64.add_comm (rowS g n)]
theorem triS_cong {f g : Nat → Nat → Int64} : ∀ {n : Nat}, (∀ i j, j < i → i < n → f i j = g i j) → triS f n = triS g n
  | 0, _ => rfl
  | n + 1, h => by rw [triS, triS, triS_cong (n := n) (fun i j h1 h2 => h i j h1 (by omega)), rowS_cong (fun j hj => h n j hj (by omega))]
/-- by the greater, or by the lesser first: one sum -/
theorem sum_swap (g : Nat → Nat → Int64) : ∀ N : Nat, rowS (fun a => rowS (fun t => g a (a + 1 + t)) (N - (a + 1))) N = triS (fun i j => g j i) N
  | 0 => rfl
  | N + 1 => by
    rw [triS, ← sum_swap g N, rowS, show N + 1 - (N + 1) = 0 by omega]
    rw [show rowS (fun t => g N (N + 1 + t)) 0 = lN 0 from rfl, lN0_add, ← rowS_add]
    refine rowS_cong (fun a ha => ?_)
    rw [show N + 1 - (a + 1) = (N - (a + 1)) + 1 by omega, rowS, show a + 1 + (N - (a + 1)) = N by omega]
def okW (w : Int32) : Prop := (-1000000 : Int) ≤ w.toInt ∧ w.toInt ≤ 1000000
theorem cpr_m {w : Int32} (hw : okW w) (same : Bool) {J : Int64 → Prop} (h : J (cpr w same)) {C : Prop} (hs : same = true ↔ C) : (C → (((0 ≤ w → (J (lN 0))) ∧ (¬ 0 ≤ w → (J (i2l (-w))))))) ∧ (¬ C → (((w ≤ 0 → (J (lN 0))) ∧ (¬ w ≤ 0 → (J (i2l w)))))) := by
  obtain ⟨h1, h2⟩ := hw
  have hneg : (-w).toInt = -w.toInt := by rw [Int32.toInt_neg, Int.bmod_eq_of_le (by omega) (by omega)]
  have z0 : (nI 0).toInt64 = lN 0 := by decide
  have n0 : (nI 0 : Int32).toInt = 0 := by decide
  have n1 : (0 : Int32).toInt = 0 := by decide
  refine ⟨fun c => ?_, fun c => ?_⟩
  · rw [hs.mpr c] at h
    simp only [cpr, if_true] at h
    refine ⟨fun h3 => ?_, fun h3 => ?_⟩
    · rw [fa_le, n1] at h3
      by_cases z : -w < nI 0
      · rw [if_pos z, z0] at h; exact h
      · rw [if_neg z] at h
        rw [fa_lt, hneg, n0] at z
        have : w = 0 := by rw [fa_eq, n1]; omega
        subst this
        exact h
    · rw [fa_le, n1] at h3
      rw [if_neg (by rw [fa_lt, hneg, n0]; omega)] at h
      exact h
  · rw [show same = false by cases same; rfl; exact absurd (hs.mp rfl) c] at h
    simp only [cpr, if_false, Bool.false_eq_true] at h
    refine ⟨fun h3 => ?_, fun h3 => ?_⟩
    · rw [fa_le, n1] at h3
      by_cases z : w < nI 0
      · rw [if_pos z, z0] at h; exact h
      · rw [if_neg z] at h
        rw [fa_lt, n0] at z
        have : w = 0 := by rw [fa_eq, n1]; omega
        subst this
        exact h
    · rw [fa_le, n1] at h3
      rw [if_neg (by rw [fa_lt, n0]; omega)] at h
      exact h
theorem p_costOf {σ : gSt} {N k0 : Nat} (h30 : N ≤ 30) (hN : σ.1 65 1 = nI N) (hk : (lay k0).2 = 30) {h : Nat → Nat} (hh : ∀ i, i < N → σ.1 k0 i = nI (h i) ∧ h i < 1000) {wt : Nat → Nat → Int32} (hw : ∀ a c, a < c → c < N → σ.1 90 (30 * a + c) = wt a c ∧ okW (wt a c)) {Q : Int64 → Prop} (q : Q (triS (fun i j => cpr (wt j i) (decide (h j = h i))) N)) : W_X12_costOf k0 Q σ := by
  rw [← sum_swap (fun a c => cpr (wt a c) (decide (h a = h c))) N] at q
  refine ⟨N + 1, ?_⟩
  have step : ∀ (m t a : Nat) (K : Int64 → Prop), a + 1 + t + m = N → K (rowS (fun a => rowS (fun t => cpr (wt a (a + 1 + t)) (decide (h a = h (a + 1 + t)))) (N - (a + 1))) (a + 1)) → L_X12_costOf_20 k0 Q (nI a) σ K (m + 1) (rowS (fun a => rowS (fun t => cpr (wt a (a + 1 + t)) (decide (h a = h (a + 1 + t)))) (N - (a + 1))) a + rowS (fun t => cpr (wt a (a + 1 + t)) (decide (h a = h (a + 1 + t)))) t) (nI (a + 1 + t)) := by
    intro m
    induction m with
    | zero =>
      intro t a K ht hK
      rw [L_X12_costOf_20, hN]
      refine bq_t (nI_le (by omega) (by omega)) ?_
      rw [rowS, show N - (a + 1) = t by omega] at hK
      rw [show (fun a => rowS (fun t => cpr (wt a (a + 1 + t)) (decide (h a = h (a + 1 + t)))) (N - (a + 1))) = (fun a => rowS (fun t => cpr (wt a (a + 1 + t)) (decide (h a = h (a + 1 + t)))) (N - (a + 1))) from rfl] at hK
      exact hK
    | succ m ih =>
      intro t a K ht hK
      rw [L_X12_costOf_20, hN, hk]
      obtain ⟨w1, w2⟩ := hw a (a + 1 + t) (by omega) (by omega)
      obtain ⟨ha1, ha2⟩ := hh a (by omega)
      obtain ⟨hc1, hc2⟩ := hh (a + 1 + t) (by omega)
      refine bq_f (nI_ge (by omega) (by omega)) (rI_e (a := 30 * a + (a + 1 + t)) (by rw [nI_mul, nI_add]) (by omega) (rI_i (by omega) (rI_i (by omega) ?_)))
      rw [w1, ha1, hc1]
      intro J hJ
      refine cpr_m w2 (decide (h a = h (a + 1 + t))) (hJ _ ?_) (by rw [decide_eq_true_iff, nI_eq (by omega) (by omega)])
      have e := ih (t + 1) a K (by omega) hK
      rw [rowS, ← Int64.add_assoc] at e
      rw [nI_add]
      exact e
  have key : ∀ (m a : Nat), a + m = N → L_X12_costOf_5 k0 Q σ (fun y21 => Q y21) (m + 1) (rowS (fun a => rowS (fun t => cpr (wt a (a + 1 + t)) (decide (h a = h (a + 1 + t)))) (N - (a + 1))) a) (nI a) := by
    intro m
    induction m with
    | zero =>
      intro a ha
      obtain rfl : a = N := by omega
      rw [L_X12_costOf_5, hN]
      exact bq_t (nI_le (Nat.le_refl _) (by omega)) q
    | succ m ih =>
      intro a ha
      rw [L_X12_costOf_5, hN]
      refine bq_f (nI_ge (by omega) (by omega)) ⟨N - (a + 1) + 1, ?_⟩
      have e := step (N - (a + 1)) 0 a (fun y19 => L_X12_costOf_5 k0 Q σ (fun y21 => Q y21) (m + 1) y19 (nI a + nI 1)) (by omega) (by rw [nI_add]; exact ih (a + 1) (by omega))
      rw [show rowS (fun t => cpr (wt a (a + 1 + t)) (decide (h a = h (a + 1 + t)))) 0 = lN 0 from rfl, lN0_add] at e
      rw [nI_add] at e ⊢
      exact e
  exact key N 0 (by omega)
/-- whom the reference bars -/
def offM (ap ti : Nat → Nat → Bool) (h : Nat → Nat) (most e : Nat) : Bool := anyB (fun i => if h i = h e then ap i e else ti i e) e || (decide (0 < most) && decide (most < fa_cnt (fun i => decide (h i = h e)) e + 1))
theorem p_barredIn {σ : gSt} {N k0 most : Nat} (h30 : N ≤ 30) (hN : σ.1 65 1 = nI N) (hm : σ.1 65 41 = nI most) (hm30 : most ≤ 30) (hk : (lay k0).2 = 30) {h : Nat → Nat} (hh : ∀ i, i < N → σ.1 k0 i = nI (h i) ∧ h i < 1000) {ap ti : Nat → Nat → Bool} (hw : ∀ a c, a < c → c < N → σ.1 92 (30 * a + c) = zI (ap a c) ∧ σ.1 93 (30 * a + c) = zI (ti a c)) {Q : Int32 → Prop} (q : Q (if fa_first (fun e => offM ap ti h most e) N < N then nI (fa_first (fun e => offM ap ti h most e) N) else -1)) : W_X12_barredIn k0 Q σ := by
  refine ⟨N + 1, ?_⟩
  have step : ∀ (m o e : Nat) (K : Int32 → Int32 → Prop), o + m = e → e < N → K (nI (fa_cnt (fun i => decide (h i = h e)) e + 1)) (zI (anyB (fun i => if h i = h e then ap i e else ti i e) e)) → L_X12_barredIn_18 k0 Q (nI e) σ K (m + 1) (nI (fa_cnt (fun i => decide (h i = h e)) o + 1)) (zI (anyB (fun i => if h i = h e then ap i e else ti i e) o)) (nI o) := by
    intro m
    induction m with
    | zero =>
      intro o e K ho he hK
      obtain rfl : o = e := by omega
      rw [L_X12_barredIn_18]
      exact bq_t (nI_le (Nat.le_refl _) (by omega)) hK
    | succ m ih =>
      intro o e K ho he hK
      obtain ⟨w1, w2⟩ := hw o e (by omega) he
      obtain ⟨ha1, ha2⟩ := hh o (by omega)
      obtain ⟨hc1, hc2⟩ := hh e he
      rw [L_X12_barredIn_18, hk]
      refine bq_f (nI_ge (by omega) (by omega)) ?_
      have rest : ∀ v : Int32, v = zI (anyB (fun i => if h i = h e then ap i e else ti i e) (o + 1)) → (rI σ k0 30 (nI o) (fun x12 => rI σ k0 30 (nI e) (fun x13 => ∀ J15 : Int32 → Prop, (∀ x14, (L_X12_barredIn_18 k0 Q (nI e) σ K (m + 1) (nI (fa_cnt (fun i => decide (h i = h e)) o + 1) + x14) v (nI o + nI 1)) → J15 x14) → ((x12 = x13 → (J15 (nI 1))) ∧ (¬ x12 = x13 → (J15 (nI 0))))))) := by
        rintro v rfl
        refine rI_i (by omega) (rI_i (by omega) ?_)
        rw [ha1, hc1]
        intro J hJ
        have e2 := ih (o + 1) e K (by omega) he hK
        refine br_eq (by omega) (by omega) (fun h1 => hJ _ ?_) (fun h1 => hJ _ ?_)
        · rw [fa_cnt_yes (p := fun i => decide (h i = h e)) (n := o) (decide_eq_true h1)] at e2
          rw [nI_add, nI_add]; exact e2
        · rw [fa_cnt_no (p := fun i => decide (h i = h e)) (n := o) (decide_eq_false h1)] at e2
          rw [nI_add, nI_add]; exact e2
      intro J11 hJ11 J17 hJ17
      refine br_z (fun hf => rI_i (by omega) (rI_i (by omega) ?_)) (fun ht => hJ17 (hJ11 _ (rest _ (by rw [anyB, ht, Bool.true_or]; rfl))))
      rw [ha1, hc1]
      refine br_eq (by omega) (by omega) (fun h1 => ?_) (fun h1 => ?_)
      · refine rI_e (a := 30 * o + e) (by rw [nI_mul, nI_add]) (by omega) ?_
        rw [w1]
        exact br_z (fun hz => hJ11 _ (rest _ (by rw [anyB, hf, if_pos h1, hz]; rfl))) (fun hz => hJ17 (hJ11 _ (rest _ (by rw [anyB, hf, if_pos h1, hz]; rfl))))
      · refine rI_e (a := 30 * o + e) (by rw [nI_mul, nI_add]) (by omega) ?_
        rw [w2]
        exact br_z (fun hz => hJ11 _ (rest _ (by rw [anyB, hf, if_neg h1, hz]; rfl))) (fun hz => hJ17 (hJ11 _ (rest _ (by rw [anyB, hf, if_neg h1, hz]; rfl))))
  have key : ∀ (m e : Nat), e + m = N → (∀ j, j < e → offM ap ti h most j = false) → L_X12_barredIn_2 k0 Q σ (Q (-1 : Int32)) (m + 1) (nI e) := by
    intro m
    induction m with
    | zero =>
      intro e he hn
      obtain rfl : e = N := by omega
      rw [L_X12_barredIn_2, hN]
      refine bq_t (nI_le (Nat.le_refl _) (by omega)) ?_
      rw [first_none hn, if_neg (Nat.lt_irrefl _)] at q
      exact q
    | succ m ih =>
      intro e he hn
      rw [L_X12_barredIn_2, hN]
      have hcl := fa_cnt_le (fun i => decide (h i = h e)) e
      refine bq_f (nI_ge (by omega) (by omega)) ⟨e + 1, ?_⟩
      have found : offM ap ti h most e = true → Q (nI e) := fun ho => by
        rw [first_is (by omega) hn ho, if_pos (by omega)] at q
        exact q
      have next : offM ap ti h most e = false → L_X12_barredIn_2 k0 Q σ (Q (-1 : Int32)) (m + 1) (nI e + nI 1) := fun ho => by
        rw [nI_add]
        refine ih (e + 1) (by omega) (fun j hj => ?_)
        by_cases z : j = e
        · subst z; exact ho
        · exact hn j (by omega)
      refine step e 0 e _ (by omega) (by omega) ?_
      refine br_z (fun hf => ?_) (fun ht => found (by rw [offM, ht, Bool.true_or]))
      rw [hm]
      refine ⟨fun h1 => next ?_, fun h1 => ?_⟩
      · have h1 : most = 0 := by
          by_cases z : most = 0
          · exact z
          · exact absurd h1 (nI_nle (by omega) (by omega))
        rw [offM, hf, h1]; rfl
      · have h1 : 0 < most := by
          by_cases z : most = 0
          · subst z; exact absurd (by decide) h1
          · omega
        refine br_le (by omega) (by omega) (fun h2 => next ?_) (fun h2 => found ?_)
        · rw [offM, hf, decide_eq_false (show ¬ most < fa_cnt (fun i => decide (h i = h e)) e + 1 by omega)]; simp
        · rw [offM, decide_eq_true h1, decide_eq_true h2]; simp
  exact key N 0 (by omega) (fun j hj => absurd hj (Nat.not_lt_zero j))
