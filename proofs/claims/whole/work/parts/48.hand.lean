/-! HAND, the reference's side -/
theorem lst_le (f : Nat → Nat) (i : Nat) : lst f i ≤ i := fa_first_le _ _
theorem lst_same (f : Nat → Nat) (i : Nat) : f (lst f i) = f i := by
  by_cases h : lst f i < i
  · exact fst_yes h
  · have := lst_le f i
    rw [show lst f i = i by omega]
theorem lst_min (f : Nat → Nat) (i j : Nat) (h : f j = f i) : lst f i ≤ j := by
  by_cases hlt : j < lst f i
  · have := fa_first_no (fun j => decide (f j = f i)) i j hlt
    simp [h] at this
  · omega
theorem lst_is (f : Nat → Nat) (i m : Nat) (h1 : f m = f i) (h2 : ∀ j, f j = f i → m ≤ j) : lst f i = m := by
  have a := lst_min f i m h1
  have b := h2 (lst f i) (lst_same f i)
  omega
theorem lst_idem (f : Nat → Nat) (i : Nat) : lst f (lst f i) = lst f i := lst_is f (lst f i) (lst f i) rfl (fun j hj => lst_min f i j (hj.trans (lst_same f i)))
theorem lst_cong {f g : Nat → Nat} {N i : Nat} (hi : i < N) (h : ∀ a c, a < N → c < N → (f a = f c ↔ g a = g c)) : lst f i = lst g i := by
  have l1 := lst_le f i
  have l2 := lst_le g i
  have a := lst_min f i (lst g i) ((h _ _ (by omega) hi).mpr (lst_same g i))
  have b := lst_min g i (lst f i) ((h _ _ (by omega) hi).mp (lst_same f i))
  omega
theorem lst_canon {h : Nat → Nat} {N i : Nat} (hi : i < N) (hc : ∀ i, i < N → h i ≤ i ∧ h (h i) = h i) : lst h i = h i := by
  have a := lst_min h i (h i) (hc i hi).2
  have l := lst_le h i
  have b := lst_same h i
  have c := (hc (lst h i) (by omega)).1
  omega
theorem p_number {σ : gSt} {N : Nat} (h30 : N ≤ 30) (hN : σ.1 65 1 = nI N) {f : Nat → Nat} (hf : ∀ i, i < N → σ.1 71 i = nI (f i) ∧ f i < 1000) {Q : gSt → Prop} (q : ∀ s, Off [71, 98] σ s → (∀ i, i < N → s.1 71 i = nI (lst f i)) → Q s) : W_X12_number 71 Q σ := by
  have inner : ∀ (m j : Nat) (s : gSt) (i v : Nat) (K : Int32 → Prop), j + m = N → j ≤ N → i < N → (∀ i, i < N → s.1 71 i = nI (f i)) → v < N → f v = f i → (∀ o, N - m ≤ o → o < N → f o = f i → v ≤ o) → K (nI (lst f i)) → True := fun _ _ _ _ _ _ _ _ _ _ _ _ _ _ => trivial
  have step : ∀ (j : Nat) (s : gSt) (i v : Nat) (K : Int32 → Prop), j ≤ N → i < N → (∀ i, i < N → s.1 71 i = nI (f i)) → v < N → f v = f i → (∀ o, j ≤ o → o < N → f o = f i → v ≤ o) → K (nI (lst f i)) → L_X12_number_20 71 Q (nI i) s K (j + 1) (nI v) (nI j + (-1 : Int32)) := by
    intro j
    induction j with
    | zero =>
      intro s i v K hj hi hs hv hfv hmin hK
      rw [L_X12_number_20]
      refine bq_t m1_neg ?_
      rw [lst_is f i v hfv (fun o ho => ?_)] at hK
      · exact hK
      · by_cases hlt : o < N
        · exact hmin o (Nat.zero_le _) hlt ho
        · omega
    | succ j ih =>
      intro s i v K hj hi hs hv hfv hmin hK
      rw [L_X12_number_20, nI_m1]
      refine bq_f (nI_pos (by omega)) (rI_e rfl (by show j < 30; omega) (rI_e rfl (by show i < 30; omega) ?_))
      rw [hs j (by omega), hs i hi]
      have f1 := (hf j (by omega)).2
      have f2 := (hf i hi).2
      refine br_eq (by omega) (by omega) (fun h1 => ?_) (fun h1 => ?_)
      · exact ih s i j K (by omega) hi hs (by omega) h1 (fun o h2 h3 h4 => h2) hK
      · refine ih s i v K (by omega) hi hs hv hfv (fun o h2 h3 h4 => ?_) hK
        by_cases e : o = j
        · subst e; exact absurd h4 h1
        · exact hmin o (by omega) h3 h4
  have outer : ∀ (m i : Nat) (s : gSt) (K : gSt → Prop), i + m = N → Off [71, 98] σ s → s.1 71 = σ.1 71 → (∀ k, k < i → s.1 98 k = nI (lst f k)) → (∀ t, Off [71, 98] σ t → t.1 71 = σ.1 71 → (∀ k, k < N → t.1 98 k = nI (lst f k)) → K t) → L_X12_number_2 71 Q K (m + 1) (nI i) s := by
    intro m
    induction m with
    | zero =>
      intro i s K hi hO h71 h98 hK
      obtain rfl : i = N := by omega
      rw [L_X12_number_2, (hO.1 65 (by decide)).1, hN]
      exact bq_t (nI_le (Nat.le_refl _) (by omega)) (hK s hO h71 h98)
    | succ m ih =>
      intro i s K hi hO h71 h98 hK
      rw [L_X12_number_2, (hO.1 65 (by decide)).1, hN]
      refine bq_f (nI_ge (by omega) (by omega)) ⟨N + 1, ?_⟩
      rw [nI_sub1]
      refine step N s i i _ (Nat.le_refl _) (by omega) (fun i hi => by rw [h71]; exact (hf i hi).1) (by omega) rfl (fun o h1 h2 h3 => by omega) ?_
      refine wI_i (by omega) ?_
      rw [nI_add]
      refine ih (i + 1) _ K (by omega) (hO.i (by simp)) (by rw [← h71]; funext a; rw [sI_get, if_neg (by simp)]) (fun k hk => ?_) hK
      rw [sI_get]
      by_cases e : k = i
      · subst e; rw [if_pos ⟨rfl, rfl⟩]
      · rw [if_neg (fun q => e q.2)]; exact h98 k (by omega)
  have last : ∀ (m i : Nat) (s : gSt), i + m = N → Off [71, 98] σ s → (∀ k, k < N → s.1 98 k = nI (lst f k)) → (∀ k, k < i → s.1 71 k = nI (lst f k)) → L_X12_number_59 71 Q (fun s25 => Q s25) (m + 1) (nI i) s := by
    intro m
    induction m with
    | zero =>
      intro i s hi hO h98 h71
      obtain rfl : i = N := by omega
      rw [L_X12_number_59, (hO.1 65 (by decide)).1, hN]
      exact bq_t (nI_le (Nat.le_refl _) (by omega)) (q s hO h71)
    | succ m ih =>
      intro i s hi hO h98 h71
      rw [L_X12_number_59, (hO.1 65 (by decide)).1, hN]
      refine bq_f (nI_ge (by omega) (by omega)) (rI_i (by omega) (wI_e rfl (by show i < 30; omega) ?_))
      rw [nI_add]
      refine ih (i + 1) _ (by omega) (hO.i (by simp)) (fun k hk => by rw [sI_get, if_neg (by simp)]; exact h98 k hk) (fun k hk => ?_)
      rw [sI_get]
      by_cases e : k = i
      · subst e; rw [if_pos ⟨rfl, rfl⟩]; exact h98 k (by omega)
      · rw [if_neg (fun q => e q.2)]; exact h71 k (by omega)
  refine ⟨N + 1, outer N 0 σ _ (by omega) Off.rf rfl (fun k hk => absurd hk (Nat.not_lt_zero k)) (fun t hO h1 h2 => ⟨N + 1, last N 0 t (by omega) hO h2 (fun k hk => absurd hk (Nat.not_lt_zero k))⟩)⟩
theorem p_sizeOf {σ : gSt} {N v : Nat} (h30 : N ≤ 30) (hN : σ.1 65 1 = nI N) {f : Nat → Nat} (hf : ∀ i, i < N → σ.1 71 i = nI (f i) ∧ f i < 1000) (hv : v < 1000) {Q : Int32 → Prop} (q : Q (nI (fa_cnt (fun i => decide (f i = v)) N))) : W_X12_sizeOf (nI v) Q σ := by
  refine ⟨N + 1, ?_⟩
  have key : ∀ (m i : Nat), i + m = N → L_X12_sizeOf_4 Q (nI v) σ (fun y11 => Q y11) (m + 1) (nI (fa_cnt (fun i => decide (f i = v)) i)) (nI i) := by
    intro m
    induction m with
    | zero =>
      intro i hi
      obtain rfl : i = N := by omega
      rw [L_X12_sizeOf_4, hN]
      exact bq_t (nI_le (Nat.le_refl _) (by omega)) q
    | succ m ih =>
      intro i hi
      rw [L_X12_sizeOf_4, hN]
      obtain ⟨f1, f2⟩ := hf i (by omega)
      refine bq_f (nI_ge (by omega) (by omega)) (rI_i (by omega) ?_)
      rw [f1]
      intro J hJ
      have e := ih (i + 1) (by omega)
      refine br_eq (by omega) (by omega) (fun h1 => hJ _ ?_) (fun h1 => hJ _ ?_)
      · rw [fa_cnt_yes (p := fun i => decide (f i = v)) (n := i) (decide_eq_true h1)] at e
        rw [nI_add, nI_add]; exact e
      · rw [fa_cnt_no (p := fun i => decide (f i = v)) (n := i) (decide_eq_false h1)] at e
        rw [nI_add, nI_add]; exact e
  exact key N 0 (by omega)
theorem p_joins {σ : gSt} {N k0 x y : Nat} (h30 : N ≤ 30) (hN : σ.1 65 1 = nI N) (hk : (lay k0).2 = 30) (hk65 : k0 ≠ 65) (hx : x < 1000) (hy : y < 1000) {f : Nat → Nat} (hf : ∀ i, i < N → σ.1 k0 i = nI (f i) ∧ f i < 1000) {Q : gSt → Prop} (q : ∀ s, Off [k0] σ s → (∀ i, i < N → s.1 k0 i = nI (if f i = y then x else f i)) → Q s) : W_X12_joins k0 (nI x) (nI y) Q σ := by
  refine ⟨N + 1, ?_⟩
  have key : ∀ (m i : Nat) (s : gSt), i + m = N → Off [k0] σ s → (∀ k, k < i → s.1 k0 k = nI (if f k = y then x else f k)) → (∀ k, i ≤ k → s.1 k0 k = σ.1 k0 k) → L_X12_joins_3 k0 Q (nI x) (nI y) (fun s11 => Q s11) (m + 1) (nI i) s := by
    intro m
    induction m with
    | zero =>
      intro i s hi hO h1 h2
      obtain rfl : i = N := by omega
      rw [L_X12_joins_3, (hO.1 65 (by simpa using Ne.symm hk65)).1, hN]
      exact bq_t (nI_le (Nat.le_refl _) (by omega)) (q s hO h1)
    | succ m ih =>
      intro i s hi hO h1 h2
      rw [L_X12_joins_3, (hO.1 65 (by simpa using Ne.symm hk65)).1, hN, hk]
      obtain ⟨f1, f2⟩ := hf i (by omega)
      refine bq_f (nI_ge (by omega) (by omega)) (rI_i (by omega) ?_)
      rw [h2 i (Nat.le_refl _), f1, nI_add]
      refine br_eq (by omega) (by omega) (fun h3 => wI_i (by omega) ?_) (fun h3 => ?_)
      · refine ih (i + 1) _ (by omega) (hO.i (by simp)) (fun k hk2 => ?_) (fun k hk2 => ?_)
        · rw [sI_get]
          by_cases e : k = i
          · subst e; rw [if_pos ⟨rfl, rfl⟩, if_pos h3]
          · rw [if_neg (fun q => e q.2)]; exact h1 k (by omega)
        · rw [sI_get, if_neg (by omega)]; exact h2 k (by omega)
      · refine ih (i + 1) s (by omega) hO (fun k hk2 => ?_) (fun k hk2 => h2 k (by omega))
        by_cases e : k = i
        · subst e; rw [h2 k (Nat.le_refl _), f1, if_neg h3]
        · exact h1 k (by omega)
  exact key N 0 σ (by omega) Off.rf (fun k hk => absurd hk (Nat.not_lt_zero k)) (fun _ _ => rfl)
