/-! the class finds the parts -/
def lnkB (σ : gSt) (U : Nat → Bool) (a j k : Nat) : Bool := bt (σ.1 31 a) k || (decide (k < j) && decide (nI 0 < σ.1 24 (a * 30 + k)))
theorem lnk_no {σ : gSt} {U : Nat → Bool} {a j k : Nat} (h : ¬ nI 0 < σ.1 24 (a * 30 + j)) : lnkB σ U a (j + 1) k = lnkB σ U a j k := by
  unfold lnkB
  congr 1
  by_cases e : k = j
  · subst e
    rw [decide_eq_false h, Bool.and_false, Bool.and_false]
  · rw [show decide (k < j + 1) = decide (k < j) from by rw [decide_eq_decide]; omega]
theorem lnk_yes {σ : gSt} {U : Nat → Bool} {a j k : Nat} (h : nI 0 < σ.1 24 (a * 30 + j)) : lnkB σ U a (j + 1) k = (lnkB σ U a j k || decide (k = j)) := by
  unfold lnkB
  by_cases e : k = j
  · subst e
    rw [decide_eq_true h, decide_eq_true (show k < k + 1 by omega), decide_eq_true (show k = k from rfl)]
    simp
  · rw [show decide (k < j + 1) = decide (k < j) from by rw [decide_eq_decide]; omega, decide_eq_false e, Bool.or_false]
theorem p_link {b : Bool} {σ : gSt} (hR : σ.2.2 = gRf b) {N : Nat} (hN : σ.1 1 0 = nI N) (h30 : N ≤ 30) {U : Nat → Bool} {A : Int32} (hA : ∀ k, k < 32 → bt A k = U k) {Q : gSt → Prop} (q : ∀ t, Off [48] σ t → (∀ a, a < N → ∀ k, k < 32 → bt (t.1 48 a) k = (lnkB σ U a N k && U k)) → Q t) : W_X6_link A Q σ := by
  have inner : ∀ (m j i : Nat) (s : gSt) (K : gSt → Prop), j + m = N → i < N → Off [48] σ s → (∀ k, k < 32 → bt (s.1 48 i) k = lnkB σ U i j k) → (∀ s1, Off [48] σ s1 → (∀ a, a ≠ i → s1.1 48 a = s.1 48 a) → (∀ k, k < 32 → bt (s1.1 48 i) k = lnkB σ U i N k) → K s1) → L_X6_link_36 Q A (nI N) (nI i) K (m + 1) (nI j) s := by
    intro m
    induction m with
    | zero =>
      intro j i s K hj hi hO hb hK
      obtain rfl : j = N := by omega
      rw [L_X6_link_36]
      exact bq_t (nI_le (Nat.le_refl _) (by omega)) (hK s hO (fun _ _ => rfl) hb)
    | succ m ih =>
      intro j i s K hj hi hO hb hK
      rw [L_X6_link_36]
      refine bq_f (nI_ge (by omega) (by omega)) ⟨_, fun o l => s_pull (hO.2.trans hR) i j (by omega) (by omega), ?_⟩
      rw [(hO.1 24 (by decide)).1, nI_add]
      refine ⟨fun hle => ?_, fun hgt => rI_i (by omega) (wI_i (by omega) ?_)⟩
      · refine ih (j + 1) i s K (by omega) hi hO (fun k hk => ?_) hK
        rw [lnk_no (Int32.not_lt.mpr hle)]; exact hb k hk
      · refine ih (j + 1) i _ K (by omega) hi (hO.i (by simp)) (fun k hk => ?_) (fun s1 h1 h2 h3 => hK s1 h1 (fun a ha => ?_) h3)
        · rw [sI_get, if_pos ⟨rfl, rfl⟩, b_or, bt_one j (by omega) hk, lnk_yes (Int32.not_le.mp hgt), hb k hk]
        · rw [h2 a ha, sI_get, if_neg (fun e => ha e.2)]
  have outer : ∀ (m i : Nat) (s : gSt), i + m = N → Off [48] σ s → (∀ a, a < i → ∀ k, k < 32 → bt (s.1 48 a) k = (lnkB σ U a N k && U k)) → L_X6_link_13 Q A (nI N) (fun s25 => Q s25) (m + 1) (nI i) s := by
    intro m
    induction m with
    | zero =>
      intro i s hi hO hb
      obtain rfl : i = N := by omega
      rw [L_X6_link_13]
      exact bq_t (nI_le (Nat.le_refl _) (by omega)) (q s hO hb)
    | succ m ih =>
      intro i s hi hO hb
      rw [L_X6_link_13]
      refine bq_f (nI_ge (by omega) (by omega)) (rI_i (by omega) (wI_i (by omega) ⟨N + 1, ?_⟩))
      refine inner N 0 i _ _ (by omega) (by omega) (hO.i (by simp)) (fun k hk => ?_) (fun s1 h1 h2 h3 => rI_i (by omega) (wI_i (by omega) ?_))
      · rw [sI_get, if_pos ⟨rfl, rfl⟩, (hO.1 31 (by decide)).1, lnkB, decide_eq_false (Nat.not_lt_zero k), Bool.false_and, Bool.or_false]
      · rw [nI_add]
        refine ih (i + 1) _ (by omega) (h1.i (by simp)) (fun a ha k hk => ?_)
        by_cases e : a = i
        · subst e
          rw [sI_get, if_pos ⟨rfl, rfl⟩, b_and, h3 k hk, hA k hk]
        · rw [sI_get, if_neg (fun x => e x.2), h2 a e, sI_get, if_neg (fun x => e x.2)]
          exact hb a (by omega) k hk
  unfold W_X6_link
  rw [hN]
  exact ⟨N + 1, outer N 0 σ (by omega) Off.rf (fun a ha => absurd ha (Nat.not_lt_zero a))⟩
theorem p_spread {σ : gSt} {N : Nat} (hN : σ.1 1 0 = nI N) (h30 : N ≤ 30) {U : Nat → Bool} {hg : Nat → Nat → Bool} (hgn : ∀ a, hg a a = false) (hL : ∀ a k, a < N → k < 32 → k ≠ a → bt (σ.1 48 a) k = (decide (k < N) && hg a k && U k)) {e : Nat} (he : e < N) {Q : gSt → Prop} (q : ∀ t, Off [47, 49] σ t → (∀ j, t.1 47 j = if rc N U hg e j = true then nI e else σ.1 47 j) → (∀ k, bt (t.1 49 e) k = rc N U hg e k) → (∀ a, a ≠ e → t.1 49 a = σ.1 49 a) → Q t) : W_X6_spread (nI e) Q σ := by
  have inner : ∀ (m i : Nat) (r b0 v : Int32) (s : gSt) (K : Int32 → gSt → Prop), i + m = N → Off [47, 49] σ s → bt v e = true → (∀ k, bt v k = true → Rch N U hg e k) → (∀ k, bt b0 k = true → bt v k = true) → (∀ a, a < i → bt b0 a = true → ∀ k, k < 32 → bt (σ.1 48 a) k = true → bt v k = true) → (∀ j, s.1 47 j = σ.1 47 j ∨ (bt v j = true ∧ s.1 47 j = nI e)) → (∀ a, a < i → bt b0 a = true → s.1 47 a = nI e) → s.1 49 = σ.1 49 →
      (∀ v1 s1, Off [47, 49] σ s1 → bt v1 e = true → (∀ k, bt v1 k = true → Rch N U hg e k) → (∀ k, bt b0 k = true → bt v1 k = true) → (∀ a, a < N → bt b0 a = true → ∀ k, k < 32 → bt (σ.1 48 a) k = true → bt v1 k = true) → (∀ j, s1.1 47 j = σ.1 47 j ∨ (bt v1 j = true ∧ s1.1 47 j = nI e)) → (∀ a, a < N → bt b0 a = true → s1.1 47 a = nI e) → s1.1 49 = σ.1 49 → K v1 s1) → L_X6_spread_25 Q (nI e) r b0 K (m + 1) v (nI i) s := by
    intro m
    induction m with
    | zero =>
      intro i r b0 v s K hi hO h1 h2 h3 h4 h5 h6 h7 hK
      obtain rfl : i = N := by omega
      rw [L_X6_spread_25, (hO.1 1 (by decide)).1, hN]
      exact bq_t (nI_le (Nat.le_refl _) (by omega)) (hK v s hO h1 h2 h3 h4 h5 h6 h7)
    | succ m ih =>
      intro i r b0 v s K hi hO h1 h2 h3 h4 h5 h6 h7 hK
      rw [L_X6_spread_25, (hO.1 1 (by decide)).1, hN, nI_add]
      refine bq_f (nI_ge (by omega) (by omega)) ⟨fun ht => ?_, fun ht => ?_⟩
      · have ht := (bit_test (show i < 32 by omega)).mp ht
        have nb : ¬ bt b0 i = true := fun hb => by rw [h3 i hb] at ht; cases ht
        refine ih (i + 1) r b0 v s K (by omega) hO h1 h2 h3 (fun a ha hb => ?_) h5 (fun a ha hb => ?_) h7 hK
        · by_cases x : a = i
          · subst x; exact absurd hb nb
          · exact h4 a (by omega) hb
        · by_cases x : a = i
          · subst x; exact absurd hb nb
          · exact h6 a (by omega) hb
      · have ht : bt v i = true := by
          cases hv : bt v i
          · exact absurd ((bit_test (show i < 32 by omega)).mpr hv) ht
          · rfl
        refine wI_i (by omega) (rI_i (by omega) ?_)
        have e48 : (sI s 47 i (nI e)).1 48 i = σ.1 48 i := by
          show s.1 48 i = _
          rw [(hO.1 48 (by decide)).1]
        rw [e48]
        have up : ∀ k, bt v k = true → bt (v ||| σ.1 48 i) k = true := fun k hk => by rw [b_or, hk, Bool.true_or]
        refine ih (i + 1) r b0 (v ||| σ.1 48 i) _ K (by omega) (hO.i (by simp)) (up e h1) (fun k hk => ?_) (fun k hk => up k (h3 k hk)) (fun a ha hb k hk h48 => ?_) (fun j => ?_) (fun a ha hb => ?_) h7 hK
        · rw [b_or, Bool.or_eq_true] at hk
          rcases hk with hk | hk
          · exact h2 k hk
          · by_cases x : k = i
            · subst x; exact h2 k ht
            · by_cases h32 : k < 32
              · rw [hL i k (by omega) h32 x] at hk
                simp only [Bool.and_eq_true, decide_eq_true_eq] at hk
                exact (h2 i ht).step (by omega) hk.1.1 hk.2 hk.1.2
              · rw [b_big (by omega)] at hk; cases hk
        · by_cases x : a = i
          · subst x; rw [b_or, h48, Bool.or_true]
          · exact up k (h4 a (by omega) hb k hk h48)
        · rw [sI_get]
          by_cases x : j = i
          · subst x
            rw [if_pos ⟨rfl, rfl⟩]
            exact .inr ⟨up j ht, rfl⟩
          · rw [if_neg (fun y => x y.2)]
            rcases h5 j with h | ⟨ha, hb⟩
            · exact .inl h
            · exact .inr ⟨up j ha, hb⟩
        · rw [sI_get]
          by_cases x : a = i
          · subst x
            rw [if_pos ⟨rfl, rfl⟩]
          · rw [if_neg (fun y => x y.2)]
            exact h6 a (by omega) hb
  have outer : ∀ (m r : Nat) (v : Int32) (s : gSt) (K : Int32 → gSt → Prop), r + m = 30 → Off [47, 49] σ s → bt v e = true → (∀ k, bt v k = true → Rch N U hg e k) → (∀ j, s.1 47 j = σ.1 47 j ∨ (bt v j = true ∧ s.1 47 j = nI e)) → s.1 49 = σ.1 49 → r + 1 ≤ fa_cnt (bt v) N → (∀ v1 s1, Off [47, 49] σ s1 → (∀ k, bt v1 k = rc N U hg e k) → (∀ j, s1.1 47 j = if rc N U hg e j = true then nI e else σ.1 47 j) → s1.1 49 = σ.1 49 → K v1 s1) → L_X6_spread_13 Q (nI e) K (m + 1) v (nI r) s := by
    intro m
    induction m with
    | zero =>
      intro r v s K hr hO h1 h2 h5 h7 hc hK
      have := fa_cnt_le (bt v) N
      omega
    | succ m ih =>
      intro r v s K hr hO h1 h2 h5 h7 hc hK
      rw [L_X6_spread_13, nI_add]
      refine bq_f (nI_ge (by omega) (by omega)) ⟨N + 1, inner N 0 (nI r) v v s _ (by omega) hO h1 h2 (fun _ h => h) (fun a ha => absurd ha (Nat.not_lt_zero a)) h5 (fun a ha => absurd ha (Nat.not_lt_zero a)) h7 (fun v1 s1 g0 g1 g2 g3 g4 g5 g6 g7 => ⟨fun heq => ?_, fun hne => ?_⟩)⟩
      · subst heq
        have hS : bt v = rc N U hg e := rc_is g1 (fun a c ha hcN hva hu hh => by
          have hne : c ≠ a := fun x => by subst x; rw [hgn] at hh; cases hh
          refine g4 a ha hva c (by omega) ?_
          rw [hL a c ha (by omega) hne, decide_eq_true hcN, hh, hu]; rfl) g2
        refine hK v s1 g0 (fun k => by rw [hS]) (fun j => ?_) g7
        by_cases x : rc N U hg e j = true
        · rw [if_pos x]
          exact g6 j ((rc_iff.mp x).lt he) (by rw [hS]; exact x)
        · rw [if_neg x]
          rcases g5 j with h | ⟨h, -⟩
          · exact h
          · rw [hS] at h; exact absurd h x
      · refine ih (r + 1) v1 s1 K (by omega) g0 g1 g2 g5 g7 ?_ hK
        have hex : ∃ k, k < 32 ∧ ¬ bt v k = bt v1 k := Classical.byContradiction fun hno => hne (b_ext (fun k hk => Classical.byContradiction fun h => hno ⟨k, hk, h⟩))
        obtain ⟨k, hk, hd⟩ := hex
        have k0 : bt v k = false ∧ bt v1 k = true := by
          cases x : bt v k
          · cases y : bt v1 k
            · rw [x, y] at hd; exact absurd rfl hd
            · exact ⟨rfl, rfl⟩
          · rw [x, g3 k x] at hd; exact absurd rfl hd
        have := fa_cnt_lt (p := bt v) (q := bt v1) (n := N) (fun k _ h => g3 k h) ((g2 k k0.2).lt he) k0.1 k0.2
        omega
  unfold W_X6_spread
  refine wI_i (by omega) ⟨31, ?_⟩
  have hb : ∀ k, bt (nI 1 <<< (nI e &&& 31)) k = true → k = e := fun k hk => by
    by_cases h32 : k < 32
    · rw [bt_one e (by omega) h32] at hk; exact of_decide_eq_true hk
    · rw [b_big (by omega)] at hk; cases hk
  have hbe : bt (nI 1 <<< (nI e &&& 31)) e = true := by rw [bt_one e (by omega) (by omega)]; exact decide_eq_true rfl
  refine outer 30 0 (nI 1 <<< (nI e &&& 31)) _ _ (by omega) (Off.rf.i (by simp)) hbe (fun k hk => by rw [hb k hk]; exact Rch.rf e) (fun j => ?_) rfl (fa_cnt_pos he hbe) (fun v1 s1 g0 g1 g2 g3 => wI_i (by omega) (q _ (g0.i (by simp)) (fun j => g2 j) (fun k => ?_) (fun a ha => ?_)))
  · rw [sI_get]
    by_cases x : j = e
    · subst x; rw [if_pos ⟨rfl, rfl⟩]; exact .inr ⟨hbe, rfl⟩
    · rw [if_neg (fun y => x y.2)]; exact .inl rfl
  · rw [sI_get, if_pos ⟨rfl, rfl⟩]; exact g1 k
  · rw [sI_get, if_neg (fun x => ha x.2), g3]
