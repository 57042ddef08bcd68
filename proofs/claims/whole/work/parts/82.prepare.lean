/-! the class: what stays while the hand changes, and what is measured of it -/
def rowI (f : Nat → Int32) : Nat → Int32
  | 0 => nI 0
  | n + 1 => rowI f n + f n
theorem rowI_toInt {f : Nat → Int32} : ∀ {n : Nat}, n ≤ 30 → (∀ k, k < n → okW (f k)) → (-(n * 1000000 : Int) ≤ (rowI f n).toInt ∧ (rowI f n).toInt ≤ (n * 1000000 : Int)) ∧ i2l (rowI f n) = rowS (fun k => i2l (f k)) n
  | 0, _, _ => ⟨by rw [show rowI f 0 = nI 0 from rfl, show (nI 0 : Int32).toInt = 0 by decide]; simp, by show i2l (nI 0) = lN 0; decide⟩
  | n + 1, hn, h => by
    obtain ⟨⟨h1, h2⟩, h3⟩ := rowI_toInt (n := n) (by omega) (fun k hk => h k (by omega))
    obtain ⟨h4, h5⟩ := h n (by omega)
    have hb : (n : Int) ≤ 29 := by omega
    have e : (rowI f n + f n).toInt = (rowI f n).toInt + (f n).toInt := fb_addI (by omega) (by omega)
    refine ⟨?_, ?_⟩
    · show -(((n + 1 : Nat) : Int) * 1000000) ≤ (rowI f n + f n).toInt ∧ (rowI f n + f n).toInt ≤ ((n + 1 : Nat) : Int) * 1000000
      rw [e]
      constructor <;> omega
    · show i2l (rowI f n + f n) = rowS (fun k => i2l (f k)) n + i2l (f n)
      rw [← h3, fa_eq64, fb_addL] <;> simp only [i2l, Int32.toInt_toInt64, e] <;> omega
theorem okW_0 : okW (nI 0) := by unfold okW; decide
theorem rowI_PT {wt : Nat → Nat → Int32} {N : Nat} {h : Nat → Nat} {e v : Nat} (h30 : N ≤ 30) (hok : ∀ j, j < N → okW (wt e j)) : i2l (rowI (fun i => if h i = v then wt e i else nI 0) N) = PT wt N h e v := by
  rw [(rowI_toInt h30 (fun k hk => by
    by_cases z : h k = v
    · rw [if_pos z]; exact hok k hk
    · rw [if_neg z]; exact okW_0)).2]
  refine rowS_cong (fun k _ => ?_)
  by_cases z : h k = v
  · rw [if_pos z, if_pos z]
  · rw [if_neg z, if_neg z, i2l_0]
def prD (i j a c : Nat) : Bool := decide (a ≠ c ∧ (max a c < i ∨ (max a c = i ∧ min a c < j)))
theorem prtC_off {σ s : gSt} {ks : List Nat} {bk yr : Nat → Nat} (hO : Off ks σ s) (hk : 26 ∉ ks ∧ 32 ∉ ks ∧ 30 ∉ ks) (a c : Nat) : prtC s bk yr a c = prtC σ bk yr a c := by
  unfold prtC
  rw [(hO.1 26 hk.1).1, (hO.1 32 hk.2.1).1, (hO.1 30 hk.2.2).1]
theorem p_prepare {b : Bool} {σ : gSt} (hR : σ.2.2 = gRf b) {N : Nat} {bk nm td yr : Nat → Nat} {fa : Nat → Int32} (hE : entAt σ N bk nm td yr fa) (hsz : σ.1 33 1 = nI N) (h30 : N ≤ 30) {wt : Nat → Nat → Int32} {nv ti ap : Nat → Nat → Bool} (hC : pwC σ N bk yr wt nv ti ap) (hap : symB N ap) {Q : gSt → Prop} (q : ∀ t, Off [39] σ t → (∀ a c, a < N → c < 32 → bt (t.1 39 a) c = (decide (c < N) && decide (a ≠ c) && ap a c)) → Q t) : W_X0_prepare Q σ := by
  have inner : ∀ (m j i : Nat) (s : gSt) (K : gSt → Prop), j + m = i → i < N → Off [39] σ s → (∀ a c, a < 30 → c < 32 → bt (s.1 39 a) c = (prD i j a c && ap a c)) → (∀ s1, Off [39] σ s1 → (∀ a c, a < 30 → c < 32 → bt (s1.1 39 a) c = (prD i i a c && ap a c)) → K s1) → L_X0_prepare_23 Q (nI i) K (m + 1) (nI j) s := by
    intro m
    induction m with
    | zero =>
      intro j i s K hj hi hO hb hK
      obtain rfl : j = i := by omega
      rw [L_X0_prepare_23]
      exact bq_t (nI_le (Nat.le_refl _) (by omega)) (hK s hO hb)
    | succ m ih =>
      intro j i s K hj hi hO hb hK
      rw [L_X0_prepare_23]
      refine bq_f (nI_ge (by omega) (by omega)) ⟨_, fun o l => s_partsThem (hO.2.trans hR) (hE.off hO (by simp) (by simp)) i j hi (by omega), ?_⟩
      refine ⟨_, fun o l => s_setBit (by decide) (len := 30) rfl (by omega) (by omega) (by decide), fun r s2 hp => ⟨hp.1, hp.2.1.2, ?_⟩⟩
      show L_X0_prepare_23 Q (nI i) K (m + 1) (nI j + nI 1) s2
      rw [nI_add]
      refine ih (j + 1) i s2 K (by omega) hi (hO.trans hp.2.1) (fun a c ha hc => ?_) hK
      rw [hp.2.2 a c hc, prtC_off hO (by decide), (hC i j hi (by omega) (by omega)).2.2.2]
      by_cases z : (a = i ∧ c = j) ∨ (a = j ∧ c = i)
      · rw [if_pos z]
        have : prD i (j + 1) a c = true := by unfold prD; simp only [decide_eq_true_iff]; omega
        rw [this, Bool.true_and]
        rcases z with ⟨rfl, rfl⟩ | ⟨rfl, rfl⟩
        · rfl
        · exact hap _ _ (by omega) (by omega) (by omega)
      · rw [if_neg z, hb a c ha hc]
        have : prD i (j + 1) a c = prD i j a c := by unfold prD; rw [decide_eq_decide]; omega
        rw [this]
  have outer : ∀ (m i : Nat) (s : gSt), N ≤ i + m → i ≤ max N 1 → Off [39] σ s → (∀ a c, a < 30 → c < 32 → bt (s.1 39 a) c = (prD i 0 a c && ap a c)) → L_X0_prepare_10 Q (fun s16 => Q s16) (m + 1) (nI i) s := by
    intro m
    induction m with
    | zero =>
      intro i s hi h1 hO hb
      rw [L_X0_prepare_10, (hO.1 33 (by decide)).1, hsz]
      refine bq_t (nI_le (by omega) (by omega)) (q s hO (fun a c ha hc => ?_))
      rw [hb a c (by omega) hc]
      congr 1
      unfold prD
      rw [← Bool.decide_and, decide_eq_decide]
      omega
    | succ m ih =>
      intro i s hi h1 hO hb
      rw [L_X0_prepare_10, (hO.1 33 (by decide)).1, hsz]
      by_cases hlt : i < N
      · refine bq_f (nI_ge hlt (by omega)) ⟨i + 1, inner i 0 i s _ (by omega) hlt hO hb (fun s1 hO1 hb1 => ?_)⟩
        rw [nI_add]
        refine ih (i + 1) s1 (by omega) (by omega) hO1 (fun a c ha hc => ?_)
        rw [hb1 a c ha hc]
        congr 1
        unfold prD
        rw [decide_eq_decide]
        omega
      · refine bq_t (nI_le (by omega) (by omega)) (q s hO (fun a c ha hc => ?_))
        rw [hb a c (by omega) hc]
        congr 1
        unfold prD
        rw [← Bool.decide_and, decide_eq_decide]
        omega
  unfold W_X0_prepare
  intro s hO hf
  refine ⟨N + 1, outer N 1 s (by omega) (by omega) hO (fun a c ha hc => ?_)⟩
  rw [hf, if_pos (show a < (lay 39).2 from ha), nI_0, b_0]
  have : prD 1 0 a c = false := by unfold prD; simp only [decide_eq_false_iff_not]; omega
  rw [this, Bool.false_and]
theorem p_measure {b : Bool} {σ : gSt} (hR : σ.2.2 = gRf b) {N : Nat} (hsz : σ.1 33 1 = nI N) (h30 : N ≤ 30) {h : Nat → Nat} (hh : ∀ i, i < N → σ.1 34 i = nI (h i) ∧ h i < 30) {wt : Nat → Nat → Int32} (hw : ∀ a c, a < N → c < N → σ.1 24 (a * 30 + c) = wt a c) (hsy : ∀ i j, i < N → j < N → wt i j = wt j i) {Q : gSt → Prop}
    (q : ∀ t, Off [38, 40, 41] σ t → t.1 38 = σ.1 38 → t.2.1 38 7 = cst wt N h → (∀ v k, v < 30 → k < 32 → bt (t.1 40 v) k = (decide (k < N) && decide (h k = v))) → (∀ e v, e < N → v < 30 → t.1 41 (e * 30 + v) = rowI (fun i => if h i = v then wt e i else nI 0) N) → Q t) : W_X0_measure Q σ := by
  have inner : ∀ (m j i : Nat) (s : gSt) (K : gSt → Prop), j + m = N → i < N → Off [38, 40, 41] σ s → s.1 38 = σ.1 38 → s.2.1 38 7 = cst wt N h → (∀ e v, e < N → v < 30 → s.1 41 (e * 30 + v) = rowI (fun i => if h i = v then wt e i else nI 0) (if e < j then i + 1 else i)) → (∀ s1, Off [38, 40, 41] σ s1 → s1.1 38 = σ.1 38 → s1.2.1 38 7 = cst wt N h → s1.1 40 = s.1 40 → (∀ e v, e < N → v < 30 → s1.1 41 (e * 30 + v) = rowI (fun i => if h i = v then wt e i else nI 0) (i + 1)) → K s1) → L_X0_measure_62 Q (nI i) K (m + 1) (nI j) s := by
    intro m
    induction m with
    | zero =>
      intro j i s K hj hi hO h1 h2 hb hK
      obtain rfl : j = N := by omega
      rw [L_X0_measure_62, (hO.1 33 (by decide)).1, hsz]
      exact bq_t (nI_le (Nat.le_refl _) (by omega)) (hK s hO h1 h2 rfl (fun e v he hv => by rw [hb e v he hv, if_pos he]))
    | succ m ih =>
      intro j i s K hj hi hO h1 h2 hb hK
      rw [L_X0_measure_62, (hO.1 33 (by decide)).1, hsz]
      have hj2 : j < N := by omega
      have hhi := hh i hi
      refine bq_f (nI_ge (by omega) (by omega)) (rI_i (by omega) ?_)
      rw [(hO.1 34 (by decide)).1, hhi.1, nI_mul, nI_add]
      refine rI_i (by have := hhi.2; omega) ⟨_, fun o l => s_pull (hO.2.trans hR) j i (by omega) (by omega), wI_i (by have := hhi.2; omega) ?_⟩
      rw [nI_add]
      refine ih (j + 1) i _ K (by omega) hi (hO.i (by simp)) (by rw [← h1]; simp [sI]) h2 (fun e v he hv => ?_) (fun s1 g1 g2 g3 g4 g5 => hK s1 g1 g2 g3 (by rw [g4]; simp [sI]) g5)
      rw [sI_get]
      by_cases z : e = j
      · subst z
        by_cases y : v = h i
        · subst y
          rw [if_pos ⟨rfl, rfl⟩, if_pos (by omega), hb e _ he hv, if_neg (by omega), (hO.1 24 (by decide)).1, hw e i he hi]
          show rowI _ i + wt e i = rowI _ i + (if h i = h i then wt e i else nI 0)
          rw [if_pos rfl]
        · rw [if_neg (by rintro ⟨-, q⟩; have := hhi.2; omega), if_pos (by omega), hb e _ he hv, if_neg (by omega)]
          show rowI _ i = rowI _ i + (if h i = v then wt e i else nI 0)
          rw [if_neg (Ne.symm y), show nI 0 = 0 from rfl, Int32.add_zero]
      · rw [if_neg (by rintro ⟨-, q⟩; have := hhi.2; omega), hb e _ he hv]
        by_cases y : e < j
        · rw [if_pos y, if_pos (by omega)]
        · rw [if_neg y, if_neg (by omega)]
  have outer : ∀ (m i : Nat) (s : gSt), i + m = N → Off [38, 40, 41] σ s → s.1 38 = σ.1 38 → s.2.1 38 7 = cst wt N h → (∀ v k, v < 30 → k < 32 → bt (s.1 40 v) k = (decide (k < i) && decide (h k = v))) → (∀ e v, e < N → v < 30 → s.1 41 (e * 30 + v) = rowI (fun i => if h i = v then wt e i else nI 0) i) → L_X0_measure_29 Q (fun s24 => Q s24) (m + 1) (nI i) s := by
    intro m
    induction m with
    | zero =>
      intro i s hi hO h1 h2 h3 h4
      obtain rfl : i = N := by omega
      rw [L_X0_measure_29, (hO.1 33 (by decide)).1, hsz]
      exact bq_t (nI_le (Nat.le_refl _) (by omega)) (q s hO h1 h2 h3 h4)
    | succ m ih =>
      intro i s hi hO h1 h2 h3 h4
      rw [L_X0_measure_29, (hO.1 33 (by decide)).1, hsz]
      have hi2 : i < N := by omega
      have hhi := hh i hi2
      refine bq_f (nI_ge (by omega) (by omega)) (rI_i (by omega) ?_)
      rw [(hO.1 34 (by decide)).1, hhi.1]
      refine rI_i hhi.2 (wI_i hhi.2 ⟨N + 1, inner N 0 i _ _ (by omega) hi2 (hO.i (by simp)) (by rw [← h1]; simp [sI]) h2 (fun e v he hv => ?_) (fun s1 g1 g2 g3 g4 g5 => ?_)⟩)
      · rw [sI_get, if_neg (by rintro ⟨q, -⟩; cases q), if_neg (Nat.not_lt_zero e)]
        exact h4 e v he hv
      · rw [nI_add]
        refine ih (i + 1) s1 (by omega) g1 g2 g3 (fun v k hv hk => ?_) g5
        rw [g4, sI_get]
        by_cases y : v = h i
        · subst y
          rw [if_pos ⟨rfl, rfl⟩, b_or, bt_one i (by omega) hk, h3 _ k hv hk]
          by_cases z : k = i
          · subst z; simp
          · have : decide (k < i + 1) = decide (k < i) := by rw [decide_eq_decide]; omega
            rw [this, decide_eq_false z, Bool.or_false]
        · rw [if_neg (fun z => y z.2), h3 v k hv hk]
          by_cases z : k = i
          · subst z
            rw [decide_eq_false (Ne.symm y), Bool.and_false, Bool.and_false]
          · have : decide (k < i + 1) = decide (k < i) := by rw [decide_eq_decide]; omega
            rw [this]
  unfold W_X0_measure
  refine ⟨_, fun o l => s_price hR h30 hsz (fun i hi => (hh i hi).1) (fun i hi => by have := (hh i hi).2; omega), ?_⟩
  refine fL_i (fun s1 hO1 hf1 => fun s2 hO2 hf2 => ⟨N + 1, outer N 0 s2 (by omega) ?_ ?_ ?_ (fun v k hv hk => ?_) (fun e v he hv => ?_)⟩)
  · exact ((Off.rf.l (ks := [38, 40, 41]) (by simp)).trans (hO1.mono (by simp))).trans (hO2.mono (by simp))
  · rw [(hO2.1 38 (by decide)).1, (hO1.1 38 (by decide)).1]; rfl
  · rw [(hO2.1 38 (by decide)).2, (hO1.1 38 (by decide)).2, sL_get, if_pos ⟨rfl, rfl⟩]
    unfold cst
    refine triS_cong (fun i j hj hi => ?_)
    rw [hw i j hi (by omega), hsy i j hi (by omega)]
    congr 1
    rw [decide_eq_decide]
    exact eq_comm
  · rw [(hO2.1 40 (by decide)).1, hf1, if_pos (show v < (lay 40).2 from hv), nI_0, b_0]
    simp
  · rw [hf2, if_pos (show e * 30 + v < (lay 41).2 by show e * 30 + v < 900; omega)]
    rfl
