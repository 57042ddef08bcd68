/-! near: the class -/
abbrev NRs := Option (Nat × (Nat → Nat))
def stN (n rm : Nat) (W : Nat → Nat → Int32) (A T H : Nat → Nat → Bool) (L : Nat) (x : NRs) (a : Nat → Nat) : NRs := if lwB 0 rm A T a n = true ∧ cSum W 0 a n ≤ L then (match x with
  | none => some (odN 2 H 0 a n, a)
  | some y => if odN 2 H 0 a n < y.1 then some (odN 2 H 0 a n, a) else some y) else x
theorem odN_pre {z s i n : Nat} {H : Nat → Nat → Bool} {a : Nat → Nat} (hi : i ≤ n) : odN z H s a i ≤ odN z H s a n := by
  unfold odN
  by_cases q : z = 2
  · rw [if_pos q, if_pos q]
    have := fb_sm_mono (fun i => if s ≤ i then fb_ct (fun j => decide (s ≤ j) && (decide (a j = a i) != H i j)) i else 0) i (n - i)
    rw [show i + (n - i) = n by omega] at this
    exact this
  · rw [if_neg q, if_neg q]; exact Nat.le_refl _
theorem odN_le {z s n : Nat} {H : Nat → Nat → Bool} {a : Nat → Nat} (hn : n ≤ 10) : odN z H s a n ≤ 100 := by
  unfold odN
  by_cases q : z = 2
  · rw [if_pos q]
    have : fb_sm (fun i => if s ≤ i then fb_ct (fun j => decide (s ≤ j) && (decide (a j = a i) != H i j)) i else 0) n ≤ n * 10 := fb_sm_bound (fun i hi => by
      by_cases y : s ≤ i
      · rw [if_pos y]
        have := fb_ct_le (fun j => decide (s ≤ j) && (decide (a j = a i) != H i j)) i
        omega
      · rw [if_neg y]; exact Nat.zero_le _)
    omega
  · rw [if_neg q]; exact Nat.zero_le _
def RelN (n L : Nat) (_ : Nat) (x : NRs) (t : gSt) : Prop := t.1 56 12 = nI L ∧ (x = none → t.1 56 2 = BIGN) ∧ (∀ f a, x = some (f, a) → t.1 56 2 = nI f ∧ f ≤ 100 ∧ ∀ j, j < n → t.1 61 j = nI (lp 0 a (a j)))
theorem okN {n rm L : Nat} {W : Nat → Nat → Int32} {A T H : Nat → Nat → Bool} (hn : n ≤ 10) (hL : L ≤ 100000000) (hW : ∀ i j, j < i → i < n → okW (W i j)) : dfOK (RelN n L) (stN n rm W A T H L) 0 n rm 2 W A T H (rS n rm W A T) := by
  have hb : ∀ (a : Nat → Nat) (i : Nat), i ≤ n → cSum W 0 a i ≤ 90000000 := fun a i hi => cSum_le (by omega) (fun i2 j h1 h2 => hW i2 j h1 (by omega))
  refine ⟨?_, ?_, ?_, ?_⟩
  · rintro B x t t2 ⟨h1, h2, h3⟩ hO hk hl
    refine ⟨(hk 12 (by decide)).trans h1, fun e => (hk 2 (by decide)).trans (h2 e), fun f a e => ?_⟩
    rw [hk 2 (by decide), (hO.1 61 (by decide)).1]
    exact h3 f a e
  · rintro B x t i a ⟨h1, h2, h3⟩ hsi hin hcond b hb1 hlw
    have hsame : stN n rm W A T H L x b = x := by
      have e1 : cSum W 0 b i = cSum W 0 a i := cSum_cong (fun j j1 j2 => hb1 j j1 j2)
      have e2 := cSum_end (W := W) (s := 0) (i := i) (n := n) (a := b) (by omega) hin
      have e3 := rS_le (W := W) hin (lwB_end (show 0 ≤ i by omega) hlw)
      have e4 := rS_big (rm := rm) (A := A) (T := T) hin hn hW
      have e5 := hb a i hin
      rcases hcond with hq | hq
      · rw [h1, nI_add, nI_ltI (by omega) (by omega)] at hq
        exact if_neg (fun w => by omega)
      · have e6 : odN 2 H 0 b i = odN 2 H 0 a i := odN_cong (fun j j1 j2 => hb1 j j1 j2)
        have e7 := odN_pre (z := 2) (s := 0) (H := H) (a := b) hin
        have e8 := odN_le (z := 2) (s := 0) (H := H) (a := a) (n := i) (by omega)
        cases x with
        | none =>
          exfalso
          rw [h2 rfl, BIGN_nI, nI_leI (by omega) (by omega)] at hq
          omega
        | some y =>
          obtain ⟨k1, k2, _⟩ := h3 y.1 y.2 rfl
          rw [k1, nI_leI (by omega) (by omega)] at hq
          unfold stN
          split
          · have : ¬ odN 2 H 0 b n < y.1 := by omega
            simp only [this, if_false]
          · rfl
    rw [hsame]
    exact ⟨h1, h2, h3⟩
  · rintro B x t b ⟨h1, h2, h3⟩ hlw
    rw [show stN n rm W A T H L x b = x from if_neg (fun w => by rw [hlw] at w; exact absurd w.1 (by decide))]
    exact ⟨h1, h2, h3⟩
  · rintro B x t a Q ⟨h1, h2, h3⟩ hC hlw hp1 hp2 h60 hQ
    have e0 : rS n rm W A T n = 0 := by unfold rS; rw [mnS_end]; rfl
    have e5 := hb a n (Nat.le_refl _)
    have e8 := odN_le (z := 2) (s := 0) (H := H) (a := a) hn
    have ec : cSum W 0 a n ≤ L := by
      rw [h1, e0, nI_add, nI_ltI (by omega) (by omega)] at hp1
      omega
    have est : stN n rm W A T H L x a = some (odN 2 H 0 a n, a) := by
      unfold stN
      rw [if_pos ⟨hlw, ec⟩]
      cases x with
      | none => rfl
      | some y =>
        obtain ⟨k1, k2, _⟩ := h3 y.1 y.2 rfl
        rw [k1, nI_leI (by omega) (by omega)] at hp2
        have : odN 2 H 0 a n < y.1 := by omega
        simp only [this, if_true]
    unfold W_X10_record
    rw [hC.2.2.2.2.2.2.2.1]
    refine bq_f (by decide) ?_
    intro J3 hJ3 J13 hJ13
    refine bq_t rfl (hJ13 ⟨0, 0, 10, rfl, rfl, rfl, by decide, by decide, ?_⟩)
    rintro s rfl
    refine hJ3 _ (bq_t (by rw [sC_get, if_neg (by decide)]; exact hC.2.2.2.2.2.2.2.1) (fI_i ?_))
    generalize hodn : odN 2 H 0 a n = od at *
    refine hQ _ ⟨fun k hk => ⟨?_, rfl⟩, rfl⟩ (fun j hj => ?_) ?_
    · have k1 : ¬ k = 61 := fun w => hk (by rw [w]; simp)
      have k2 : ¬ k = 56 := fun w => hk (by rw [w]; simp)
      simp only [sC, if_neg k1, sI, if_neg k2]
    · simp only [List.mem_cons, List.not_mem_nil, or_false] at hj
      rw [sI_get, if_neg (by omega), sC_get, if_neg (by decide)]
    · rw [est]
      refine ⟨?_, fun e => (by cases e), fun f a2 e => ?_⟩
      · rw [sI_get, if_neg (by omega), sC_get, if_neg (by decide)]; exact h1
      · simp only [Option.some.injEq, Prod.mk.injEq] at e
        obtain ⟨rfl, rfl⟩ := e
        refine ⟨?_, e8, fun j hj => ?_⟩
        · rw [sI_get, if_pos ⟨rfl, rfl⟩]
        · rw [sI_get, if_neg (by omega), sC_get, if_pos rfl, va_cpy, ← h60 j (Nat.zero_le _) hj]
          simp
          omega
def nrA (n rm : Nat) (W : Nat → Nat → Int32) (A T H : Nat → Nat → Bool) (L : Nat) : NRs := (lvs n 0 0 (fun _ => 0)).foldl (stN n rm W A T H L) none
/-- which places are together in the hand -/
def hdH (hd : Nat → Nat) (p : Nat → Bool) (N i j : Nat) : Bool := decide (hd (memP p N i) = hd (memP p N j))
theorem p_lookAt {σ : gSt} {p : Nat → Bool} {N : Nat} {hd : Nat → Nat} (h30 : N ≤ 30) (hn : fa_cnt p N ≤ 10) (h0 : σ.1 50 0 = nI (fa_cnt p N)) (h51 : ∀ i, i < fa_cnt p N → σ.1 51 i = nI (memP p N i)) (h34 : ∀ e, e < N → σ.1 34 e = nI (hd e) ∧ hd e < 1000) {Q : gSt → Prop} (q : ∀ t, Off [55] σ t → (∀ i k, i < fa_cnt p N → k < 32 → bt (t.1 55 i) k = (decide (k < fa_cnt p N) && decide (k ≠ i) && hdH hd p N i k)) → Q t) : W_X5_lookAt 34 Q σ := by
  generalize hnn : fa_cnt p N = n at *
  have hmem : ∀ i, i < n → memP p N i < N := fun i hi => (memP_in (by omega)).1
  have inner : ∀ (m j i : Nat) (s : gSt) (K : gSt → Prop), j + m = i → i < n → Off [55] σ s → (∀ a c, a < 10 → c < 32 → bt (s.1 55 a) c = (prD i j a c && hdH hd p N a c)) → (∀ s1, Off [55] σ s1 → (∀ a c, a < 10 → c < 32 → bt (s1.1 55 a) c = (prD i i a c && hdH hd p N a c)) → K s1) → L_X5_lookAt_20 34 Q (nI i) K (m + 1) (nI j) s := by
    intro m
    induction m with
    | zero =>
      intro j i s K hj hi hO hb hK
      obtain rfl : j = i := by omega
      rw [L_X5_lookAt_20]
      exact bq_t (nI_le (Nat.le_refl _) (by omega)) (hK s hO hb)
    | succ m ih =>
      intro j i s K hj hi hO hb hK
      rw [L_X5_lookAt_20]
      have mi := hmem i hi
      have mj := hmem j (by omega)
      refine bq_f (nI_ge (by omega) (by omega)) (rI_i (by omega) ?_)
      rw [(hO.1 51 (by decide)).1, h51 i hi]
      refine rI_i (show memP p N i < 30 by omega) (rI_i (by omega) ?_)
      rw [(hO.1 51 (by decide)).1, h51 j (by omega)]
      refine rI_i (show memP p N j < 30 by omega) ?_
      rw [(hO.1 34 (by decide)).1, (h34 _ mi).1, (h34 _ mj).1]
      refine jn_z (hdH hd p N i j) (by unfold hdH; rw [decide_eq_true_iff, nI_eq (by have := (h34 _ mi).2; omega) (by have := (h34 _ mj).2; omega)]) ?_
      refine ⟨_, fun o l => s_setBit (by decide) (len := 10) rfl (by omega) (by omega) (by decide), fun r s2 hp => ⟨hp.1, hp.2.1.2, ?_⟩⟩
      show L_X5_lookAt_20 34 Q (nI i) K (m + 1) (nI j + nI 1) s2
      rw [nI_add]
      refine ih (j + 1) i s2 K (by omega) hi (hO.trans hp.2.1) (fun a c ha hc => ?_) hK
      rw [hp.2.2 a c hc, hb a c ha hc]
      by_cases z : (a = i ∧ c = j) ∨ (a = j ∧ c = i)
      · rw [if_pos z]
        have : prD i (j + 1) a c = true := by unfold prD; simp only [decide_eq_true_iff]; omega
        rw [this, Bool.true_and]
        rcases z with ⟨rfl, rfl⟩ | ⟨rfl, rfl⟩
        · rfl
        · unfold hdH; rw [decide_eq_decide]; exact eq_comm
      · rw [if_neg z]
        have : prD i (j + 1) a c = prD i j a c := by unfold prD; rw [decide_eq_decide]; omega
        rw [this]
  have outer : ∀ (m i : Nat) (s : gSt), n ≤ i + m → i ≤ max n 1 → 1 ≤ i → Off [55] σ s → (∀ a c, a < 10 → c < 32 → bt (s.1 55 a) c = (prD i 0 a c && hdH hd p N a c)) → L_X5_lookAt_10 34 Q (fun s22 => Q s22) (m + 1) (nI i) s := by
    intro m
    have done : ∀ (i : Nat) (s : gSt), n ≤ i → i ≤ max n 1 → Off [55] σ s → (∀ a c, a < 10 → c < 32 → bt (s.1 55 a) c = (prD i 0 a c && hdH hd p N a c)) → Q s := by
      intro i s hle hi hO hb
      refine q s hO (fun a c ha hc => ?_)
      rw [hb a c (by omega) hc]
      congr 1
      unfold prD
      rw [← Bool.decide_and, decide_eq_decide]
      omega
    induction m with
    | zero =>
      intro i s hle hi h1i hO hb
      rw [L_X5_lookAt_10, (hO.1 50 (by decide)).1, h0]
      exact bq_t (nI_le (by omega) (by omega)) (done i s (by omega) hi hO hb)
    | succ m ih =>
      intro i s hle hi h1i hO hb
      rw [L_X5_lookAt_10, (hO.1 50 (by decide)).1, h0, nI_add]
      by_cases hlt : i < n
      · refine bq_f (nI_ge hlt (by omega)) ⟨i + 1, inner i 0 i s _ (by omega) hlt hO hb (fun s1 hO1 hb1 => ih (i + 1) s1 (by omega) (by omega) (by omega) hO1 (fun a c ha hc => ?_))⟩
        rw [hb1 a c ha hc]
        congr 1
        unfold prD
        rw [decide_eq_decide]
        omega
      · exact bq_t (nI_le (by omega) (by omega)) (done i s (by omega) hi hO hb)
  unfold W_X5_lookAt
  intro s hO hf
  refine ⟨n + 1, outer n 1 s (by omega) (by omega) (Nat.le_refl _) hO (fun a c ha hc => ?_)⟩
  have : prD 1 0 a c = false := by unfold prD; simp only [decide_eq_false_iff_not]; omega
  rw [hf, if_pos (show a < (lay 55).2 from ha), nI_0, b_0, this, Bool.false_and]
theorem p_approach {σ : gSt} {n rm c m : Nat} {W : Nat → Nat → Int32} {A T H : Nat → Nat → Bool} (hL : ldC σ n rm W A T) (hn1 : 1 ≤ n) (hn : n ≤ 10) (hrm : rm < 1000) (hc : c ≤ 90000000) (hm : m ≤ 100000) (hW : ∀ i j, j < i → i < n → okW (W i j)) (h10 : σ.1 56 10 = nI 0) (h0 : σ.1 56 0 = nI c) (h11 : σ.1 56 11 = nI 0) (h2 : σ.1 56 2 = BIGN) (h57 : ∀ i, 0 < i → i ≤ n → σ.1 57 i = nI (rS n rm W A T i)) (h55 : ∀ i k, i < n → k < 32 → bt (σ.1 55 i) k = (decide (k < n) && decide (k ≠ i) && H i k)) {Q : gSt → Prop}
    (q : ∀ t, Off [56, 58, 59, 60, 61, 62] σ t → t.1 56 10 = nI 0 → RelN n (c + m) 0 (nrA n rm W A T H (c + m)) t → Q t) : W_X10_approach (nI m) Q σ := by
  unfold W_X10_approach
  refine fI_i (fI_i ?_)
  have e0 : (sI σ 56 13 (nI 2)).1 56 0 = nI c := by rw [sI_get, if_neg (by omega)]; exact h0
  rw [e0, nI_add]
  generalize hu : sI (sI σ 56 13 (nI 2)) 56 12 (nI (c + m)) = u
  have fu : Off [56] σ u := by rw [← hu]; exact (Off.rf.i (by simp)).i (by simp)
  have u56 : ∀ j, u.1 56 j = if j = 12 then nI (c + m) else if j = 13 then nI 2 else σ.1 56 j := fun j => by
    rw [← hu, sI_get]
    by_cases q : j = 12
    · rw [if_pos ⟨rfl, q⟩, if_pos q]
    · rw [if_neg (fun w => q w.2), if_neg q, sI_get]
      by_cases q2 : j = 13
      · rw [if_pos ⟨rfl, q2⟩, if_pos q2]
      · rw [if_neg (fun w => q2 w.2), if_neg q2]
  have hLu := hL.fr fu (by decide)
  have hC : dfC u 0 n rm 2 W A T H (rS n rm W A T) := ⟨hLu.1, hLu.2.1, hLu.2.2.1, hLu.2.2.2.1, hLu.2.2.2.2, fun _ => by rw [(fu.1 55 (by decide)).1]; exact h55, by rw [u56]; exact h11, by rw [u56]; rfl, fun i h1 h2 => by rw [(fu.1 57 (by decide)).1]; exact h57 i h1 h2⟩
  have hN : dfN u 0 0 0 (fun _ => 0) := ⟨by rw [u56]; exact h10, fun k hk => by omega, fun k hk => by omega, fun j h1 h2 => by omega⟩
  have hp := df_place (okN (L := c + m) (rm := rm) (A := A) (T := T) (H := H) hn (by omega) hW) hn (by omega) hrm (by decide) hW n 24 0 0 (fun _ => 0) 0 none u (fun s6 => Q s6) (by omega) (by omega) (Nat.le_refl _) hC hN ⟨by rw [u56]; rfl, fun _ => by rw [u56]; exact h2, fun f a e => (by cases e)⟩ (canA_0 0 _) lwB_0 (fun q => absurd q (Nat.lt_irrefl _)) (fun t3 f3 hN3 hx3 => q t3 ((fu.mono (by simp)).trans f3.1) hN3.1 hx3)
  rw [cSum_0, odN_0, pmL_0] at hp
  exact hp
