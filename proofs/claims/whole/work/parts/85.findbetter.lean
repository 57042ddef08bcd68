/-! the reference: the best change by trying each -/
def mdB (N : Nat) (t : gSt) (s : BS) : Prop := t.2.1 65 51 = s.1 ∧ t.1 65 50 = zI s.2.2.2.2.2 ∧ (s.2.2.2.2.2 = true → t.1 65 52 = s.2.1 ∧ t.1 65 53 = s.2.2.1 ∧ t.1 65 54 = s.2.2.2.1 ∧ ∀ i, i < N → t.1 99 i = nI (s.2.2.2.2.1 i) ∧ s.2.2.2.2.1 i < 1000)
def mdX (t : gSt) (N most : Nat) (h : Nat → Nat) (wt : Nat → Nat → Int32) (nv ti ap : Nat → Nat → Bool) : Prop := t.1 65 1 = nI N ∧ t.1 65 41 = nI most ∧ pwM t N wt nv ti ap ∧ ∀ i, i < N → t.1 71 i = nI (h i)
abbrev FM (t t2 : gSt) : Prop := Fr [97, 99] [50, 51, 52, 53, 54] t t2
theorem mdX.fr {t t2 : gSt} {N most : Nat} {h : Nat → Nat} {wt : Nat → Nat → Int32} {nv ti ap : Nat → Nat → Bool} (hX : mdX t N most h wt nv ti ap) (f : FM t t2) : mdX t2 N most h wt nv ti ap := by
  obtain ⟨h1, h2, h3, h4⟩ := hX
  refine ⟨(f.2.1 1 (by decide)).1.trans h1, (f.2.1 41 (by decide)).1.trans h2, h3.fr f (by decide), fun i hi => ?_⟩
  rw [(f.1 71 (by decide) (by decide)).1]
  exact h4 i hi
theorem p_tries {t : gSt} {N most : Nat} {h : Nat → Nat} {wt : Nat → Nat → Int32} {nv ti ap : Nat → Nat → Bool} (h30 : N ≤ 30) (hm30 : most ≤ 30) (hS : pwS N wt nv ti ap) (hX : mdX t N most h wt nv ti ap) {f : Nat → Nat} (hf : ∀ i, i < N → t.1 97 i = nI (f i) ∧ f i < 1000) {s : BS} (hB : mdB N t s) {so x y : Int32} {Q : gSt → Prop} (q : ∀ t2, FM t t2 → mdB N t2 (bTry N most wt ap ti so x y f s) → Q t2) : W_X12_tries so x y Q t := by
  unfold W_X12_tries
  refine p_barredIn (h := f) (ap := ap) (ti := ti) (most := most) h30 hX.1 hX.2.1 hm30 rfl hf (fun a c hac hc => ⟨(hX.2.2.1 a c (by omega) hc (by omega)).2.2.2, (hX.2.2.1 a c (by omega) hc (by omega)).2.2.1⟩) ?_
  have hle := fa_first_le (fun e => offM ap ti f most e) N
  by_cases hlt : fa_first (fun e => offM ap ti f most e) N < N
  · rw [if_pos hlt]
    refine bq_f (nI_nm1 (by omega)) (q t Fr.rf ?_)
    unfold bTry
    rw [if_neg (fun z => by omega)]
    exact hB
  · rw [if_neg hlt]
    have heq : fa_first (fun e => offM ap ti f most e) N = N := by omega
    refine bq_t rfl (p_costOf h30 hX.1 rfl hf (wt := wt) (fun a c hac hc => ⟨(hX.2.2.1 a c (by omega) hc (by omega)).1, (hS a c (by omega) hc (by omega)).2.2.2.2.1⟩) ?_)
    show (cst wt N f < t.2.1 65 51 → _) ∧ (¬ cst wt N f < t.2.1 65 51 → _)
    rw [hB.1]
    refine ⟨fun z => ?_, fun z => ?_⟩
    · have e1 : bTry N most wt ap ti so x y f s = (cst wt N f, so, x, y, f, true) := if_pos ⟨heq, z⟩
      rw [e1] at q
      refine fZ_i (.inr rfl) (fL_i (fI_i (fI_i (fI_i ?_))))
      show ∃ n, L_X12_tries_63 Q (fun s17 => Q s17) n (nI 0) (sI (sI (sI (sL (sI t 65 50 (nI 1)) 65 51 (cst wt N f)) 65 52 so) 65 53 x) 65 54 y)
      generalize hu : sI (sI (sI (sL (sI t 65 50 (nI 1)) 65 51 (cst wt N f)) 65 52 so) 65 53 x) 65 54 y = u
      have f0 : FM t u := by
        rw [← hu]
        exact ((((Fr.rf.f (by simp)).g (by simp)).f (by simp)).f (by simp)).f (by simp)
      have u51 : u.2.1 65 51 = cst wt N f := by rw [← hu]; simp [sI_get2, sL_get]
      have u50 : u.1 65 50 = nI 1 := by rw [← hu]; simp [sI_get, sL_get1]
      have u52 : u.1 65 52 = so := by rw [← hu]; simp [sI_get, sL_get1]
      have u53 : u.1 65 53 = x := by rw [← hu]; simp [sI_get, sL_get1]
      have u54 : u.1 65 54 = y := by rw [← hu]; simp [sI_get, sL_get1]
      have lp : ∀ (m i : Nat) (t1 : gSt), i + m = N → Off [99] u t1 → (∀ j, j < i → t1.1 99 j = nI (f j)) → L_X12_tries_63 Q (fun s17 => Q s17) (m + 1) (nI i) t1 := by
        intro m
        induction m with
        | zero =>
          intro i t1 hi hO hb
          obtain rfl : i = N := by omega
          rw [L_X12_tries_63, (hO.1 65 (by decide)).1, (f0.2.1 1 (by decide)).1, hX.1]
          refine bq_t (nI_le (Nat.le_refl _) (by omega)) (q t1 (f0.trans ((Fr.of (js := []) hO (by decide)).mono (by simp) (by simp))) ⟨?_, ?_, fun _ => ⟨?_, ?_, ?_, fun j hj => ⟨hb j hj, (hf j hj).2⟩⟩⟩)
          · rw [(hO.1 65 (by decide)).2]; exact u51
          · rw [(hO.1 65 (by decide)).1]; exact u50
          · rw [(hO.1 65 (by decide)).1]; exact u52
          · rw [(hO.1 65 (by decide)).1]; exact u53
          · rw [(hO.1 65 (by decide)).1]; exact u54
        | succ m ih =>
          intro i t1 hi hO hb
          rw [L_X12_tries_63, (hO.1 65 (by decide)).1, (f0.2.1 1 (by decide)).1, hX.1]
          refine bq_f (nI_ge (by omega) (by omega)) (rI_i (by omega) (wI_i (by omega) ?_))
          rw [nI_add]
          refine ih (i + 1) _ (by omega) (hO.i (by simp)) (fun j hj => ?_)
          rw [sI_get]
          by_cases z : j = i
          · subst z
            rw [if_pos ⟨rfl, rfl⟩, (hO.1 97 (by decide)).1, ← (hf j (by omega)).1, ← hu]
            simp [sI, sL]
          · rw [if_neg (fun w => z w.2)]
            exact hb j (by omega)
      exact ⟨N + 1, lp N 0 u (by omega) Off.rf (fun j hj => absurd hj (Nat.not_lt_zero j))⟩
    · refine q t Fr.rf ?_
      unfold bTry
      rw [if_neg (fun w => z w.2)]
      exact hB
theorem p_copyHand {t : gSt} {N : Nat} {h : Nat → Nat} (h30 : N ≤ 30) (hN : t.1 65 1 = nI N) (h71 : ∀ i, i < N → t.1 71 i = nI (h i)) {Q : gSt → Prop} (q : ∀ t2, Off [97] t t2 → (∀ i, i < N → t2.1 97 i = nI (h i)) → Q t2) : W_X12_copyHand 97 Q t := by
  have lp : ∀ (m i : Nat) (t1 : gSt), i + m = N → Off [97] t t1 → (∀ j, j < i → t1.1 97 j = nI (h j)) → L_X12_copyHand_2 97 Q (fun s8 => Q s8) (m + 1) (nI i) t1 := by
    intro m
    induction m with
    | zero =>
      intro i t1 hi hO hb
      obtain rfl : i = N := by omega
      rw [L_X12_copyHand_2, (hO.1 65 (by decide)).1, hN]
      exact bq_t (nI_le (Nat.le_refl _) (by omega)) (q t1 hO hb)
    | succ m ih =>
      intro i t1 hi hO hb
      rw [L_X12_copyHand_2, (hO.1 65 (by decide)).1, hN]
      refine bq_f (nI_ge (by omega) (by omega)) (rI_i (by omega) (wI_i (show i < 30 by omega) ?_))
      rw [nI_add]
      refine ih (i + 1) _ (by omega) (hO.i (by simp)) (fun j hj => ?_)
      rw [sI_get]
      by_cases z : j = i
      · subst z
        rw [if_pos ⟨rfl, rfl⟩, (hO.1 71 (by decide)).1]
        exact h71 j (by omega)
      · rw [if_neg (fun w => z w.2)]
        exact hb j (by omega)
  unfold W_X12_copyHand
  exact ⟨N + 1, lp N 0 t (by omega) Off.rf (fun j hj => absurd hj (Nat.not_lt_zero j))⟩
theorem mdB.fr {t t2 : gSt} {N : Nat} {s : BS} (hB : mdB N t s) (h65 : t2.1 65 = t.1 65 ∧ t2.2.1 65 = t.2.1 65) (h99 : t2.1 99 = t.1 99) : mdB N t2 s := by
  unfold mdB at hB ⊢
  rw [h65.1, h65.2, h99]
  exact hB
theorem p_findBetter {σ : gSt} {N most : Nat} {h : Nat → Nat} {wt : Nat → Nat → Int32} {nv ti ap : Nat → Nat → Bool} (h30 : N ≤ 30) (hm30 : most ≤ 30) (hS : pwS N wt nv ti ap) (hX0 : mdX σ N most h wt nv ti ap) (hh : ∀ i, i < N → h i ≤ i) {Q : Int32 → gSt → Prop} (q : ∀ t2, FM σ t2 → mdB N t2 (bAll N most wt ap ti h) → Q (zI (bAll N most wt ap ti h).2.2.2.2.2) t2) : W_X12_findBetter Q σ := by
  have hb : ∀ i, i < N → h i < 1000 := fun i hi => by have := hh i hi; omega
  have f97 : ∀ {t t2 : gSt}, Off [97] t t2 → FM t t2 := fun hO => (Fr.of (js := []) hO (by decide)).mono (by simp) (by simp)
  have goK : ∀ (m v e : Nat) (s : BS) (t : gSt) (K : gSt → Prop), v + m = N → e < N → mdX t N most h wt nv ti ap → mdB N t s → (∀ t2, FM t t2 → mdB N t2 (bGoK N most wt ap ti h e m v s) → K t2) → L_X12_findBetter_29 Q (nI e) K (m + 1) (nI v) t := by
    intro m
    induction m with
    | zero =>
      intro v e s t K hv he hX hB hK
      obtain rfl : v = N := by omega
      rw [L_X12_findBetter_29, hX.1]
      exact bq_t (nI_le (Nat.le_refl _) (by omega)) (hK t Fr.rf hB)
    | succ m ih =>
      intro v e s t K hv he hX hB hK
      rw [bGoK] at hK
      rw [L_X12_findBetter_29, hX.1]
      refine bq_f (nI_ge (by omega) (by omega)) (rI_i (by omega) ?_)
      rw [hX.2.2.2 v (by omega), nI_add]
      refine br_eq (by have := hh v (by omega); omega) (by omega) (fun z => rI_i (by omega) ?_) (fun z => ?_)
      · rw [hX.2.2.2 e he]
        refine br_eq (by omega) (by have := hh e he; omega) (fun w => ?_) (fun w => ?_)
        · rw [if_neg (fun y => y.2 w)] at hK
          exact ih (v + 1) e s t K (by omega) he hX hB hK
        · rw [if_pos ⟨z, w⟩] at hK
          refine p_copyHand h30 hX.1 hX.2.2.2 (fun t1 hO1 h97 => wI_i (by omega) ?_)
          have f1 : FM t (sI t1 97 e (nI v)) := (f97 hO1).i (by simp) (by decide)
          refine p_tries h30 hm30 hS (hX.fr f1) (f := upN h e v) (fun i hi => ?_) (hB.fr (by constructor <;> (try simp only [sI, if_neg (show ¬ (65 : Nat) = 97 by decide)]) <;> first | exact (hO1.1 65 (by decide)).1 | exact (hO1.1 65 (by decide)).2) (by simp only [sI, if_neg (show ¬ (99 : Nat) = 97 by decide)]; exact (hO1.1 99 (by decide)).1)) (fun t2 f2 hB2 => ih (v + 1) e _ t2 K (by omega) he ((hX.fr f1).fr f2) hB2 (fun t3 f3 => hK t3 ((f1.trans f2).trans f3)))
          rw [sI_get]
          unfold upN
          by_cases y : i = e
          · subst y; rw [if_pos ⟨rfl, rfl⟩, if_pos rfl]; exact ⟨rfl, by omega⟩
          · rw [if_neg (fun w2 => y w2.2), if_neg y]; exact ⟨h97 i hi, hb i hi⟩
      · rw [if_neg (fun y => z y.1)] at hK
        exact ih (v + 1) e s t K (by omega) he hX hB hK
  have goL : ∀ (m e : Nat) (s : BS) (t : gSt) (K : gSt → Prop), e + m = N → mdX t N most h wt nv ti ap → mdB N t s → (∀ t2, FM t t2 → mdB N t2 (bGo N most wt ap ti h m e s) → K t2) → L_X12_findBetter_19 Q K (m + 1) (nI e) t := by
    intro m
    induction m with
    | zero =>
      intro e s t K he hX hB hK
      obtain rfl : e = N := by omega
      rw [L_X12_findBetter_19, hX.1]
      exact bq_t (nI_le (Nat.le_refl _) (by omega)) (hK t Fr.rf hB)
    | succ m ih =>
      intro e s t K he hX hB hK
      rw [bGo] at hK
      have heN : e < N := by omega
      rw [L_X12_findBetter_19, hX.1]
      refine bq_f (nI_ge (by omega) (by omega)) ⟨N + 1, goK N 0 e s t _ (by omega) heN hX hB (fun t1 f1 hB1 => ?_)⟩
      have hX1 := hX.fr f1
      refine rI_i (by omega) ?_
      rw [hX1.2.2.2 e heN, nI_add]
      refine p_sizeOf h30 hX1.1 (fun i hi => ⟨hX1.2.2.2 i hi, hb i hi⟩) (hb e heN) ?_
      have hcl := fa_cnt_le (fun i => decide (h i = h e)) N
      refine br_eq (by omega) (by decide) (fun z => ?_) (fun z => ?_)
      · refine ih (e + 1) _ t1 K (by omega) hX1 hB1 (fun t2 f2 hB2 => hK t2 (f1.trans f2) ?_)
        unfold bAl
        rw [if_pos z]
        exact hB2
      · refine p_copyHand h30 hX1.1 hX1.2.2.2 (fun t2 hO2 h97 => ?_)
        unfold W_X12_fresh
        rw [nI_add]
        refine wI_i (by omega) ?_
        have f2 : FM t1 (sI t2 97 e (nI (100 + e))) := (f97 hO2).i (by simp) (by decide)
        refine p_tries h30 hm30 hS (hX1.fr f2) (f := upN h e (100 + e)) (fun i hi => ?_) (hB1.fr (by constructor <;> (try simp only [sI, if_neg (show ¬ (65 : Nat) = 97 by decide)]) <;> first | exact (hO2.1 65 (by decide)).1 | exact (hO2.1 65 (by decide)).2) (by simp only [sI, if_neg (show ¬ (99 : Nat) = 97 by decide)]; exact (hO2.1 99 (by decide)).1)) (fun t3 f3 hB3 => ih (e + 1) _ t3 K (by omega) ((hX1.fr f2).fr f3) hB3 (fun t4 f4 hB4 => hK t4 (((f1.trans f2).trans f3).trans f4) ?_))
        · rw [sI_get]
          unfold upN
          by_cases y : i = e
          · subst y; rw [if_pos ⟨rfl, rfl⟩, if_pos rfl]; exact ⟨rfl, by omega⟩
          · rw [if_neg (fun w2 => y w2.2), if_neg y]; exact ⟨h97 i hi, hb i hi⟩
        · unfold bAl
          rw [if_neg z]
          exact hB4
  have joK : ∀ (m c a : Nat) (s : BS) (t : gSt) (K : gSt → Prop), c + m = N → a < c → mdX t N most h wt nv ti ap → mdB N t s → (∀ t2, FM t t2 → mdB N t2 (bJoK N most wt ap ti h a m c s) → K t2) → L_X12_findBetter_150 Q (nI a) K (m + 1) (nI c) t := by
    intro m
    induction m with
    | zero =>
      intro c a s t K hc ha hX hB hK
      obtain rfl : c = N := by omega
      rw [L_X12_findBetter_150, hX.1]
      exact bq_t (nI_le (Nat.le_refl _) (by omega)) (hK t Fr.rf hB)
    | succ m ih =>
      intro c a s t K hc ha hX hB hK
      rw [bJoK] at hK
      rw [L_X12_findBetter_150, hX.1]
      refine bq_f (nI_ge (by omega) (by omega)) (rI_i (by omega) ?_)
      rw [hX.2.2.2 a (by omega), nI_add]
      refine br_eq (by have := hh a (by omega); omega) (by omega) (fun z => rI_i (by omega) ?_) (fun z => ?_)
      · rw [hX.2.2.2 c (by omega)]
        refine br_eq (by have := hh c (by omega); omega) (by omega) (fun w => ?_) (fun w => ?_)
        · rw [if_pos ⟨z, w⟩] at hK
          refine p_copyHand h30 hX.1 hX.2.2.2 (fun t1 hO1 h97 => ?_)
          have hX1 := hX.fr (f97 hO1)
          refine p_joins h30 hX1.1 rfl (by decide) (by omega) (by omega) (fun i hi => ⟨h97 i hi, hb i hi⟩) (fun t2 hO2 h97b => ?_)
          have hO3 := hO1.trans hO2
          have f1 : FM t t2 := f97 hO3
          refine p_tries h30 hm30 hS (hX.fr f1) (f := fun k => if h k = c then a else h k) (fun i hi => ⟨h97b i hi, by
            show (if h i = c then a else h i) < 1000
            split
            · omega
            · exact hb i hi⟩) (hB.fr ⟨(hO3.1 65 (by decide)).1, (hO3.1 65 (by decide)).2⟩ (hO3.1 99 (by decide)).1) (fun t3 f3 hB3 => ih (c + 1) a _ t3 K (by omega) (by omega) ((hX.fr f1).fr f3) hB3 (fun t4 f4 => hK t4 ((f1.trans f3).trans f4)))
        · rw [if_neg (fun y => w y.2)] at hK
          exact ih (c + 1) a s t K (by omega) (by omega) hX hB hK
      · rw [if_neg (fun y => z y.1)] at hK
        exact ih (c + 1) a s t K (by omega) (by omega) hX hB hK
  have joL : ∀ (m a : Nat) (s : BS) (t : gSt) (K : gSt → Prop), a + m = N → mdX t N most h wt nv ti ap → mdB N t s → (∀ t2, FM t t2 → mdB N t2 (bJo N most wt ap ti h m a s) → K t2) → L_X12_findBetter_138 Q K (m + 1) (nI a) t := by
    intro m
    induction m with
    | zero =>
      intro a s t K ha hX hB hK
      obtain rfl : a = N := by omega
      rw [L_X12_findBetter_138, hX.1]
      exact bq_t (nI_le (Nat.le_refl _) (by omega)) (hK t Fr.rf hB)
    | succ m ih =>
      intro a s t K ha hX hB hK
      rw [bJo] at hK
      rw [L_X12_findBetter_138, hX.1, nI_add]
      exact bq_f (nI_ge (by omega) (by omega)) ⟨N - (a + 1) + 1, joK (N - (a + 1)) (a + 1) a s t _ (by omega) (by omega) hX hB (fun t2 f2 hB2 => ih (a + 1) _ t2 K (by omega) (hX.fr f2) hB2 (fun t3 f3 => hK t3 (f2.trans f3)))⟩
  have swK : ∀ (m c a : Nat) (s : BS) (t : gSt) (K : gSt → Prop), c + m = N → a < c → mdX t N most h wt nv ti ap → mdB N t s → (∀ t2, FM t t2 → mdB N t2 (bSwK N most wt ap ti h a m c s) → K t2) → L_X12_findBetter_232 Q (nI a) K (m + 1) (nI c) t := by
    intro m
    induction m with
    | zero =>
      intro c a s t K hc ha hX hB hK
      obtain rfl : c = N := by omega
      rw [L_X12_findBetter_232, hX.1]
      exact bq_t (nI_le (Nat.le_refl _) (by omega)) (hK t Fr.rf hB)
    | succ m ih =>
      intro c a s t K hc ha hX hB hK
      rw [bSwK] at hK
      rw [L_X12_findBetter_232, hX.1]
      refine bq_f (nI_ge (by omega) (by omega)) (rI_i (by omega) (rI_i (by omega) ?_))
      rw [hX.2.2.2 a (by omega), hX.2.2.2 c (by omega), nI_add]
      refine br_eq (by have := hh a (by omega); omega) (by have := hh c (by omega); omega) (fun z => ?_) (fun z => ?_)
      · rw [if_pos z] at hK
        exact ih (c + 1) a s t K (by omega) (by omega) hX hB hK
      · rw [if_neg z] at hK
        refine p_copyHand h30 hX.1 hX.2.2.2 (fun t1 hO1 h97 => rI_i (by omega) ?_)
        rw [(hO1.1 71 (by decide)).1, hX.2.2.2 c (by omega)]
        refine wI_i (by omega) (rI_i (by omega) ?_)
        rw [show (sI t1 97 a (nI (h c))).1 71 a = nI (h a) by rw [sI_get, if_neg (by rintro ⟨w, -⟩; cases w), (hO1.1 71 (by decide)).1, hX.2.2.2 a (by omega)]]
        refine wI_i (by omega) ?_
        have hO3 : Off [97] t (sI (sI t1 97 a (nI (h c))) 97 c (nI (h a))) := (hO1.i (by simp)).i (by simp)
        have f1 := f97 hO3
        refine p_tries h30 hm30 hS (hX.fr f1) (f := upN (upN h a (h c)) c (h a)) (fun i hi => ?_) (hB.fr ⟨(hO3.1 65 (by decide)).1, (hO3.1 65 (by decide)).2⟩ (hO3.1 99 (by decide)).1) (fun t3 f3 hB3 => ih (c + 1) a _ t3 K (by omega) (by omega) ((hX.fr f1).fr f3) hB3 (fun t4 f4 => hK t4 ((f1.trans f3).trans f4)))
        rw [sI_get]
        unfold upN
        by_cases y : i = c
        · subst y; rw [if_pos ⟨rfl, rfl⟩, if_pos rfl]; exact ⟨rfl, hb a (by omega)⟩
        · rw [if_neg (fun w2 => y w2.2), if_neg y, sI_get]
          by_cases x : i = a
          · subst x; rw [if_pos ⟨rfl, rfl⟩, if_pos rfl]; exact ⟨rfl, hb c (by omega)⟩
          · rw [if_neg (fun w2 => x w2.2), if_neg x]; exact ⟨h97 i hi, hb i hi⟩
  have swL : ∀ (m a : Nat) (s : BS) (t : gSt) (K : gSt → Prop), a + m = N → mdX t N most h wt nv ti ap → mdB N t s → (∀ t2, FM t t2 → mdB N t2 (bSw N most wt ap ti h m a s) → K t2) → L_X12_findBetter_220 Q K (m + 1) (nI a) t := by
    intro m
    induction m with
    | zero =>
      intro a s t K ha hX hB hK
      obtain rfl : a = N := by omega
      rw [L_X12_findBetter_220, hX.1]
      exact bq_t (nI_le (Nat.le_refl _) (by omega)) (hK t Fr.rf hB)
    | succ m ih =>
      intro a s t K ha hX hB hK
      rw [bSw] at hK
      rw [L_X12_findBetter_220, hX.1, nI_add]
      exact bq_f (nI_ge (by omega) (by omega)) ⟨N - (a + 1) + 1, swK (N - (a + 1)) (a + 1) a s t _ (by omega) (by omega) hX hB (fun t2 f2 hB2 => ih (a + 1) _ t2 K (by omega) (hX.fr f2) hB2 (fun t3 f3 => hK t3 (f2.trans f3)))⟩
  unfold W_X12_findBetter
  refine fZ_i (.inl rfl) ?_
  have f1 : FM σ (sI σ 65 50 (nI 0)) := Fr.rf.f (by simp)
  have hX1 := hX0.fr f1
  refine p_costOf h30 hX1.1 rfl (fun i hi => ⟨hX1.2.2.2 i hi, hb i hi⟩) (wt := wt) (fun a c hac hc => ⟨(hX1.2.2.1 a c (by omega) hc (by omega)).1, (hS a c (by omega) hc (by omega)).2.2.2.2.1⟩) (fL_i ?_)
  have f2 : FM σ (sL (sI σ 65 50 (nI 0)) 65 51 (cst wt N h)) := f1.g (by simp)
  have hB0 : mdB N (sL (sI σ 65 50 (nI 0)) 65 51 (cst wt N h)) (cst wt N h, -1, 0, 0, h, false) := ⟨by rw [sL_get, if_pos ⟨rfl, rfl⟩], by rw [sL_get1, sI_get, if_pos ⟨rfl, rfl⟩]; rfl, fun z => by cases z⟩
  refine ⟨N + 1, goL N 0 _ _ _ (by omega) (hX0.fr f2) hB0 (fun t3 f3 hB3 => ⟨N + 1, joL N 0 _ t3 _ (by omega) ((hX0.fr f2).fr f3) hB3 (fun t4 f4 hB4 => ⟨N + 1, swL N 0 _ t4 _ (by omega) (((hX0.fr f2).fr f3).fr f4) hB4 (fun t5 f5 hB5 => ?_)⟩)⟩)⟩
  have hb5 : mdB N t5 (bAll N most wt ap ti h) := hB5
  rw [hb5.2.1]
  exact ⟨by cases (bAll N most wt ap ti h).2.2.2.2.2 <;> simp [zI, nI], q t5 (((f2.trans f3).trans f4).trans f5) hb5⟩
