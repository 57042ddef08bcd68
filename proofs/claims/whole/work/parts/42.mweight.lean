theorem jn1 {R : Int32 → Prop} {B : (Int32 → Prop) → Prop} (v : Int32) (hB : ∀ J : Int32 → Prop, J v → B J) (h : R v) : ∀ J : Int32 → Prop, (∀ x, R x → J x) → B J := fun J hJ => hB J (hJ v h)
theorem jn1s {R : Int32 → gSt → Prop} {B : (Int32 → gSt → Prop) → Prop} (v : Int32) (s : gSt) (hB : ∀ J : Int32 → gSt → Prop, J v s → B J) (h : R v s) : ∀ J : Int32 → gSt → Prop, (∀ x s, R x s → J x s) → B J := fun J hJ => hB J (hJ v s h)
theorem entM.off {σ s : gSt} {N : Nat} {bk nm td yr : Nat → Nat} {fa lk : Nat → Int32} {ks : List Nat} (h : entM σ N bk nm td yr fa lk) (hO : Off ks σ s) (hk : ∀ k ∈ [65, 66, 67, 68, 69, 70, 72], k ∉ ks) : entM s N bk nm td yr fa lk := by
  obtain ⟨h1, h2, h3, h4⟩ := h
  unfold entM
  rw [(hO.1 65 (hk _ (by simp))).1, (hO.1 66 (hk _ (by simp))).1, (hO.1 67 (hk _ (by simp))).1, (hO.1 68 (hk _ (by simp))).1, (hO.1 69 (hk _ (by simp))).1, (hO.1 70 (hk _ (by simp))).1, (hO.1 72 (hk _ (by simp))).1]
  exact ⟨h1, h2, h3, h4⟩
/-- the clauses, as the reference holds them -/
def rulesM (σ : gSt) (C : Nat) (kind st cd op : Nat → Nat) (num : Nat → Int32) : Prop := σ.1 65 16 = nI C ∧ (∀ i, i < C → σ.1 74 i = nI (kind i) ∧ σ.1 75 i = nI (st i) ∧ σ.1 76 i = nI (cd i) ∧ σ.1 77 i = nI (st (i + 1))) ∧ ∀ j, 0 < C → j < st C → σ.1 78 j = nI (op j) ∧ σ.1 79 j = num j
theorem rulesM.off {σ s : gSt} {C : Nat} {kind st cd op : Nat → Nat} {num : Nat → Int32} {ks : List Nat} (h : rulesM σ C kind st cd op num) (hO : Off ks σ s) (hk : ∀ k ∈ [65, 74, 75, 76, 77, 78, 79], k ∉ ks) : rulesM s C kind st cd op num := by
  obtain ⟨h1, h2, h3⟩ := h
  unfold rulesM
  rw [(hO.1 65 (hk _ (by simp))).1, (hO.1 74 (hk _ (by simp))).1, (hO.1 75 (hk _ (by simp))).1, (hO.1 76 (hk _ (by simp))).1, (hO.1 77 (hk _ (by simp))).1, (hO.1 78 (hk _ (by simp))).1, (hO.1 79 (hk _ (by simp))).1]
  exact ⟨h1, h2, h3⟩
section MW
variable {N : Nat} {bk nm td yr : Nat → Nat} {fa lk : Nat → Int32} {C : Nat} {kind st cd op : Nat → Nat} {num : Nat → Int32} {a c : Nat}
theorem p_valueOf {σ : gSt} (hE : entM σ N bk nm td yr fa lk) (hr : rulesM σ C kind st cd op num) (hk : rulesOK C kind st cd op) (ha : a < N) (hc : c < N) {f t : Nat} {τ : Bool} (hC : 0 < C) (hft : f ≤ t) (ht : t ≤ st C) (hty : tyN op (t - f) f [] = some [τ]) {Q : Int32 → gSt → Prop} (q : ∀ s, Off [86] σ s → Q (valE (fct lk bk nm td yr fa a c) num op f t) s) : W_X12_valueOf (nI f) (nI t) (nI a) (nI c) Q σ := by
  have h400 := hk.2.2 hC
  refine ⟨t - f + 1, ?_⟩
  refine p_work (bk := bk) (nm := nm) (td := td) (yr := yr) (fa := fa) (lk := lk) (num := num) (N := N) (op := op) (t := t) ha hc (by omega) (t - f) f [] τ σ (by omega) hE (fun j h1 h2 => hr.2.2 j hC (by omega)) hty ⟨rfl, fun j hj => absurd hj (Nat.not_lt_zero j)⟩ (by simp) (fun s hO h => rI_i (by omega) ?_)
  rw [h]
  have := val_any (F := fct lk bk nm td yr fa a c) (num := num) hty (σ.1 86)
  rw [show ((σ.1 86, ([] : List Bool).length) : (Nat → Int32) × Nat) = (σ.1 86, 0) from rfl, this]
  exact q s hO
theorem p_applies {σ : gSt} (hE : entM σ N bk nm td yr fa lk) (hr : rulesM σ C kind st cd op num) (hk : rulesOK C kind st cd op) (ha : a < N) (hc : c < N) {i : Nat} (hi : i < C) {Q : Int32 → gSt → Prop} (q : ∀ s, Off [86] σ s → Q (zI (apl (fct lk bk nm td yr fa a c) num st cd op i)) s) : W_X12_applies (nI i) (nI a) (nI c) Q σ := by
  have hC : 0 < C := by omega
  have hi2 := hr.2.1 i hi
  have ho := hk.2.1 i hi
  have h1 := hk.le (i := i + 1) (by omega) hC
  have h2 := hk.mono (C - (i + 1)) (i + 1) (by omega)
  rw [show i + 1 + (C - (i + 1)) = C by omega] at h2
  have h16 := hk.1
  unfold W_X12_applies
  refine rI_i (by omega) (rI_i (by omega) ?_)
  rw [hi2.2.2.1, hi2.2.2.2]
  refine br_eq (by omega) (by omega) (fun h => ?_) (fun h => ?_)
  · have := q σ Off.rf
    simp only [apl, h, decide_true, Bool.true_or] at this
    exact this
  · refine rI_i (by omega) (rI_i (by omega) ?_)
    rw [hi2.2.2.1, hi2.2.2.2]
    have hty := ho.2.2.2.2.resolve_left h
    refine p_valueOf hE hr hk ha hc hC ho.2.2.1 h2 hty (fun s hO => ?_)
    have := q s hO
    simp only [apl, h, decide_false, Bool.false_or] at this
    exact jq_z (Q := fun x => Q x s) this
theorem p_isPassed {σ : gSt} (hE : entM σ N bk nm td yr fa lk) (hr : rulesM σ C kind st cd op num) (hk : rulesOK C kind st cd op) (ha : a < N) (hc : c < N) {Q : Int32 → gSt → Prop} (q : ∀ s, Off [86] σ s → Q (zI (psd (fct lk bk nm td yr fa a c) num kind st cd op C)) s) : W_X12_isPassed (nI a) (nI c) Q σ := by
  have h16 := hk.1
  refine ⟨C + 1, ?_⟩
  have key : ∀ (m i : Nat) (s : gSt), i + m = C → Off [86] σ s → anyB (fun j => decide (kind j = 3) && apl (fct lk bk nm td yr fa a c) num st cd op j) i = false → L_X12_isPassed_5 Q (nI a) (nI c) (fun y15 s16 => ((y15 = 0 ∨ y15 = 1) ∧ Q y15 s16)) (m + 1) (zI (anyB (fun j => decide (kind j = 3)) i)) (nI i) s := by
    intro m
    induction m with
    | zero =>
      intro i s hi hO hn
      obtain rfl : i = C := by omega
      rw [L_X12_isPassed_5, (hO.1 65 (by decide)).1, hr.1]
      refine bq_t (nI_le (Nat.le_refl _) (by omega)) ⟨zI_01 _, ?_⟩
      have := q s hO
      rw [psd, hn, Bool.not_false, Bool.and_true] at this
      exact this
    | succ m ih =>
      intro i s hi hO hn
      have hi2 := hr.2.1 i (by omega)
      have hkd := (hk.2.1 i (by omega)).1
      rw [L_X12_isPassed_5, (hO.1 65 (by decide)).1, hr.1]
      refine bq_f (nI_ge (by omega) (by omega)) (rI_i (by omega) ?_)
      rw [(hO.1 74 (by decide)).1, hi2.1]
      refine br_eq (by omega) (by omega) (fun h3 => ?_) (fun h3 => ?_)
      · refine p_applies (hE.off hO (by decide)) (hr.off hO (by decide)) hk ha hc (by omega) (fun s2 hO2 => ?_)
        have hO3 := hO.trans hO2
        refine br_z (fun hf => ?_) (fun ht => ?_)
        · have e := ih (i + 1) s2 (by omega) hO3 (by rw [anyB, hn, h3, hf]; rfl)
          rw [anyB, decide_eq_true h3, Bool.or_true] at e
          rw [nI_add]; exact e
        · have := q s2 hO3
          have hz : psd (fct lk bk nm td yr fa a c) num kind st cd op C = false := by
            rw [psd, (anyB_iff (fun j => decide (kind j = 3) && apl (fct lk bk nm td yr fa a c) num st cd op j) C).mpr ⟨i, by omega, by simp [h3, ht]⟩]
            simp
          rw [hz] at this
          exact this
      · have e := ih (i + 1) s (by omega) hO (by rw [anyB, hn, decide_eq_false h3]; rfl)
        rw [anyB, decide_eq_false h3, Bool.or_false] at e
        rw [nI_add]; exact e
  have := key C 0 σ (by omega) Off.rf rfl
  exact this
end MW
/-- the pair a, c is that of x, y -/
def sp (x y a c : Nat) : Bool := (decide (x = a) && decide (y = c)) || (decide (x = c) && decide (y = a))
/-- where a list of pairs has it first -/
def tix (T : Nat) (ta tb : Nat → Nat) (a c : Nat) : Nat := fa_first (fun q => sp (ta q) (tb q) a c) T
theorem p_toldAt {σ : gSt} {T : Nat} {ta tb : Nat → Nat} {a c : Nat} (hT : σ.1 65 33 = nI T) (h60 : T ≤ 60) (hp : ∀ q, q < T → σ.1 87 q = nI (ta q) ∧ σ.1 88 q = nI (tb q) ∧ ta q < 30 ∧ tb q < 30) (ha : a < 30) (hc : c < 30) {Q : Int32 → Prop} (q1 : ∀ q, q < T → tix T ta tb a c = q → sp (ta q) (tb q) a c = true → Q (nI q)) (q2 : tix T ta tb a c = T → (∀ q, q < T → sp (ta q) (tb q) a c = false) → Q (-1)) : W_X12_toldAt (nI a) (nI c) Q σ := by
  refine ⟨T + 1, ?_⟩
  have key : ∀ (m i : Nat), i + m = T → (∀ q, q < i → sp (ta q) (tb q) a c = false) → L_X12_toldAt_2 Q (nI a) (nI c) σ (Q (-1 : Int32)) (m + 1) (nI i) := by
    intro m
    induction m with
    | zero =>
      intro i hi hn
      obtain rfl : i = T := by omega
      rw [L_X12_toldAt_2, hT]
      exact bq_t (nI_le (Nat.le_refl _) (by omega)) (q2 (first_none hn) hn)
    | succ m ih =>
      intro i hi hn
      obtain ⟨pa, pb, la, lb⟩ := hp i (by omega)
      have next : sp (ta i) (tb i) a c = false → L_X12_toldAt_2 Q (nI a) (nI c) σ (Q (-1 : Int32)) (m + 1) (nI i + nI 1) := fun h => by
        rw [nI_add]
        refine ih (i + 1) (by omega) (fun q hq => ?_)
        by_cases e : q = i
        · subst e; exact h
        · exact hn q (by omega)
      have found : sp (ta i) (tb i) a c = true → Q (nI i) := fun h => q1 i (by omega) (first_is (by omega) hn h) h
      rw [L_X12_toldAt_2, hT]
      refine bq_f (nI_ge (by omega) (by omega)) (rI_i (by omega) ?_)
      rw [pa]
      intro J hJ
      have hJ2 : ¬ (ta i = a ∧ tb i = c) → J := fun hne => hJ (rI_i (by omega) (by
        rw [pa]
        refine br_eq (by omega) (by omega) (fun h1 => rI_i (by omega) ?_) (fun h1 => next (by simp only [sp]; simp only [decide_eq_false h1, Bool.false_and, Bool.or_false]; simpa using fun h => fun h2 => hne ⟨h, h2⟩))
        rw [pb]
        exact br_eq (by omega) (by omega) (fun h2 => found (by simp [sp, h1, h2])) (fun h2 => next (by simp only [sp]; simp only [decide_eq_false h2, Bool.and_false, Bool.or_false]; simpa using fun h => fun h2 => hne ⟨h, h2⟩))))
      refine br_eq (by omega) (by omega) (fun h1 => rI_i (by omega) ?_) (fun h1 => hJ2 (fun h => h1 h.1))
      rw [pb]
      exact br_eq (by omega) (by omega) (fun h2 => found (by simp [sp, h1, h2])) (fun h2 => hJ2 (fun h => h2 h.2))
  exact key T 0 (by omega) (fun q hq => absurd hq (Nat.not_lt_zero q))
theorem p_fixAt {σ : gSt} {T : Nat} {ta tb : Nat → Nat} {a c : Nat} (hT : σ.1 65 44 = nI T) (h60 : T ≤ 20) (hp : ∀ q, q < T → σ.1 94 q = nI (ta q) ∧ σ.1 95 q = nI (tb q) ∧ ta q < 30 ∧ tb q < 30) (ha : a < 30) (hc : c < 30) {Q : Int32 → Prop} (q1 : ∀ q, q < T → tix T ta tb a c = q → sp (ta q) (tb q) a c = true → Q (nI q)) (q2 : tix T ta tb a c = T → (∀ q, q < T → sp (ta q) (tb q) a c = false) → Q (-1)) : W_X12_fixAt (nI a) (nI c) Q σ := by
  refine ⟨T + 1, ?_⟩
  have key : ∀ (m i : Nat), i + m = T → (∀ q, q < i → sp (ta q) (tb q) a c = false) → L_X12_fixAt_2 Q (nI a) (nI c) σ (Q (-1 : Int32)) (m + 1) (nI i) := by
    intro m
    induction m with
    | zero =>
      intro i hi hn
      obtain rfl : i = T := by omega
      rw [L_X12_fixAt_2, hT]
      exact bq_t (nI_le (Nat.le_refl _) (by omega)) (q2 (first_none hn) hn)
    | succ m ih =>
      intro i hi hn
      obtain ⟨pa, pb, la, lb⟩ := hp i (by omega)
      have next : sp (ta i) (tb i) a c = false → L_X12_fixAt_2 Q (nI a) (nI c) σ (Q (-1 : Int32)) (m + 1) (nI i + nI 1) := fun h => by
        rw [nI_add]
        refine ih (i + 1) (by omega) (fun q hq => ?_)
        by_cases e : q = i
        · subst e; exact h
        · exact hn q (by omega)
      have found : sp (ta i) (tb i) a c = true → Q (nI i) := fun h => q1 i (by omega) (first_is (by omega) hn h) h
      rw [L_X12_fixAt_2, hT]
      refine bq_f (nI_ge (by omega) (by omega)) (rI_i (by omega) ?_)
      rw [pa]
      intro J hJ
      have hJ2 : ¬ (ta i = a ∧ tb i = c) → J := fun hne => hJ (rI_i (by omega) (by
        rw [pa]
        refine br_eq (by omega) (by omega) (fun h1 => rI_i (by omega) ?_) (fun h1 => next (by simp only [sp]; simp only [decide_eq_false h1, Bool.false_and, Bool.or_false]; simpa using fun h => fun h2 => hne ⟨h, h2⟩))
        rw [pb]
        exact br_eq (by omega) (by omega) (fun h2 => found (by simp [sp, h1, h2])) (fun h2 => next (by simp only [sp]; simp only [decide_eq_false h2, Bool.and_false, Bool.or_false]; simpa using fun h => fun h2 => hne ⟨h, h2⟩))))
      refine br_eq (by omega) (by omega) (fun h1 => rI_i (by omega) ?_) (fun h1 => hJ2 (fun h => h1 h.1))
      rw [pb]
      exact br_eq (by omega) (by omega) (fun h2 => found (by simp [sp, h1, h2])) (fun h2 => hJ2 (fun h => h2 h.2))
  exact key T 0 (by omega) (fun q hq => absurd hq (Nat.not_lt_zero q))

/-- the weight of a pair as the reference knows it: told by hand, or by the rules -/
def wgt (F num : Nat → Int32) (kind st cd op : Nat → Nat) (C T : Nat) (ta tb : Nat → Nat) (tw : Nat → Int32) (a c : Nat) : Int32 :=
  if tix T ta tb a c < T then tw (tix T ta tb a c) else if psd F num kind st cd op C then nI 0 else if nvr F num kind st cd op C then (-2147483648 : Int32) else vdt F num kind st cd op C
def toldM (σ : gSt) (T : Nat) (ta tb : Nat → Nat) (tw : Nat → Int32) : Prop := σ.1 65 33 = nI T ∧ T ≤ 60 ∧ ∀ q, q < T → σ.1 87 q = nI (ta q) ∧ σ.1 88 q = nI (tb q) ∧ ta q < 30 ∧ tb q < 30 ∧ σ.1 89 q = tw q
theorem toldM.off {σ s : gSt} {T : Nat} {ta tb : Nat → Nat} {tw : Nat → Int32} {ks : List Nat} (h : toldM σ T ta tb tw) (hO : Off ks σ s) (hk : ∀ k ∈ [65, 87, 88, 89], k ∉ ks) : toldM s T ta tb tw := by
  unfold toldM
  rw [(hO.1 65 (hk _ (by simp))).1, (hO.1 87 (hk _ (by simp))).1, (hO.1 88 (hk _ (by simp))).1, (hO.1 89 (hk _ (by simp))).1]
  exact h
theorem clampV_eq (v : Int32) : clampV v = if (-10000 : Int32) ≤ v then (if v ≤ nI 10000 then v else nI 10000) else -10000 := by
  unfold clampV
  by_cases h : v < nI 10000
  · have h1 : v ≤ nI 10000 := Int32.le_of_lt h
    simp only [h, h1, if_true]
    by_cases h2 : (-10000 : Int32) < v
    · rw [if_pos h2, if_pos (Int32.le_of_lt h2)]
    · rw [if_neg h2]
      by_cases h3 : (-10000 : Int32) ≤ v
      · rw [if_pos h3]
        exact Int32.le_antisymm h3 (Int32.not_lt.mp h2)
      · rw [if_neg h3]
  · have h1 : nI 10000 ≤ v := Int32.not_lt.mp h
    simp only [h, if_false]
    rw [if_pos (by decide), if_pos (Int32.le_trans (by decide) h1)]
    by_cases h2 : v ≤ nI 10000
    · rw [if_pos h2]; exact Int32.le_antisymm h1 h2
    · rw [if_neg h2]
section MW2
variable {N : Nat} {bk nm td yr : Nat → Nat} {fa lk : Nat → Int32} {C : Nat} {kind st cd op : Nat → Nat} {num : Nat → Int32} {a c : Nat}
theorem p_weightOf {σ : gSt} (hE : entM σ N bk nm td yr fa lk) (hr : rulesM σ C kind st cd op num) (hk : rulesOK C kind st cd op) {T : Nat} {ta tb : Nat → Nat} {tw : Nat → Int32} (hT : toldM σ T ta tb tw) (ha : a < N) (hc : c < N) {Q : Int32 → gSt → Prop} (q : ∀ s, Off [86] σ s → Q (wgt (fct lk bk nm td yr fa a c) num kind st cd op C T ta tb tw a c) s) : W_X12_weightOf (nI a) (nI c) Q σ := by
  have h30 := hE.2.1
  have h16 := hk.1
  unfold W_X12_weightOf
  refine p_toldAt hT.1 hT.2.1 (fun q hq => ⟨(hT.2.2 q hq).1, (hT.2.2 q hq).2.1, (hT.2.2 q hq).2.2.1, (hT.2.2 q hq).2.2.2.1⟩) (by omega) (by omega) (fun k hk1 hk2 _ => ?_) (fun hk2 _ => ?_)
  · have hk60 := hT.2.1
    refine bq_f (fun h => ?_) (rI_i (by omega) ?_)
    · have := nI_pos' (n := k) (by omega)
      rw [h] at this
      exact absurd this (by decide)
    · rw [(hT.2.2 k hk1).2.2.2.2]
      have := q σ Off.rf
      rw [wgt, hk2, if_pos hk1] at this
      exact this
  · refine bq_t rfl ?_
    refine p_isPassed hE hr hk ha hc (fun s hO => ?_)
    refine br_z (fun hp => ?_) (fun hp => ?_)
    · have hn0 : nvr (fct lk bk nm td yr fa a c) num kind st cd op C = anyB (fun j => apl (fct lk bk nm td yr fa a c) num st cd op j && decide (kind j = 2)) C := by rw [nvr, hp]; rfl
      have key : ∀ (m i : Nat) (s1 : gSt), i + m = C → Off [86] σ s1 → L_X12_weightOf_39 Q (nI a) (nI c) (fun y41 y42 s43 => ((y42 = 0 → (((((-10000 : Int32)) ≤ y41 → (((y41 ≤ (nI 10000) → (Q y41 s43)) ∧ (¬ y41 ≤ (nI 10000) → (Q (nI 10000) s43))))) ∧ (¬ ((-10000 : Int32)) ≤ y41 → (Q ((-10000 : Int32)) s43))))) ∧ (¬ y42 = 0 → (Q ((-2147483648 : Int32)) s43)))) (m + 1) (vSum (fct lk bk nm td yr fa a c) num kind st cd op i) (zI (anyB (fun j => apl (fct lk bk nm td yr fa a c) num st cd op j && decide (kind j = 2)) i)) (nI i) s1 := by
        intro m
        induction m with
        | zero =>
          intro i s1 hi hO1
          obtain rfl : i = C := by omega
          rw [L_X12_weightOf_39, (hO1.1 65 (by decide)).1, hr.1]
          refine bq_t (nI_le (Nat.le_refl _) (by omega)) ?_
          have := q s1 hO1
          rw [wgt, hk2, if_neg (Nat.lt_irrefl _), hp, if_neg (by decide), hn0] at this
          refine br_z (fun hf => ?_) (fun ht => ?_)
          · rw [hf, if_neg (by decide), vdt, hp, if_neg (by decide), clampV_eq] at this
            refine ⟨fun h => ⟨fun h2 => ?_, fun h2 => ?_⟩, fun h => ?_⟩
            · rw [if_pos h, if_pos h2] at this; exact this
            · rw [if_pos h, if_neg h2] at this; exact this
            · rw [if_neg h] at this; exact this
          · rw [ht, if_pos rfl] at this; exact this
        | succ m ih =>
          intro i s1 hi hO1
          have hi2 := hr.2.1 i (by omega)
          have ho := hk.2.1 i (by omega)
          have hC : 0 < C := by omega
          have hle := hk.mono (C - (i + 1)) (i + 1) (by omega)
          rw [show i + 1 + (C - (i + 1)) = C by omega] at hle
          rw [L_X12_weightOf_39, (hO1.1 65 (by decide)).1, hr.1]
          refine bq_f (nI_ge (by omega) (by omega)) ?_
          refine p_applies (hE.off hO1 (by decide)) (hr.off hO1 (by decide)) hk ha hc (by omega) (fun s2 hO2 => ?_)
          have hO3 := hO1.trans hO2
          have kd : s2.1 74 i = nI (kind i) := by rw [(hO3.1 74 (by decide)).1]; exact hi2.1
          have f1 : s2.1 75 i = nI (st i) := by rw [(hO3.1 75 (by decide)).1]; exact hi2.2.1
          have f2 : s2.1 76 i = nI (cd i) := by rw [(hO3.1 76 (by decide)).1]; exact hi2.2.2.1
          rw [nI_add]
          refine br_z (fun hf => ?_) (fun ht => ?_)
          · have e := ih (i + 1) s2 (by omega) hO3
            rw [vSum, anyB, hf] at e
            simp only [Bool.false_and, Bool.or_false, if_false, Bool.false_eq_true] at e
            exact e
          · have e := fun s3 hs3 => ih (i + 1) s3 (by omega) (hO3.trans hs3)
            simp only [vSum, anyB, ht, Bool.true_and, decide_eq_true_eq] at e
            have rest : ∀ nv : Int32, nv = zI (anyB (fun j => apl (fct lk bk nm td yr fa a c) num st cd op j && decide (kind j = 2)) i || decide (kind i = 2)) → (rI s2 74 16 (nI i) (fun x21 => ∀ J24 : Int32 → gSt → Prop, (∀ x22 s23, (rI s23 74 16 (nI i) (fun x25 => ((x25 = (nI 1) → (rI s23 75 16 (nI i) (fun x27 => rI s23 76 16 (nI i) (fun x28 => W_X12_valueOf x27 x28 (nI a) (nI c) (fun x29 s30 => L_X12_weightOf_39 Q (nI a) (nI c) (fun y41 y42 s43 => ((y42 = 0 → (((((-10000 : Int32)) ≤ y41 → (((y41 ≤ (nI 10000) → (Q y41 s43)) ∧ (¬ y41 ≤ (nI 10000) → (Q (nI 10000) s43))))) ∧ (¬ ((-10000 : Int32)) ≤ y41 → (Q ((-10000 : Int32)) s43))))) ∧ (¬ y42 = 0 → (Q ((-2147483648 : Int32)) s43)))) (m + 1) (x22 - x29) nv (nI (i + 1)) s30) s23)))) ∧ (¬ x25 = (nI 1) → (L_X12_weightOf_39 Q (nI a) (nI c) (fun y41 y42 s43 => ((y42 = 0 → (((((-10000 : Int32)) ≤ y41 → (((y41 ≤ (nI 10000) → (Q y41 s43)) ∧ (¬ y41 ≤ (nI 10000) → (Q (nI 10000) s43))))) ∧ (¬ ((-10000 : Int32)) ≤ y41 → (Q ((-10000 : Int32)) s43))))) ∧ (¬ y42 = 0 → (Q ((-2147483648 : Int32)) s43)))) (m + 1) x22 nv (nI (i + 1)) s23))))) → J24 x22 s23) → ((x21 = 0 → (rI s2 75 16 (nI i) (fun x32 => rI s2 76 16 (nI i) (fun x33 => W_X12_valueOf x32 x33 (nI a) (nI c) (fun x34 s35 => J24 (vSum (fct lk bk nm td yr fa a c) num kind st cd op i + x34) s35) s2)))) ∧ (¬ x21 = 0 → (J24 (vSum (fct lk bk nm td yr fa a c) num kind st cd op i) s2))))) := by
              rintro nv rfl
              refine rI_i (by omega) ?_
              rw [kd]
              intro J hJ
              refine ⟨fun h => ?_, fun h => ?_⟩
              · have h : kind i = 0 := (nI_z (by omega)).mp h
                refine rI_i (by omega) (rI_i (by omega) ?_)
                rw [f1, f2]
                refine p_valueOf (hE.off hO3 (by decide)) (hr.off hO3 (by decide)) hk ha hc hC ho.2.1 (by omega) (ho.2.2.2.1 (by omega)) (fun s4 hO4 => hJ _ _ (rI_i (by omega) ?_))
                rw [(hO4.1 74 (by decide)).1, kd]
                refine bq_f (by rw [nI_eq (by omega) (by omega)]; omega) ?_
                have := e s4 hO4
                rw [if_pos h] at this
                exact this
              · have h : ¬ kind i = 0 := fun z => h ((nI_z (by omega)).mpr z)
                refine hJ _ _ (rI_i (by omega) ?_)
                rw [kd]
                refine br_eq (by omega) (by omega) (fun h1 => ?_) (fun h1 => ?_)
                · refine rI_i (by omega) (rI_i (by omega) ?_)
                  rw [f1, f2]
                  refine p_valueOf (hE.off hO3 (by decide)) (hr.off hO3 (by decide)) hk ha hc hC ho.2.1 (by omega) (ho.2.2.2.1 (by omega)) (fun s4 hO4 => ?_)
                  have := e s4 hO4
                  rw [if_neg h, if_pos h1] at this
                  exact this
                · have := e s2 Off.rf
                  rw [if_neg h, if_neg h1] at this
                  exact this
            intro J20 hJ20 J36 hJ36
            refine br_z (fun hb => rI_i (by omega) ?_) (fun hb => hJ36 (hJ20 _ (rest _ (by rw [hb, Bool.true_or]; rfl))))
            rw [kd]
            refine br_eq (by omega) (by omega) (fun h2 => hJ36 (hJ20 _ (rest _ (by rw [decide_eq_true h2, Bool.or_true]; rfl)))) (fun h2 => hJ20 _ (rest _ (by rw [hb, decide_eq_false h2]; rfl)))
      exact ⟨C + 1, key C 0 s (by omega) hO⟩
    · have := q s hO
      rw [wgt, hk2, if_neg (Nat.lt_irrefl _), hp, if_pos rfl] at this
      exact this
end MW2
