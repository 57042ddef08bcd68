/-! the pure reader of tests, and the class's chains of them -/
/-- a test; what may open one deeper: any of tests, a test -/
def teP (S : Nat → Int32) (sm : PS → PR) (sub : Option ((PS → PR) × (PS → PR))) (s : PS) : PR :=
  if S s.1 = -16 then opP S (-16) (sub.map (fun f => f.2)) (fun f s1 => bnP (f s1) (fun s2 => .inr (emP 18 (nI 0) s2))) s
  else if S s.1 = nI 91 then opP S (nI 91) (sub.map (fun f => f.1)) (fun f s1 => bnP (f s1) (fun s2 => paP S (nI 93) s2)) s
  else bnP (sm s) (fun s1 => if S s1.1 = nI 60 ∨ S s1.1 = nI 62 ∨ S s1.1 = nI 61 then bnP (sm (adP S s1)) (fun s2 => .inr (emP (if S s1.1 = nI 60 then 13 else if S s1.1 = nI 62 then 14 else 15) (nI 0) s2)) else .inl (1, s1.1))
def eaP (S : Nat → Int32) (sm : PS → PR) (sub : Option ((PS → PR) × (PS → PR))) (s : PS) : PR := bnP (teP S sm sub s) (chP S (-15) (-15) 17 17 (teP S sm sub) 401)
def ayP (S : Nat → Int32) (sm : PS → PR) (sub : Option ((PS → PR) × (PS → PR))) (s : PS) : PR := bnP (eaP S sm sub s) (chP S (-14) (-14) 16 16 (eaP S sm sub) 401)
/-- any of tests, and a test, with so many that may still open -/
def tsP (S V : Nat → Int32) : Nat → (PS → PR) × (PS → PR)
  | 0 => (ayP S (sumP S V 0) none, teP S (sumP S V 0) none)
  | e + 1 => (ayP S (sumP S V (e + 1)) (some (tsP S V e)), teP S (sumP S V (e + 1)) (some (tsP S V e)))
def sbP (S V : Nat → Int32) : Nat → Option ((PS → PR) × (PS → PR))
  | 0 => none
  | e + 1 => some (tsP S V e)
theorem tsP_eq {S V : Nat → Int32} (e : Nat) : tsP S V e = (ayP S (sumP S V e) (sbP S V e), teP S (sumP S V e) (sbP S V e)) := by cases e <;> rfl
theorem teP_at {S : Nat → Int32} {sm : PS → PR} {sub : Option ((PS → PR) × (PS → PR))} (hsm : ∀ s s2, sm s = .inr s2 → s.1 < s2.1) (hsub : ∀ f, sub = some f → (∀ s s2, f.1 s = .inr s2 → s.1 < s2.1) ∧ ∀ s s2, f.2 s = .inr s2 → s.1 < s2.1) (s s2 : PS) (h : teP S sm sub s = .inr s2) : s.1 < s2.1 := by
  unfold teP at h
  split at h
  · refine opP_at (by decide) (fun f hf s1 hh => ?_) h
    cases hs : sub with
    | none => rw [hs] at hf; cases hf
    | some g =>
      rw [hs] at hf; cases hf
      obtain ⟨a1, e1, h3⟩ := bnP_inr hh
      have b1 := (hsub g hs).2 _ _ e1
      cases h3
      show s1.1 ≤ a1.1
      omega
  · split at h
    · refine opP_at (by decide) (fun f hf s1 hh => ?_) h
      cases hs : sub with
      | none => rw [hs] at hf; cases hf
      | some g =>
        rw [hs] at hf; cases hf
        obtain ⟨a1, e1, h3⟩ := bnP_inr hh
        have b1 := (hsub g hs).1 _ _ e1
        have b2 := paP_at (by decide) h3
        omega
    · obtain ⟨a1, e1, hh⟩ := bnP_inr h
      have b1 := hsm _ _ e1
      split at hh
      · obtain ⟨a2, e2, hh⟩ := bnP_inr hh
        have b2 := hsm _ _ e2
        have b0 := @adP_at S a1
        cases hh
        show s.1 < a2.1
        omega
      · cases hh
theorem eaP_at {S : Nat → Int32} {sm : PS → PR} {sub : Option ((PS → PR) × (PS → PR))} (h1 : ∀ s s2, teP S sm sub s = .inr s2 → s.1 < s2.1) (s s2 : PS) (h : eaP S sm sub s = .inr s2) : s.1 < s2.1 := by
  obtain ⟨a1, e1, hh⟩ := bnP_inr h
  have b1 := h1 _ _ e1
  have b2 := chP_at h1 _ _ _ hh
  omega
theorem ayP_at {S : Nat → Int32} {sm : PS → PR} {sub : Option ((PS → PR) × (PS → PR))} (h1 : ∀ s s2, eaP S sm sub s = .inr s2 → s.1 < s2.1) (s s2 : PS) (h : ayP S sm sub s = .inr s2) : s.1 < s2.1 := by
  obtain ⟨a1, e1, hh⟩ := bnP_inr h
  have b1 := h1 _ _ e1
  have b2 := chP_at h1 _ _ _ hh
  omega
theorem tsP_at {S V : Nat → Int32} : ∀ (e : Nat), (∀ s s2, (tsP S V e).1 s = .inr s2 → s.1 < s2.1) ∧ ∀ s s2, (tsP S V e).2 s = .inr s2 → s.1 < s2.1
  | 0 => by
    have h1 : ∀ s s2, teP S (sumP S V 0) none s = .inr s2 → s.1 < s2.1 := teP_at (sumP_at 0) (fun f hf => by cases hf)
    exact ⟨ayP_at (eaP_at h1), h1⟩
  | e + 1 => by
    have h1 : ∀ s s2, teP S (sumP S V (e + 1)) (some (tsP S V e)) s = .inr s2 → s.1 < s2.1 := teP_at (sumP_at (e + 1)) (fun f hf => by cases hf; exact tsP_at e)
    exact ⟨ayP_at (eaP_at h1), h1⟩
section
variable {b : Bool} {B : Nat → Nat} {n C : Nat}
/-- an opened call, of any sign -/
theorem p_openedD {t : gSt} {k : Int} {d : Nat} {s : PS} {due : Int32} {R2 : Int32 → (Int32 → gSt → Prop) → gSt → Prop} {sub : Option (PS → PR)} (hb : ∀ i, i < n → B i < 256) (hdu : ¬ due = -17 ∧ ¬ due = -18) (hd6 : d ≤ 6) (hs : subOK b B n C d R2 sub) (hc : CR b B n C k s t) (hw : cWk b B n s t) {g : (PS → PR) → PS → PR} {Q : Int32 → gSt → Prop} (q : cOut b B n C k (opP (sgB B n) due sub g s) t Q) {K : gSt → Prop}
    (hK : ∀ f, sub = some f → cFn b B n C (R2 (nI d + nI 1)) f → ∀ u, CR b B n C (k + 1) (s.1 + 1, s.2) u → cEq b (s.1 + 1, s.2) u → cOut b B n C k (g f (s.1 + 1, s.2)) u Q → K u) : W_X7_open due (nI d) (fun x28 s29 => ((x28 = 0 → (Q (nI 0) s29)) ∧ (¬ x28 = 0 → K s29))) t := by
  refine p_openC hb hc hw hdu hd6 (fun z u hf k1 k2 => bq_t rfl ?_) (fun z hd u hf k1 k2 => bq_t rfl ?_) (fun z hd u hf hc2 he2 => bq_f (by decide) ?_)
  · unfold opP at q
    rw [if_neg z] at q
    exact q u hf k1 k2
  · unfold opP at q
    rw [if_pos z] at q
    cases hsub : sub with
    | none => rw [hsub] at q; exact q u hf k1 k2
    | some f => have := (hs.2 f hsub).1; omega
  · unfold opP at q
    rw [if_pos z] at q
    cases hsub : sub with
    | none => have := hs.1 hsub; omega
    | some f =>
      rw [hsub] at q
      have z18 : ¬ sgB B n s.1 = -18 := fun w => hdu.2 (z.symm.trans w)
      have had : adP (sgB B n) s = (s.1 + 1, s.2) := if_neg z18
      have q2 : cOut b B n C k (g f (adP (sgB B n) s)) t Q := q
      rw [had] at q2
      exact hK f hsub (hs.2 f hsub).2 u hc2 he2 (q2.tr hf)
/-- one round of the chain readEach and the next -/
theorem p_chainreadEach (hb : ∀ i, i < n → B i < 256) {R1 R2 R3 R4 : Int32 → (Int32 → gSt → Prop) → gSt → Prop} {c4 : Int32} {f : PS → PR} (hR : cFn b B n C (R4 c4) f) (hat : ∀ s s2, f s = .inr s2 → s.1 < s2.1) {Q : Int32 → gSt → Prop} : ∀ (m : Nat) (i : Nat) (k : Int) (s : PS) (t : gSt), C ≤ s.1 + m → 2 * i ≤ s.1 → C ≤ 400 → 0 ≤ k → CR b B n C k s t → cWk b B n s t → cOut b B n C k (chP (sgB B n) (-15) (-15) 17 17 f (m + 1) s) t Q → L_X7_readEach_12 b R1 R2 R3 R4 Q c4 (fun s22 => Q (nI 1) s22) (m + 2) (nI i) t := by
  intro m
  induction m with
  | zero =>
    intro i k s t hm hi hC hk hc hw q
    have hcC := hc.2.2.2.2.1
    have hend : sgB B n s.1 = -18 := by
      have hT := hc.1
      rw [show s.1 = C by omega, sgB, sgn, if_neg (by rw [hT.2.1]; omega)]
    rw [chP, hend, if_neg (by decide)] at q
    rw [L_X7_readEach_12]
    refine bq_f (nI_ge (by omega) (by omega)) ?_
    rw [hc.2.2.2.1, hend]
    exact bq_f (by decide) (q t cfr.rf hc hw)
  | succ m ih =>
    intro i k s t hm hi hC hk hc hw q
    rw [L_X7_readEach_12]
    have hcC := hc.2.2.2.2.1
    refine bq_f (nI_ge (by omega) (by omega)) ?_
    rw [hc.2.2.2.1]
    rw [chP] at q
    refine ⟨fun hx => ?_, fun hx => ?_⟩
    · rw [if_pos (.inl hx), if_pos hx] at q
      have z17 : ¬ sgB B n s.1 = -17 := fun w => by rw [w] at hx; exact absurd hx (by decide)
      have z18 : ¬ sgB B n s.1 = -18 := fun w => by rw [w] at hx; exact absurd hx (by decide)
      have had : adP (sgB B n) s = (s.1 + 1, s.2) := if_neg z18
      rw [had] at q
      refine p_advanceC hb hc (fun w => absurd w z18) (fun _ u hf hc2 he => ?_)
      have q2 := q.tr hf
      refine hR (k + 1) _ u _ (by omega) hc2 (he (hw.eq z17 z18)) ?_
      cases hfs : f (s.1 + 1, s.2) with
      | inl e =>
        rw [hfs] at q2
        exact fun v hv k1 k2 => bq_t rfl (q2 v hv k1 k2)
      | inr s2 =>
        rw [hfs] at q2
        have hlt := hat _ _ hfs
        intro v hv hc3 hw3
        refine bq_f (by decide) (p_emitO (o := 17) hk hc3 hw3 rfl (fun w hw4 hc4 hw5 => ?_))
        rw [nI_add]
        have q3 : cOut b B n C k (chP (sgB B n) (-15) (-15) 17 17 f (m + 1) (emP 17 (nI 0) s2)) u Q := q2
        exact ih (i + 1) k _ w (by show C ≤ s2.1 + m; have : s.1 + 1 < s2.1 := hlt; omega) (by show 2 * (i + 1) ≤ s2.1; have : s.1 + 1 < s2.1 := hlt; omega) hC hk hc4 hw5 (q3.tr (hv.trans hw4))
    · rw [if_neg (fun x => x.elim hx hx)] at q
      exact q t cfr.rf hc hw
theorem cFn_readEach (hb : ∀ i, i < n → B i < 256) (hC : C ≤ 400) {R1 R2 R3 R4 : Int32 → (Int32 → gSt → Prop) → gSt → Prop} {c4 : Int32} {f : PS → PR} (hR : cFn b B n C (R4 c4) f) (hat : ∀ s s2, f s = .inr s2 → s.1 < s2.1) : cFn b B n C (S_X7_readEach b R1 R2 R3 R4 c4) (fun s => bnP (f s) (chP (sgB B n) (-15) (-15) 17 17 f 401)) := by
  intro k s t Q hk hc he q
  replace q : cOut b B n C k (bnP (f s) (chP (sgB B n) (-15) (-15) 17 17 f 401)) t Q := q
  unfold S_X7_readEach
  refine hR k s t _ hk hc he ?_
  cases hf : f s with
  | inl e =>
    rw [hf] at q
    exact fun u hu k1 k2 => bq_t rfl (q u hu k1 k2)
  | inr s2 =>
    rw [hf] at q
    intro u hu hc2 hw2
    have q2 : cOut b B n C k (chP (sgB B n) (-15) (-15) 17 17 f (400 + 1) s2) t Q := q
    exact bq_f (by decide) ⟨402, p_chainreadEach hb hR hat 400 0 k s2 u (by omega) (by omega) hC hk hc2 hw2 (q2.tr hu)⟩
/-- one round of the chain readAny and the next -/
theorem p_chainreadAny (hb : ∀ i, i < n → B i < 256) {R1 R2 R3 R4 : Int32 → (Int32 → gSt → Prop) → gSt → Prop} {c4 : Int32} {f : PS → PR} (hR : cFn b B n C (R2 c4) f) (hat : ∀ s s2, f s = .inr s2 → s.1 < s2.1) {Q : Int32 → gSt → Prop} : ∀ (m : Nat) (i : Nat) (k : Int) (s : PS) (t : gSt), C ≤ s.1 + m → 2 * i ≤ s.1 → C ≤ 400 → 0 ≤ k → CR b B n C k s t → cWk b B n s t → cOut b B n C k (chP (sgB B n) (-14) (-14) 16 16 f (m + 1) s) t Q → L_X7_readAny_12 b R1 R2 R3 R4 Q c4 (fun s22 => Q (nI 1) s22) (m + 2) (nI i) t := by
  intro m
  induction m with
  | zero =>
    intro i k s t hm hi hC hk hc hw q
    have hcC := hc.2.2.2.2.1
    have hend : sgB B n s.1 = -18 := by
      have hT := hc.1
      rw [show s.1 = C by omega, sgB, sgn, if_neg (by rw [hT.2.1]; omega)]
    rw [chP, hend, if_neg (by decide)] at q
    rw [L_X7_readAny_12]
    refine bq_f (nI_ge (by omega) (by omega)) ?_
    rw [hc.2.2.2.1, hend]
    exact bq_f (by decide) (q t cfr.rf hc hw)
  | succ m ih =>
    intro i k s t hm hi hC hk hc hw q
    rw [L_X7_readAny_12]
    have hcC := hc.2.2.2.2.1
    refine bq_f (nI_ge (by omega) (by omega)) ?_
    rw [hc.2.2.2.1]
    rw [chP] at q
    refine ⟨fun hx => ?_, fun hx => ?_⟩
    · rw [if_pos (.inl hx), if_pos hx] at q
      have z17 : ¬ sgB B n s.1 = -17 := fun w => by rw [w] at hx; exact absurd hx (by decide)
      have z18 : ¬ sgB B n s.1 = -18 := fun w => by rw [w] at hx; exact absurd hx (by decide)
      have had : adP (sgB B n) s = (s.1 + 1, s.2) := if_neg z18
      rw [had] at q
      refine p_advanceC hb hc (fun w => absurd w z18) (fun _ u hf hc2 he => ?_)
      have q2 := q.tr hf
      refine hR (k + 1) _ u _ (by omega) hc2 (he (hw.eq z17 z18)) ?_
      cases hfs : f (s.1 + 1, s.2) with
      | inl e =>
        rw [hfs] at q2
        exact fun v hv k1 k2 => bq_t rfl (q2 v hv k1 k2)
      | inr s2 =>
        rw [hfs] at q2
        have hlt := hat _ _ hfs
        intro v hv hc3 hw3
        refine bq_f (by decide) (p_emitO (o := 16) hk hc3 hw3 rfl (fun w hw4 hc4 hw5 => ?_))
        rw [nI_add]
        have q3 : cOut b B n C k (chP (sgB B n) (-14) (-14) 16 16 f (m + 1) (emP 16 (nI 0) s2)) u Q := q2
        exact ih (i + 1) k _ w (by show C ≤ s2.1 + m; have : s.1 + 1 < s2.1 := hlt; omega) (by show 2 * (i + 1) ≤ s2.1; have : s.1 + 1 < s2.1 := hlt; omega) hC hk hc4 hw5 (q3.tr (hv.trans hw4))
    · rw [if_neg (fun x => x.elim hx hx)] at q
      exact q t cfr.rf hc hw
theorem cFn_readAny (hb : ∀ i, i < n → B i < 256) (hC : C ≤ 400) {R1 R2 R3 R4 : Int32 → (Int32 → gSt → Prop) → gSt → Prop} {c4 : Int32} {f : PS → PR} (hR : cFn b B n C (R2 c4) f) (hat : ∀ s s2, f s = .inr s2 → s.1 < s2.1) : cFn b B n C (S_X7_readAny b R1 R2 R3 R4 c4) (fun s => bnP (f s) (chP (sgB B n) (-14) (-14) 16 16 f 401)) := by
  intro k s t Q hk hc he q
  replace q : cOut b B n C k (bnP (f s) (chP (sgB B n) (-14) (-14) 16 16 f 401)) t Q := q
  unfold S_X7_readAny
  refine hR k s t _ hk hc he ?_
  cases hf : f s with
  | inl e =>
    rw [hf] at q
    exact fun u hu k1 k2 => bq_t rfl (q u hu k1 k2)
  | inr s2 =>
    rw [hf] at q
    intro u hu hc2 hw2
    have q2 : cOut b B n C k (chP (sgB B n) (-14) (-14) 16 16 f (400 + 1) s2) t Q := q
    exact bq_f (by decide) ⟨402, p_chainreadAny hb hR hat 400 0 k s2 u (by omega) (by omega) hC hk hc2 hw2 (q2.tr hu)⟩
end
