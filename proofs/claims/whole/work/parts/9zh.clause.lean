/-! the class's clauses -/
abbrev CSt := PS × Nat × (Nat → Nat) × (Nat → Nat) × (Nat → Nat)
abbrev CRs := Sum (Nat × Nat) CSt
def bnC (r : PR) (f : PS → CRs) : CRs := match r with
  | .inl e => .inl e
  | .inr s => f s
def knd (x : Int32) : Nat := if x = -9 then 0 else if x = -10 then 1 else if x = -11 then 2 else if x = -12 then 3 else 4
theorem knd_or (x : Int32) : (knd x ≤ 3 ∧ x = sortC (knd x) ∧ (x = -9 ∨ x = -10 ∨ x = -11 ∨ x = -12)) ∨ (knd x = 4 ∧ ¬ x = -9 ∧ ¬ x = -10 ∧ ¬ x = -11 ∧ ¬ x = -12) := by
  unfold knd
  by_cases h1 : x = -9
  · subst h1; exact .inl ⟨by decide, by decide, .inl rfl⟩
  · by_cases h2 : x = -10
    · subst h2; exact .inl ⟨by decide, by decide, .inr (.inl rfl)⟩
    · by_cases h3 : x = -11
      · subst h3; exact .inl ⟨by decide, by decide, .inr (.inr (.inl rfl))⟩
      · by_cases h4 : x = -12
        · subst h4; exact .inl ⟨by decide, by decide, .inr (.inr (.inr rfl))⟩
        · rw [if_neg h1, if_neg h2, if_neg h3, if_neg h4]
          exact .inr ⟨rfl, h1, h2, h3, h4⟩
/-- the clause's second piece: its condition -/
def ifP (S V : Nat → Int32) (K : Nat) (s1 : PS) : PR := if S s1.1 = -13 then (tsP S V 6).1 (adP S s1) else if K ≤ 1 then .inr s1 else .inl (1, s1.1)
def clE (S V : Nat → Int32) (z : CSt) (K : Nat) (s1 : PS) : CRs := bnC (ifP S V K s1) (fun s2 => bnC (paP S (nI 59) s2) (fun s3 => .inr (s3, z.2.1 + 1, xat z.2.1 K z.2.2.1, xat z.2.1 s1.2.1 z.2.2.2.1, xat (z.2.1 + 1) s2.2.1 z.2.2.2.2)))
def clP (S V : Nat → Int32) (z : CSt) : CRs :=
  if knd (S z.1.1) = 4 then .inl (1, z.1.1)
  else if z.2.1 = 16 then .inl (3, z.1.1)
  else bnC (if knd (S z.1.1) ≤ 1 then sumP S V 6 (adP S z.1) else .inr (adP S z.1)) (clE S V z (knd (S z.1.1)))
def rdP (S V : Nat → Int32) : Nat → CSt → CRs
  | 0, z => .inr z
  | m + 1, z => if S z.1.1 = -18 then .inr z else match clP S V z with
    | .inl e => .inl e
    | .inr z2 => rdP S V m z2
section
variable {b : Bool} {B : Nat → Nat} {n C : Nat}
def dfr (b : Bool) (t u : gSt) : Prop := Off [4, kD b, kD b + 1, kD b + 2, kD b + 3, kD b + 4, kD b + 5] t u ∧ ∀ j, j ≠ 1 → j ≠ 2 → j ≠ 8 → j ≠ 9 → u.1 4 j = t.1 4 j
theorem dfr.rf {t : gSt} : dfr b t t := ⟨Off.rf, fun _ _ _ _ _ => rfl⟩
theorem dfr.trans {t u v : gSt} (h : dfr b t u) (h2 : dfr b u v) : dfr b t v := ⟨h.1.trans h2.1, fun j a1 a2 a3 a4 => (h2.2 j a1 a2 a3 a4).trans (h.2 j a1 a2 a3 a4)⟩
theorem cfr.d {t u : gSt} (h : cfr b t u) : dfr b t u := ⟨h.1.mono (by simp), h.2.1⟩
theorem dfr.i {t u : gSt} (h : dfr b t u) {k j : Nat} {x : Int32} (hk : k ∈ [kD b, kD b + 1, kD b + 2, kD b + 3, kD b + 4, kD b + 5]) : dfr b t (sI u k j x) := ⟨h.1.i (List.mem_cons_of_mem _ hk), fun i a1 a2 a3 a4 => by
  rw [sI_get, if_neg (fun w => ?_)]
  · exact h.2 i a1 a2 a3 a4
  · have hr := kD_or (b := b)
    have hne : k ≠ 4 := by
      simp only [List.mem_cons, List.not_mem_nil, or_false] at hk
      omega
    exact hne w.1.symm⟩
/-- the clauses that are done -/
def clA (b : Bool) (c : Nat) (kd md st : Nat → Nat) (t : gSt) : Prop := t.1 (kD b) 0 = nI c ∧ (∀ i, i < c → t.1 (kD b + 1) i = sortC (kd i) ∧ t.1 (kD b + 3) i = nI (md i)) ∧ (0 < c → ∀ i, i ≤ c → t.1 (kD b + 2) i = nI (st i))
theorem clA.cfr {c : Nat} {kd md st : Nat → Nat} {t u : gSt} (h : clA b c kd md st t) (f : cfr b t u) : clA b c kd md st u ∧ u.1 (kD b + 1) = t.1 (kD b + 1) ∧ u.1 (kD b + 2) = t.1 (kD b + 2) ∧ u.1 (kD b + 3) = t.1 (kD b + 3) := by
  have hr := kD_or (b := b)
  have e1 : u.1 (kD b + 1) = t.1 (kD b + 1) := (f.1.1 _ (by simp; omega)).1
  have e2 : u.1 (kD b + 2) = t.1 (kD b + 2) := (f.1.1 _ (by simp; omega)).1
  have e3 : u.1 (kD b + 3) = t.1 (kD b + 3) := (f.1.1 _ (by simp; omega)).1
  refine ⟨?_, e1, e2, e3⟩
  unfold clA
  rw [e1, e2, e3, f.2.2 0 (by decide)]
  exact h
def CC (b : Bool) (B : Nat → Nat) (n C : Nat) (z : CSt) (t : gSt) : Prop := CR b B n C 0 z.1 t ∧ cEq b z.1 t ∧ clA b z.2.1 z.2.2.1 z.2.2.2.1 z.2.2.2.2 t ∧ z.2.1 ≤ 16 ∧ z.2.2.2.2 z.2.1 = z.1.2.1
def dOut (b : Bool) (B : Nat → Nat) (n C : Nat) (r : CRs) (t : gSt) (Q : Int32 → gSt → Prop) : Prop := match r with
  | .inl e => ∀ u, dfr b t u → u.1 4 1 = nI e.1 → u.1 4 2 = nI (plc B n e.2) → Q (nI 0) u
  | .inr z => ∀ u, dfr b t u → CC b B n C z u → Q (nI 1) u
theorem dOut.tr {r : CRs} {t u : gSt} {Q : Int32 → gSt → Prop} (h : dOut b B n C r t Q) (f : dfr b t u) : dOut b B n C r u Q := by
  cases r with
  | inl e => exact fun v hv => h v (f.trans hv)
  | inr s => exact fun v hv => h v (f.trans hv)
theorem CR.keep {k : Int} {s : PS} {t u : gSt} (h : CR b B n C k s t) (h4 : u.1 4 = t.1 4) (hd : u.1 (kD b) 5 = t.1 (kD b) 5) (hd4 : u.1 (kD b + 4) = t.1 (kD b + 4)) (h13 : u.1 13 = t.1 13) (h14 : u.1 14 = t.1 14) (h15 : u.1 15 = t.1 15) : CR b B n C k s u := by
  obtain ⟨hT, a4, h9, h8, hc, h5, hk, ho⟩ := h
  exact ⟨hT.at h13 h14 h15, ⟨a4.1, by rw [h4]; exact a4.2⟩, by rw [h4]; exact h9, by rw [h4]; exact h8, hc, hd.trans h5, hk, fun j hj => by rw [hd4]; exact ho j hj⟩
/-- the rest of a clause: from its condition on -/
theorem p_clauseEnd (hb : ∀ i, i < n → B i < 256) {z : CSt} {K : Nat} {s1 s2 : PS} {t : gSt} (hc16 : z.2.1 < 16) (hc : CR b B n C 0 s2 t) (hw : cWk b B n s2 t) (hA : clA b z.2.1 z.2.2.1 z.2.2.2.1 z.2.2.2.2 t) (hst : t.1 (kD b + 2) z.2.1 = nI (z.2.2.2.2 z.2.1)) (hkd : t.1 (kD b + 1) z.2.1 = sortC K) (hmd : t.1 (kD b + 3) z.2.1 = nI s1.2.1) {Q : Int32 → gSt → Prop} (q : dOut b B n C (bnC (paP (sgB B n) (nI 59) s2) (fun s3 => .inr (s3, z.2.1 + 1, xat z.2.1 K z.2.2.1, xat z.2.1 s1.2.1 z.2.2.2.1, xat (z.2.1 + 1) s2.2.1 z.2.2.2.2))) t Q) : W_X7_pass (nI 59) (fun x13 s14 => ((x13 = 0 → (Q (nI 0) s14)) ∧ (¬ x13 = 0 → (W_X9_close ((kD b)) (fun s16 => Q (nI 1) s16) s14)))) t := by
  have hr := kD_or (b := b)
  obtain ⟨a0, a1, a2⟩ := hA
  refine p_passC hb hc hw ⟨by decide, by decide⟩ (fun y u hf k1 k2 => bq_t rfl ?_) (fun y u hf hc2 he2 => bq_f (by decide) ?_)
  · unfold paP at q
    rw [if_neg y] at q
    exact q u hf.d k1 k2
  · unfold paP at q
    have had : adP (sgB B n) s2 = (s2.1 + 1, s2.2) := if_neg (fun w => absurd (y.symm.trans w) (by decide))
    rw [if_pos y, had] at q
    obtain ⟨⟨b0, b1, b2⟩, e1, e2, e3⟩ := clA.cfr ⟨a0, a1, a2⟩ hf
    have h5 : u.1 (kD b) 5 = nI s2.2.1 := hc2.2.2.2.2.2.1
    unfold W_X9_close
    rw [b0, nI_add]
    refine fI_i ?_
    have f0 : (sI u (kD b) 0 (nI (z.2.1 + 1))).1 (kD b) 0 = nI (z.2.1 + 1) := by rw [sI_get, if_pos ⟨rfl, rfl⟩]
    have f5 : (sI u (kD b) 0 (nI (z.2.1 + 1))).1 (kD b) 5 = nI s2.2.1 := by rw [sI_get, if_neg (fun w => absurd w.2 (by decide))]; exact h5
    rw [f0, f5]
    refine wI_i (by omega) ?_
    obtain ⟨v, hv⟩ : ∃ v, v = sI (sI u (kD b) 0 (nI (z.2.1 + 1))) (kD b + 2) (z.2.1 + 1) (nI s2.2.1) := ⟨_, rfl⟩
    rw [← hv]
    have g : ∀ a j, v.1 a j = if a = kD b + 2 ∧ j = z.2.1 + 1 then nI s2.2.1 else if a = kD b ∧ j = 0 then nI (z.2.1 + 1) else u.1 a j := fun a j => by rw [hv, sI_get, sI_get]
    have gs : ∀ a, a ≠ kD b → a ≠ kD b + 2 → v.1 a = u.1 a := fun a c1 c2 => by funext j; rw [g, if_neg (fun w => c2 w.1), if_neg (fun w => c1 w.1)]
    have q2 : dOut b B n C (.inr ((s2.1 + 1, s2.2), z.2.1 + 1, xat z.2.1 K z.2.2.1, xat z.2.1 s1.2.1 z.2.2.2.1, xat (z.2.1 + 1) s2.2.1 z.2.2.2.2)) t Q := q
    refine q2 v ?_ ⟨?_, ?_, ⟨?_, fun i hi => ?_, fun _ i hi => ?_⟩, by show z.2.1 + 1 ≤ 16; omega, ?_⟩
    · rw [hv]
      exact (hf.d.i (by simp)).i (by simp)
    · refine (hc2.mono (by omega)).keep (gs 4 (by omega) (by omega)) ?_ (gs _ (by omega) (by omega)) (gs _ (by omega) (by omega)) (gs _ (by omega) (by omega)) (gs _ (by omega) (by omega))
      rw [g, if_neg (fun w => by omega), if_neg (fun w => absurd w.2 (by decide))]
    · intro j hj
      rw [gs _ (by omega) (by omega)]
      exact he2 j hj
    · rw [g, if_neg (fun w => by omega), if_pos ⟨rfl, rfl⟩]
    · rw [gs _ (by omega) (by omega), gs _ (by omega) (by omega), e1, e3]
      show _ = sortC (xat z.2.1 K z.2.2.1 i) ∧ _ = nI (xat z.2.1 s1.2.1 z.2.2.2.1 i)
      by_cases w : i = z.2.1
      · subst w; rw [xat_at, xat_at]; exact ⟨hkd, hmd⟩
      · rw [xat_ne w, xat_ne w]; exact a1 i (by have : i < z.2.1 + 1 := hi; omega)
    · show _ = nI (xat (z.2.1 + 1) s2.2.1 z.2.2.2.2 i)
      by_cases w : i = z.2.1 + 1
      · subst w; rw [xat_at, g, if_pos ⟨rfl, rfl⟩]
      · rw [xat_ne w, g, if_neg (fun y => w y.2), if_neg (fun y => by omega), e2]
        by_cases w2 : i = z.2.1
        · rw [w2]; exact hst
        · have : i ≤ z.2.1 + 1 := hi
          exact a2 (by omega) i (by omega)
    · show xat (z.2.1 + 1) s2.2.1 z.2.2.2.2 (z.2.1 + 1) = s2.2.1
      rw [xat_at]
theorem p_clauseC (hb : ∀ i, i < n → B i < 256) (hC : C ≤ 400) {z : CSt} {t : gSt} (h : CC b B n C z t) {Q : Int32 → gSt → Prop} (q : dOut b B n C (clP (sgB B n) (vlB B n) z) t Q) : W_X7_readClause b Q t := by
  have hr := kD_or (b := b)
  obtain ⟨hc, he, ⟨a0, a1, a2⟩, hc16, hst⟩ := h
  have hlen : z.1.2.1 ≤ 400 := by
    obtain ⟨hT, h4, h9, h8, hc, h5, hk, ho⟩ := hc
    have := hT.1
    omega
  unfold W_X7_readClause
  rw [hc.2.2.2.1]
  intro J2 hJ2
  unfold clP at q
  have main : (knd (sgB B n z.1.1) = 4 → ∀ x1 : Int32, x1 = 0 → J2 x1) ∧ (¬ knd (sgB B n z.1.1) = 4 → ∀ x1 : Int32, (x1 = 0 ↔ ¬ knd (sgB B n z.1.1) ≤ 1) → J2 x1) := by
    rcases knd_or (sgB B n z.1.1) with ⟨k3, ks, kor⟩ | ⟨k4, n1, n2, n3, n4⟩
    · refine ⟨fun w => by omega, fun _ x1 hx1 => hJ2 x1 (fun J3 hJ3 => ?_)⟩
      have z17 : ¬ sgB B n z.1.1 = -17 := fun w => by rw [w] at kor; revert kor; decide
      have z18 : ¬ sgB B n z.1.1 = -18 := fun w => by rw [w] at kor; revert kor; decide
      have j3 : J3 := hJ3 (by
        unfold W_X9_isFull
        rw [a0]
        rw [if_neg (by omega)] at q
        refine br_lt (by omega) (by omega) (fun hlt => bq_t rfl ?_) (fun hge => bq_f (by decide) (p_refuseC hc (fun u hf k1 k2 => ⟨.inl rfl, ?_⟩)))
        · rw [if_neg (by omega)] at q
          have had : adP (sgB B n) z.1 = (z.1.1 + 1, z.1.2) := if_neg z18
          rw [had] at q
          unfold W_X9_open
          rw [a0]
          refine wI_i (by omega) ?_
          have f0 : (sI t (kD b + 1) z.2.1 (sgB B n z.1.1)).1 (kD b) 0 = nI z.2.1 := by rw [sI_get, if_neg (fun w => by omega)]; exact a0
          have f5 : (sI t (kD b + 1) z.2.1 (sgB B n z.1.1)).1 (kD b) 5 = nI z.1.2.1 := by rw [sI_get, if_neg (fun w => by omega)]; exact hc.2.2.2.2.2.1
          rw [f0, f5]
          refine wI_i (by omega) ?_
          obtain ⟨v, hv⟩ : ∃ v, v = sI (sI t (kD b + 1) z.2.1 (sgB B n z.1.1)) (kD b + 2) z.2.1 (nI z.1.2.1) := ⟨_, rfl⟩
          rw [← hv]
          have g : ∀ a j, v.1 a j = if a = kD b + 2 ∧ j = z.2.1 then nI z.1.2.1 else if a = kD b + 1 ∧ j = z.2.1 then sgB B n z.1.1 else t.1 a j := fun a j => by rw [hv, sI_get, sI_get]
          have gs : ∀ a, a ≠ kD b + 1 → a ≠ kD b + 2 → v.1 a = t.1 a := fun a c1 c2 => by funext j; rw [g, if_neg (fun w => c2 w.1), if_neg (fun w => c1 w.1)]
          have hcv : CR b B n C 0 z.1 v := hc.keep (gs 4 (by omega) (by omega)) (by rw [gs _ (by omega) (by omega)]) (gs _ (by omega) (by omega)) (gs _ (by omega) (by omega)) (gs _ (by omega) (by omega)) (gs _ (by omega) (by omega))
          have hev : cEq b z.1 v := fun j hj => by rw [gs _ (by omega) (by omega)]; exact he j hj
          have hdv : dfr b t v := by rw [hv]; exact (dfr.rf.i (by simp)).i (by simp)
          have hAv : clA b z.2.1 z.2.2.1 z.2.2.2.1 z.2.2.2.2 v := by
            refine ⟨by rw [gs _ (by omega) (by omega)]; exact a0, fun i hi => ?_, fun hp i hi => ?_⟩
            · rw [g, if_neg (fun w => by omega), if_neg (fun w => by omega), gs _ (by omega) (by omega)]; exact a1 i hi
            · rw [g]
              by_cases w : i = z.2.1
              · rw [if_pos ⟨rfl, w⟩, w, hst]
              · rw [if_neg (fun y => w y.2), if_neg (fun y => by omega)]; exact a2 hp i hi
          have hsv : v.1 (kD b + 2) z.2.1 = nI (z.2.2.2.2 z.2.1) := by rw [g, if_pos ⟨rfl, rfl⟩, hst]
          have hkv : v.1 (kD b + 1) z.2.1 = sortC (knd (sgB B n z.1.1)) := by rw [g, if_neg (fun w => by omega), if_pos ⟨rfl, rfl⟩]; exact ks
          have qv := q.tr hdv
          refine p_advanceC hb hcv (fun w => absurd w z18) (fun _ u1 hf1 hc1 he1 => ?_)
          obtain ⟨hA1, e11, e12, e13⟩ := hAv.cfr hf1
          have q1 := qv.tr hf1.d
          intro J9 hJ9
          -- behind the sum
          have cond : ∀ (s1 : PS) (u : gSt), cfr b u1 u → CR b B n C 0 s1 u → cWk b B n s1 u → dOut b B n C (clE (sgB B n) (vlB B n) z (knd (sgB B n z.1.1)) s1) u Q → J9 u := fun s1 u hf2 hc2 hw2 q2 => by
            refine hJ9 u ?_
            obtain ⟨hA2, e21, e22, e23⟩ := hA1.cfr hf2
            have hl1 : s1.2.1 ≤ 400 := by
              obtain ⟨hT, h4, h9, h8, hc, h5, hk, ho⟩ := hc2
              have := hT.1
              omega
            unfold W_X9_beginCondition
            rw [hA2.1, hc2.2.2.2.2.2.1]
            refine wI_i (by omega) ?_
            obtain ⟨w, hw⟩ : ∃ w, w = sI u (kD b + 3) z.2.1 (nI s1.2.1) := ⟨_, rfl⟩
            rw [← hw]
            have gw : ∀ a j, w.1 a j = if a = kD b + 3 ∧ j = z.2.1 then nI s1.2.1 else u.1 a j := fun a j => by rw [hw, sI_get]
            have gws : ∀ a, a ≠ kD b + 3 → w.1 a = u.1 a := fun a c1 => by funext j; rw [gw, if_neg (fun y => c1 y.1)]
            have hcw : CR b B n C 0 s1 w := hc2.keep (gws 4 (by omega)) (by rw [gws _ (by omega)]) (gws _ (by omega)) (gws _ (by omega)) (gws _ (by omega)) (gws _ (by omega))
            have hww : cWk b B n s1 w := hw2.imp id (fun y => y.imp id (fun y j hj => by rw [gws _ (by omega)]; exact y j hj))
            have hAw : clA b z.2.1 z.2.2.1 z.2.2.2.1 z.2.2.2.2 w := ⟨by rw [gws _ (by omega)]; exact hA2.1, fun i hi => by rw [gws _ (by omega), gw, if_neg (fun y => by omega)]; exact hA2.2.1 i hi, fun hp i hi => by rw [gws _ (by omega)]; exact hA2.2.2 hp i hi⟩
            have hsw : w.1 (kD b + 2) z.2.1 = nI (z.2.2.2.2 z.2.1) := by rw [gws _ (by omega), e22, e12]; exact hsv
            have hkw : w.1 (kD b + 1) z.2.1 = sortC (knd (sgB B n z.1.1)) := by rw [gws _ (by omega), e21, e11]; exact hkv
            have hmw : w.1 (kD b + 3) z.2.1 = nI s1.2.1 := by rw [gw, if_pos ⟨rfl, rfl⟩]
            have q3 : dOut b B n C (clE (sgB B n) (vlB B n) z (knd (sgB B n z.1.1)) s1) w Q := q2.tr (by rw [hw]; exact dfr.rf.i (by simp))
            unfold clE at q3
            intro J12 hJ12
            have fin : ∀ (s2 : PS) (x : gSt), cfr b w x → CR b B n C 0 s2 x → cWk b B n s2 x → dOut b B n C (bnC (paP (sgB B n) (nI 59) s2) (fun s3 => .inr (s3, z.2.1 + 1, xat z.2.1 (knd (sgB B n z.1.1)) z.2.2.1, xat z.2.1 s1.2.1 z.2.2.2.1, xat (z.2.1 + 1) s2.2.1 z.2.2.2.2))) x Q → J12 x := fun s2 x hf4 hc4 hw4 q4 => by
              obtain ⟨hA4, e41, e42, e43⟩ := hAw.cfr hf4
              exact hJ12 x (p_clauseEnd hb (by omega) hc4 hw4 hA4 (by rw [e42]; exact hsw) (by rw [e41]; exact hkw) (by rw [e43]; exact hmw) q4)
            intro J17 hJ17
            have cnd : (knd (sgB B n z.1.1) ≤ 1 → sgB B n s1.1 = -13) → J17 := fun hcn => hJ17 (by
              refine p_passC hb hcw hww ⟨by decide, by decide⟩ (fun y x hf k1 k2 => bq_t rfl ?_) (fun y x hf hc5 he5 => bq_f (by decide) ?_)
              · unfold ifP at q3
                rw [if_neg y, if_neg (fun h => y (hcn h))] at q3
                exact q3 x hf.d k1 k2
              · unfold ifP at q3
                have had2 : adP (sgB B n) s1 = (s1.1 + 1, s1.2) := if_neg (fun w => absurd (y.symm.trans w) (by decide))
                rw [if_pos y, had2] at q3
                refine cFn_any60 hb hC (e := 6) (d := 0) (by omega) 0 _ x _ (by omega) (hc5.mono (by omega)) he5 ?_
                cases hfs : (tsP (sgB B n) (vlB B n) 6).1 (s1.1 + 1, s1.2) with
                | inl e =>
                  rw [hfs] at q3
                  exact fun y hy k1 k2 => bq_t rfl (q3 y (hf.d.trans hy.d) k1 k2)
                | inr s2 =>
                  rw [hfs] at q3
                  exact fun y hy hc6 hw6 => bq_f (by decide) (fin s2 y (hf.trans hy) hc6 hw6 (dOut.tr q3 (hf.d.trans hy.d))))
            refine ⟨fun w1 => cnd (fun h => absurd h (hx1.mp w1)), fun w1 => ?_⟩
            have hk1 : knd (sgB B n z.1.1) ≤ 1 := by
              rcases Nat.lt_or_ge 1 (knd (sgB B n z.1.1)) with h | h
              · exact absurd (hx1.mpr (by omega)) w1
              · exact h
            rw [hcw.2.2.2.1]
            refine ⟨fun w2 => cnd (fun _ => w2), fun w2 => ?_⟩
            unfold ifP at q3
            rw [if_neg w2, if_pos hk1] at q3
            exact fin s1 w cfr.rf hcw hww q3
          refine ⟨fun w1 => ?_, fun w1 => ?_⟩
          · rw [if_neg (hx1.mp w1)] at q1
            exact cond _ u1 cfr.rf (hc1.mono (by omega)) (.inr (.inr (he1 hev))) q1
          · have hk1 : knd (sgB B n z.1.1) ≤ 1 := by
              rcases Nat.lt_or_ge 1 (knd (sgB B n z.1.1)) with h | h
              · exact absurd (hx1.mpr (by omega)) w1
              · exact h
            rw [if_pos hk1] at q1
            refine cFn_sum60 hb hC (e := 6) (d := 0) (by omega) 0 _ u1 _ (by omega) (hc1.mono (by omega)) (he1 hev) ?_
            cases hfs : sumP (sgB B n) (vlB B n) 6 (z.1.1 + 1, z.1.2) with
            | inl e =>
              rw [hfs] at q1
              exact fun y hy k1 k2 => bq_t rfl (q1 y hy.d k1 k2)
            | inr s1 =>
              rw [hfs] at q1
              exact fun y hy hc6 hw6 => bq_f (by decide) (cond s1 y hy hc6 hw6 (dOut.tr q1 hy.d))
        · rw [if_pos (by omega)] at q
          exact q u hf.d k1 k2)
      refine ⟨fun w => ?_, fun w => j3⟩
      have hk1 := hx1.mp w
      have hk2 : sgB B n z.1.1 = -11 ∨ sgB B n z.1.1 = -12 := by
        rcases kor with h | h | h | h
        · rw [h] at hk1; exact absurd (by decide) hk1
        · rw [h] at hk1; exact absurd (by decide) hk1
        · exact .inl h
        · exact .inr h
      exact ⟨fun _ => j3, fun w2 => ⟨fun _ => j3, fun w3 => absurd hk2 (fun h => h.elim w2 w3)⟩⟩
    · refine ⟨fun _ x1 hx1 => hJ2 x1 (fun J3 hJ3 => bq_t hx1 (bq_f n3 (bq_f n4 (p_refuseC hc (fun u hf k1 k2 => ⟨.inl rfl, ?_⟩))))), fun w => absurd k4 w⟩
      rw [if_pos k4] at q
      exact q u hf.d k1 k2
  intro J37 hJ37
  rcases knd_or (sgB B n z.1.1) with ⟨k3, ks, kor⟩ | ⟨k4, n1, n2, n3, n4⟩
  · have hn4 : ¬ knd (sgB B n z.1.1) = 4 := by omega
    have h1 : knd (sgB B n z.1.1) ≤ 1 → J37 := fun hk => hJ37 (main.2 hn4 (nI 1) ⟨fun w => absurd w (by decide), fun w => absurd hk w⟩)
    refine ⟨fun w => h1 (by rw [w]; decide), fun w => ⟨fun w2 => h1 (by rw [w2]; decide), fun w2 => main.2 hn4 (nI 0) ⟨fun _ => ?_, fun _ => rfl⟩⟩⟩
    rcases kor with h | h | h | h
    · exact absurd h w
    · exact absurd h w2
    · rw [h]; decide
    · rw [h]; decide
  · exact bq_f n1 (bq_f n2 (main.1 k4 (nI 0) rfl))
end
