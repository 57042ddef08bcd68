/-! what is read is well typed -/
theorem tyN_congr {op op2 : Nat → Nat} : ∀ (m i : Nat) (a : List Bool), (∀ j, i ≤ j → j < i + m → op j = op2 j) → tyN op m i a = tyN op2 m i a
  | 0, _, _, _ => rfl
  | m + 1, i, a, h => by
    rw [tyN, tyN, h i (Nat.le_refl _) (by omega)]
    congr 1
    funext r
    exact tyN_congr m (i + 1) r (fun j h1 h2 => h j (by omega) (by omega))
theorem tyN_add {op : Nat → Nat} : ∀ (m k i : Nat) (a : List Bool), tyN op (m + k) i a = (tyN op m i a).bind (tyN op k (i + m))
  | 0, k, i, a => by rw [Nat.zero_add]; rfl
  | m + 1, k, i, a => by
    rw [show m + 1 + k = (m + k) + 1 by omega, tyN, tyN, Option.bind_assoc]
    congr 1
    funext r
    rw [tyN_add m k (i + 1) r, show i + (m + 1) = i + 1 + m by omega]
abbrev CDs := Nat × (Nat → Nat) × (Nat → Int32)
/-- the codes between two states take the types a to r -/
def tyR (x y : CDs) (a r : List Bool) : Prop := x.1 ≤ y.1 ∧ (∀ j, j < x.1 → y.2.1 j = x.2.1 j) ∧ tyN y.2.1 (y.1 - x.1) x.1 a = some r
theorem tyR.rf {x : CDs} {a : List Bool} : tyR x x a a := ⟨Nat.le_refl _, fun _ _ => rfl, by rw [Nat.sub_self]; rfl⟩
theorem tyR.trans {x y z : CDs} {a r c : List Bool} (h : tyR x y a r) (h2 : tyR y z r c) : tyR x z a c := by
  refine ⟨Nat.le_trans h.1 h2.1, fun j hj => (h2.2.1 j (by have := h.1; omega)).trans (h.2.1 j hj), ?_⟩
  have l1 := h.1
  have l2 := h2.1
  rw [show z.1 - x.1 = (y.1 - x.1) + (z.1 - y.1) by omega, tyN_add, tyN_congr (op2 := y.2.1) (y.1 - x.1) x.1 a (fun j _ hj => h2.2.1 j (by omega)), h.2.2, show x.1 + (y.1 - x.1) = y.1 by omega]
  exact h2.2.2
theorem tyR.em {s : PS} {o : Nat} {v : Int32} {a r : List Bool} (h : ty1 o a = some r) : tyR s.2 (emP o v s).2 a r := by
  refine ⟨Nat.le_succ _, fun j hj => xat_ne (Nat.ne_of_lt hj), ?_⟩
  show tyN (xat s.2.1 o s.2.2.1) (s.2.1 + 1 - s.2.1) s.2.1 a = some r
  rw [show s.2.1 + 1 - s.2.1 = 1 by omega, tyN, xat_at, h]
  rfl
theorem adP_2 {S : Nat → Int32} {s : PS} : (adP S s).2 = s.2 := by
  unfold adP
  split <;> rfl
theorem paP_2 {S : Nat → Int32} {due : Int32} {s s2 : PS} (h : paP S due s = .inr s2) : s2.2 = s.2 := by
  unfold paP at h
  split at h
  · cases h; exact adP_2
  · cases h
/-- a reader's type -/
def tyF (K : Nat) (τ : Bool) (f : PS → PR) : Prop := ∀ s s2, f s = .inr s2 → ∀ a : List Bool, a.length + K ≤ 60 → tyR s.2 s2.2 a (τ :: a)
theorem tyF.mono {K L : Nat} {τ : Bool} {f : PS → PR} (h : tyF K τ f) (hl : K ≤ L) : tyF L τ f := fun s s2 e a ha => h s s2 e a (by omega)
theorem opP_inr {S : Nat → Int32} {due : Int32} {sub : Option (PS → PR)} {g : (PS → PR) → PS → PR} {s s2 : PS} (h : opP S due sub g s = .inr s2) : ∃ f, sub = some f ∧ g f (adP S s) = .inr s2 := by
  unfold opP at h
  split at h
  · cases hs : sub with
    | none => rw [hs] at h; cases h
    | some f => rw [hs] at h; exact ⟨f, rfl, h⟩
  · cases h
theorem tyF_ch {S : Nat → Int32} {x y : Int32} {ox oy : Nat} {τ : Bool} {K : Nat} {f : PS → PR} (hf : tyF K τ f) (hx : ∀ a, ty1 ox (τ :: τ :: a) = some (τ :: a)) (hy : ∀ a, ty1 oy (τ :: τ :: a) = some (τ :: a)) : ∀ (m : Nat) (s s2 : PS), chP S x y ox oy f m s = .inr s2 → ∀ a : List Bool, a.length + (K + 1) ≤ 60 → tyR s.2 s2.2 (τ :: a) (τ :: a)
  | 0, s, s2, h, a, _ => by rw [chP] at h; cases h; exact tyR.rf
  | m + 1, s, s2, h, a, ha => by
    rw [chP] at h
    split at h
    · obtain ⟨s1, e1, h⟩ := bnP_inr h
      have h1 := hf _ _ e1 (τ :: a) (by rw [List.length_cons]; omega)
      rw [adP_2] at h1
      have h3 := tyF_ch hf hx hy m _ _ h a ha
      refine (h1.trans (tyR.em (v := nI 0) ?_)).trans h3
      split
      · exact hx a
      · exact hy a
    · cases h; exact tyR.rf
theorem tyF_un {S V : Nat → Int32} {sub : Option (PS → PR)} {K : Nat} (hK : 1 ≤ K) (hs : ∀ f, sub = some f → tyF (K - 1) false f) : tyF K false (unP S V sub) := by
  intro s s2 h a ha
  have lo : ∀ o, o ≤ 6 → ty1 o a = some (false :: a) := fun o ho => by
    unfold ty1
    rw [if_pos ho, if_pos (by omega)]
  unfold unP at h
  split at h
  · split at h
    · cases h
      rw [adP_2]
      exact tyR.em (lo 0 (by omega))
    · cases h
  · split at h
    · rename_i z
      cases h
      rw [adP_2]
      refine tyR.em (lo _ ?_)
      rcases i32_six z.1 z.2 with y | y | y | y | y | y <;> rw [y] <;> decide
    · split at h
      · obtain ⟨f, hf, h⟩ := opP_inr h
        obtain ⟨s1, e1, h⟩ := bnP_inr h
        obtain ⟨s3, e3, h⟩ := bnP_inr h
        obtain ⟨s4, e4, h⟩ := bnP_inr h
        obtain ⟨s5, e5, h⟩ := bnP_inr h
        have h1 := hs f hf _ _ e1 a (by omega)
        rw [adP_2, adP_2] at h1
        have h3 := paP_2 e3
        have h4 := hs f hf _ _ e4 (false :: a) (by rw [List.length_cons]; omega)
        rw [h3] at h4
        have h5 := paP_2 e5
        cases h
        have h6 : tyR s5.2 (emP (if S s.1 = -7 then 11 else 12) (nI 0) s5).2 (false :: false :: a) (false :: a) := by
          refine tyR.em ?_
          split <;> rfl
        rw [h5] at h6
        have := (h1.trans h4).trans h6
        refine ⟨this.1, this.2.1, ?_⟩
        exact this.2.2
      · obtain ⟨f, hf, h⟩ := opP_inr h
        obtain ⟨s1, e1, h⟩ := bnP_inr h
        have h1 := hs f hf _ _ e1 a (by omega)
        rw [adP_2] at h1
        rw [paP_2 h]
        exact h1
theorem tyF_bn {f : PS → PR} {K : Nat} {τ : Bool} {S : Nat → Int32} {x y : Int32} {ox oy m : Nat} (hf : tyF K τ f) (hx : ∀ a, ty1 ox (τ :: τ :: a) = some (τ :: a)) (hy : ∀ a, ty1 oy (τ :: τ :: a) = some (τ :: a)) : tyF (K + 1) τ (fun s => bnP (f s) (chP S x y ox oy f m)) := by
  intro s s2 h a ha
  obtain ⟨s1, e1, h⟩ := bnP_inr h
  exact (hf _ _ e1 a (by omega)).trans (tyF_ch hf hx hy m _ _ h a ha)
theorem tyF_sum {S V : Nat → Int32} : ∀ e, tyF (3 * e + 3) false (sumP S V e)
  | 0 => tyF_bn (tyF_bn (tyF_un (sub := none) (Nat.le_refl 1) (fun f hf => by cases hf)) (fun a => rfl) (fun a => rfl)) (fun a => rfl) (fun a => rfl)
  | e + 1 => by
    have h := tyF_un (S := S) (V := V) (sub := some (sumP S V e)) (K := 3 * e + 4) (by omega) (fun f hf => by cases hf; exact tyF_sum e)
    exact tyF_bn (tyF_bn h (fun a => rfl) (fun a => rfl)) (fun a => rfl) (fun a => rfl)
theorem tyF_te {S : Nat → Int32} {sm : PS → PR} {sub : Option ((PS → PR) × (PS → PR))} {K : Nat} (hK : 1 ≤ K) (hsm : tyF (K - 1) false sm) (hs : ∀ f, sub = some f → tyF K true f.1 ∧ tyF K true f.2) : tyF K true (teP S sm sub) := by
  intro s s2 h a ha
  unfold teP at h
  split at h
  · obtain ⟨f, hf, h⟩ := opP_inr h
    cases hsub : sub with
    | none => rw [hsub] at hf; cases hf
    | some g =>
      rw [hsub] at hf; cases hf
      obtain ⟨s1, e1, h⟩ := bnP_inr h
      have h1 := (hs g hsub).2 _ _ e1 a ha
      rw [adP_2] at h1
      cases h
      exact h1.trans (tyR.em rfl)
  · split at h
    · obtain ⟨f, hf, h⟩ := opP_inr h
      cases hsub : sub with
      | none => rw [hsub] at hf; cases hf
      | some g =>
        rw [hsub] at hf; cases hf
        obtain ⟨s1, e1, h⟩ := bnP_inr h
        have h1 := (hs g hsub).1 _ _ e1 a ha
        rw [adP_2] at h1
        rw [paP_2 h]
        exact h1
    · obtain ⟨s1, e1, h⟩ := bnP_inr h
      split at h
      · obtain ⟨s3, e3, h⟩ := bnP_inr h
        have h1 := hsm _ _ e1 a (by omega)
        have h3 := hsm _ _ e3 (false :: a) (by rw [List.length_cons]; omega)
        rw [adP_2] at h3
        cases h
        refine (h1.trans h3).trans (tyR.em ?_)
        split
        · rfl
        · split <;> rfl
      · cases h
theorem tyF_ts {S V : Nat → Int32} : ∀ e, tyF (3 * e + 6) true (tsP S V e).1 ∧ tyF (3 * e + 4) true (tsP S V e).2
  | 0 => by
    have h := tyF_te (S := S) (sub := none) (K := 4) (by omega) (tyF_sum (S := S) (V := V) 0) (fun f hf => by cases hf)
    exact ⟨tyF_bn (tyF_bn h (fun a => rfl) (fun a => rfl)) (fun a => rfl) (fun a => rfl), h⟩
  | e + 1 => by
    have ih := tyF_ts (S := S) (V := V) e
    have h := tyF_te (S := S) (sub := some (tsP S V e)) (K := 3 * (e + 1) + 4) (by omega) (tyF_sum (S := S) (V := V) (e + 1)) (fun f hf => by
      cases hf
      exact ⟨ih.1.mono (by omega), ih.2.mono (by omega)⟩)
    exact ⟨tyF_bn (tyF_bn h (fun a => rfl) (fun a => rfl)) (fun a => rfl) (fun a => rfl), h⟩
/-- the codes of clauses are codes -/
theorem tyN_le {op : Nat → Nat} : ∀ (m i : Nat) (a r : List Bool), tyN op m i a = some r → ∀ j, i ≤ j → j < i + m → op j ≤ 18
  | 0, _, _, _, _, j, h1, h2 => by omega
  | m + 1, i, a, r, h, j, h1, h2 => by
    rw [tyN] at h
    cases h3 : ty1 (op i) a with
    | none => rw [h3] at h; cases h
    | some b =>
      rw [h3] at h
      by_cases y : j = i
      · rw [y]; exact ty1_le h3
      · exact tyN_le m (i + 1) b r h j (by omega) (by omega)
theorem tyR.le {x y : CDs} {a r : List Bool} (h : tyR x y a r) (h2 : ∀ j, j < x.1 → x.2.1 j ≤ 18) : ∀ j, j < y.1 → y.2.1 j ≤ 18 := fun j hj => by
  by_cases w : j < x.1
  · rw [h.2.1 j w]; exact h2 j w
  · exact tyN_le _ _ _ _ h.2.2 j (by omega) (by have := h.1; omega)
/-- the clauses that are read are well typed -/
def cOK (z : CSt) : Prop := z.2.1 ≤ 16 ∧ z.2.2.2.2 z.2.1 = z.1.2.1 ∧ (∀ i, i ≤ z.2.1 → z.2.2.2.2 i ≤ z.1.2.1) ∧ ∀ i, i < z.2.1 → z.2.2.1 i ≤ 3 ∧ z.2.2.2.2 i ≤ z.2.2.2.1 i ∧ z.2.2.2.1 i ≤ z.2.2.2.2 (i + 1) ∧ (z.2.2.1 i ≤ 1 → tyN z.1.2.2.1 (z.2.2.2.1 i - z.2.2.2.2 i) (z.2.2.2.2 i) [] = some [false]) ∧ (z.2.2.2.1 i = z.2.2.2.2 (i + 1) ∨ tyN z.1.2.2.1 (z.2.2.2.2 (i + 1) - z.2.2.2.1 i) (z.2.2.2.1 i) [] = some [true])
/-- all codes are codes -/
def cLE (z : CSt) : Prop := ∀ j, j < z.1.2.1 → z.1.2.2.1 j ≤ 18
theorem cLE_cl {S V : Nat → Int32} {z z2 : CSt} (h : cLE z) (hz : clP S V z = .inr z2) : cLE z2 := by
  obtain ⟨n4, n16, s1, s2, s3, e1, e2, e3, rfl⟩ := clP_inr hz
  have h3 := paP_2 e3
  have g1 : ∀ j, j < s1.2.1 → s1.2.2.1 j ≤ 18 := by
    split at e1
    · have := tyF_sum 6 _ _ e1 [] (by decide)
      rw [adP_2] at this
      exact this.le h
    · cases e1
      rw [adP_2]
      exact h
  show ∀ j, j < s3.2.1 → s3.2.2.1 j ≤ 18
  rw [h3]
  unfold ifP at e2
  split at e2
  · have := (tyF_ts 6).1 _ _ e2 [] (by decide)
    rw [adP_2] at this
    exact this.le g1
  · split at e2
    · cases e2
      exact g1
    · cases e2
theorem cLE_rd {S V : Nat → Int32} : ∀ (m : Nat) (z z2 : CSt), cLE z → rdP S V m z = .inr z2 → cLE z2
  | 0, z, z2, h, e => by rw [rdP] at e; cases e; exact h
  | m + 1, z, z2, h, e => by
    rw [rdP] at e
    split at e
    · cases e; exact h
    · cases hc : clP S V z with
      | inl x => rw [hc] at e; cases e
      | inr z1 =>
        rw [hc] at e
        exact cLE_rd m z1 z2 (cLE_cl h hc) e
theorem cLE_z0 : cLE z0P := fun j hj => absurd hj (Nat.not_lt_zero j)
theorem cOK_cl {S V : Nat → Int32} {z z2 : CSt} (h : cOK z) (hz : clP S V z = .inr z2) : cOK z2 := by
  obtain ⟨h16, hst, hle, hcl⟩ := h
  obtain ⟨n4, n16, s1, s2, s3, e1, e2, e3, rfl⟩ := clP_inr hz
  have h3 := paP_2 e3
  have hk3 : knd (S z.1.1) ≤ 3 := by
    rcases knd_or (S z.1.1) with ⟨y, _⟩ | ⟨y, _⟩
    · exact y
    · exact absurd y n4
  -- the first piece
  have g1 : z.1.2.1 ≤ s1.2.1 ∧ (∀ j, j < z.1.2.1 → s1.2.2.1 j = z.1.2.2.1 j) ∧ (knd (S z.1.1) ≤ 1 → tyN s1.2.2.1 (s1.2.1 - z.1.2.1) z.1.2.1 [] = some [false]) := by
    split at e1
    · have := tyF_sum 6 _ _ e1 [] (by decide)
      rw [adP_2] at this
      exact ⟨this.1, this.2.1, fun _ => this.2.2⟩
    · rename_i hk
      cases e1
      rw [adP_2]
      exact ⟨Nat.le_refl _, fun _ _ => rfl, fun y => absurd y hk⟩
  have g2 : s1.2.1 ≤ s2.2.1 ∧ (∀ j, j < s1.2.1 → s2.2.2.1 j = s1.2.2.1 j) ∧ (s1.2.1 = s2.2.1 ∨ tyN s2.2.2.1 (s2.2.1 - s1.2.1) s1.2.1 [] = some [true]) := by
    unfold ifP at e2
    split at e2
    · have := (tyF_ts 6).1 _ _ e2 [] (by decide)
      rw [adP_2] at this
      exact ⟨this.1, this.2.1, .inr this.2.2⟩
    · split at e2
      · cases e2
        exact ⟨Nat.le_refl _, fun _ _ => rfl, .inl rfl⟩
      · cases e2
  have hop : ∀ j, j < z.1.2.1 → s2.2.2.1 j = z.1.2.2.1 j := fun j hj => (g2.2.1 j (by have := g1.1; omega)).trans (g1.2.1 j hj)
  have l1 := g1.1
  have l2 := g2.1
  show z.2.1 + 1 ≤ 16 ∧ xat (z.2.1 + 1) s2.2.1 z.2.2.2.2 (z.2.1 + 1) = s3.2.1 ∧ (∀ i, i ≤ z.2.1 + 1 → xat (z.2.1 + 1) s2.2.1 z.2.2.2.2 i ≤ s3.2.1) ∧ ∀ i, i < z.2.1 + 1 → xat z.2.1 (knd (S z.1.1)) z.2.2.1 i ≤ 3 ∧ xat (z.2.1 + 1) s2.2.1 z.2.2.2.2 i ≤ xat z.2.1 s1.2.1 z.2.2.2.1 i ∧ xat z.2.1 s1.2.1 z.2.2.2.1 i ≤ xat (z.2.1 + 1) s2.2.1 z.2.2.2.2 (i + 1) ∧ (xat z.2.1 (knd (S z.1.1)) z.2.2.1 i ≤ 1 → tyN s3.2.2.1 (xat z.2.1 s1.2.1 z.2.2.2.1 i - xat (z.2.1 + 1) s2.2.1 z.2.2.2.2 i) (xat (z.2.1 + 1) s2.2.1 z.2.2.2.2 i) [] = some [false]) ∧ (xat z.2.1 s1.2.1 z.2.2.2.1 i = xat (z.2.1 + 1) s2.2.1 z.2.2.2.2 (i + 1) ∨ tyN s3.2.2.1 (xat (z.2.1 + 1) s2.2.1 z.2.2.2.2 (i + 1) - xat z.2.1 s1.2.1 z.2.2.2.1 i) (xat z.2.1 s1.2.1 z.2.2.2.1 i) [] = some [true])
  rw [h3]
  refine ⟨by omega, xat_at, fun i hi => ?_, fun i hi => ?_⟩
  · by_cases y : i = z.2.1 + 1
    · rw [y, xat_at]; exact Nat.le_refl _
    · rw [xat_ne y]
      have := hle i (by omega)
      omega
  · by_cases y : i = z.2.1
    · subst y
      rw [xat_at, xat_at, xat_at, xat_ne (by omega), hst]
      refine ⟨hk3, l1, l2, fun hk => ?_, g2.2.2⟩
      rw [tyN_congr (op2 := s1.2.2.1) _ _ _ (fun j j1 j2 => g2.2.1 j (by omega))]
      exact g1.2.2 hk
    · rw [xat_ne y, xat_ne y, xat_ne (by omega), xat_ne (by omega)]
      obtain ⟨a1, a2, a3, a4, a5⟩ := hcl i (by omega)
      have a6 := hle (i + 1) (by omega)
      refine ⟨a1, a2, a3, fun hk => ?_, a5.imp id (fun a5 => ?_)⟩
      · rw [tyN_congr (op2 := z.1.2.2.1) _ _ _ (fun j j1 j2 => hop j (by omega))]
        exact a4 hk
      · rw [tyN_congr (op2 := z.1.2.2.1) _ _ _ (fun j j1 j2 => hop j (by omega))]
        exact a5
theorem cOK_rd {S V : Nat → Int32} : ∀ (m : Nat) (z z2 : CSt), cOK z → rdP S V m z = .inr z2 → cOK z2
  | 0, z, z2, h, e => by rw [rdP] at e; cases e; exact h
  | m + 1, z, z2, h, e => by
    rw [rdP] at e
    split at e
    · cases e; exact h
    · cases hc : clP S V z with
      | inl x => rw [hc] at e; cases e
      | inr z1 =>
        rw [hc] at e
        exact cOK_rd m z1 z2 (cOK_cl h hc) e
theorem cOK_z0 : cOK z0P := ⟨by decide, rfl, fun _ _ => Nat.le_refl _, fun i hi => absurd hi (Nat.not_lt_zero i)⟩
theorem cOK.ok {z : CSt} (h : cOK z) (hl : z.1.2.1 ≤ 400) : rulesOK z.2.1 z.2.2.1 z.2.2.2.2 z.2.2.2.1 z.1.2.2.1 := by
  obtain ⟨h16, hst, hle, hcl⟩ := h
  exact ⟨h16, fun i hi => hcl i hi, fun _ => by rw [hst]; exact hl⟩
