/-! lawful heapings, and what of them a change may break -/
def lawP (N most : Nat) (ap ti : Nat → Nat → Bool) (f : Nat → Nat) : Prop := (∀ i j, i < j → j < N → (f i = f j → ap i j = false) ∧ (¬ f i = f j → ti i j = false)) ∧ (0 < most → ∀ v, fb_ct (fun i => decide (f i = v)) N ≤ most)
theorem law_iff {N most : Nat} {ap ti : Nat → Nat → Bool} {f : Nat → Nat} : fa_first (fun e => offM ap ti f most e) N = N ↔ lawP N most ap ti f := by
  constructor
  · intro h
    have ho : ∀ e, e < N → offM ap ti f most e = false := fun e he => fa_first_no (fun e => offM ap ti f most e) N e (by rw [h]; exact he)
    refine ⟨fun i j hij hj => ?_, fun hm v => ?_⟩
    · have h1 := ho j hj
      unfold offM at h1
      rw [Bool.or_eq_false_iff] at h1
      have h2 : ¬ (anyB (fun i => if f i = f j then ap i j else ti i j) j = true) := by rw [h1.1]; decide
      rw [anyB_iff] at h2
      have h3 : ¬ ((if f i = f j then ap i j else ti i j) = true) := fun q => h2 ⟨i, hij, q⟩
      refine ⟨fun q => ?_, fun q => ?_⟩
      · rw [if_pos q] at h3; exact ts_nt h3
      · rw [if_neg q] at h3; exact ts_nt h3
    · by_cases hz : 0 < fb_ct (fun i => decide (f i = v)) N
      · obtain ⟨i, hi, hp⟩ := fb_ct_pos.mp hz
        obtain ⟨j, hj, hpj, hl⟩ := fb_last (p := fun i => f i = v) (n := N) ⟨i, hi, of_decide_eq_true hp⟩
        have h1 := ho j hj
        unfold offM at h1
        rw [Bool.or_eq_false_iff] at h1
        have h2 : ¬ (decide (0 < most) && decide (most < fa_cnt (fun i => decide (f i = f j)) j + 1)) = true := by rw [h1.2]; decide
        have h3 : ¬ most < fa_cnt (fun i => decide (f i = f j)) j + 1 := fun q => h2 (by rw [decide_eq_true hm, decide_eq_true q]; rfl)
        rw [hpj, fa_fb] at h3
        have h4 : fb_ct (fun i => decide (f i = v)) N = fb_ct (fun i => decide (f i = v)) (j + 1) := by
          have hs := fb_ct_split (fun i => decide (f i = v)) (j + 1) (N - (j + 1))
          rw [show j + 1 + (N - (j + 1)) = N by omega] at hs
          have hz2 : fb_ct (fun k => decide (f (j + 1 + k) = v)) (N - (j + 1)) = 0 := fb_ct_zero.mpr (fun k hk => decide_eq_false (hl _ (by omega) (by omega)))
          omega
        rw [h4, fb_ct_succ, if_pos (by simpa using hpj)]
        omega
      · omega
  · intro h
    have hle := fa_first_le (fun e => offM ap ti f most e) N
    by_cases hlt : fa_first (fun e => offM ap ti f most e) N < N
    · exfalso
      have hy := fa_first_yes (fun e => offM ap ti f most e) N hlt
      revert hy
      generalize fa_first (fun e => offM ap ti f most e) N = j at hlt ⊢
      intro hy
      have hy : offM ap ti f most j = true := hy
      unfold offM at hy
      rw [Bool.or_eq_true] at hy
      rcases hy with hy | hy
      · rw [anyB_iff] at hy
        obtain ⟨i, hi, hp⟩ := hy
        have hp : (if f i = f j then ap i j else ti i j) = true := hp
        have := h.1 i j hi hlt
        by_cases q : f i = f j
        · rw [if_pos q, this.1 q] at hp; cases hp
        · rw [if_neg q, this.2 q] at hp; cases hp
      · rw [Bool.and_eq_true] at hy
        have h1 := of_decide_eq_true hy.1
        have h2 := of_decide_eq_true hy.2
        have h3 := h.2 h1 (f j)
        rw [fa_fb] at h2
        have h4 := fb_ct_mono (fun i => decide (f i = f j)) (show j + 1 ≤ N by omega)
        rw [fb_ct_succ, if_pos (by simp)] at h4
        omega
    · omega
def symB (N : Nat) (r : Nat → Nat → Bool) : Prop := ∀ a c, a < N → c < N → a ≠ c → r a c = r c a
theorem lawP.get {N most : Nat} {ap ti : Nat → Nat → Bool} {f : Nat → Nat} (h : lawP N most ap ti f) (hap : symB N ap) (hti : symB N ti) {i j : Nat} (hi : i < N) (hj : j < N) (hne : i ≠ j) : (f i = f j → ap i j = false) ∧ (¬ f i = f j → ti i j = false) := by
  by_cases hlt : i < j
  · exact h.1 i j hlt hj
  · have := h.1 j i (by omega) hi
    rw [hap i j hi hj hne, hti i j hi hj hne]
    exact ⟨fun q => this.1 q.symm, fun q => this.2 (fun q2 => q q2.symm)⟩
theorem upN_ct (f : Nat → Nat) (e v u : Nat) {N : Nat} (he : e < N) : fb_ct (fun i => decide (upN f e v i = u)) N + (if f e = u then 1 else 0) = fb_ct (fun i => decide (f i = u)) N + (if v = u then 1 else 0) := by
  have h := fb_ct_upd (fun i => decide (f i = u)) (decide (v = u)) he
  have e1 : (fun k => if k = e then decide (v = u) else decide (f k = u)) = fun i => decide (upN f e v i = u) := funext fun k => by
    unfold upN
    by_cases z : k = e
    · rw [if_pos z, if_pos z]
    · rw [if_neg z, if_neg z]
  rw [e1] at h
  simpa using h
theorem ct_pos {f : Nat → Nat} {e N : Nat} (he : e < N) : 0 < fb_ct (fun i => decide (f i = f e)) N := fb_ct_pos.mpr ⟨e, he, by simp⟩
theorem law_go {N most : Nat} {ap ti : Nat → Nat → Bool} {f : Nat → Nat} (h : lawP N most ap ti f) (hap : symB N ap) (hti : symB N ti) {e v : Nat} (he : e < N) (hv : v ≠ f e) : lawP N most ap ti (upN f e v) ↔ (∀ k, k < N → k ≠ e → f k = f e → ti e k = false) ∧ (∀ k, k < N → f k = v → ap e k = false) ∧ (0 < most → fb_ct (fun i => decide (f i = v)) N + 1 ≤ most) := by
  have ue : upN f e v e = v := if_pos rfl
  have uo : ∀ k, k ≠ e → upN f e v k = f k := fun k hk => if_neg hk
  constructor
  · intro g
    refine ⟨fun k hk hne q => ?_, fun k hk q => ?_, fun hm => ?_⟩
    · have := (g.get hap hti he hk (Ne.symm hne)).2
      rw [ue, uo k hne] at this
      exact this (by omega)
    · have hne : k ≠ e := fun z => hv (by rw [← q, z])
      have := (g.get hap hti he hk (Ne.symm hne)).1
      rw [ue, uo k hne] at this
      exact this q.symm
    · have h1 := g.2 hm v
      have h2 := upN_ct f e v v he
      rw [if_neg (Ne.symm hv), if_pos rfl] at h2
      omega
  · rintro ⟨g1, g2, g3⟩
    refine ⟨fun i j hij hj => ?_, fun hm u => ?_⟩
    · by_cases zi : i = e
      · subst zi
        rw [ue, uo j (by omega)]
        refine ⟨fun q => g2 j hj q.symm, fun q => ?_⟩
        by_cases q2 : f j = f i
        · exact g1 j hj (by omega) q2
        · exact (h.get hap hti he hj (by omega)).2 (fun q3 => q2 q3.symm)
      · by_cases zj : j = e
        · subst zj
          rw [ue, uo i zi, hap i j (by omega) hj (by omega), hti i j (by omega) hj (by omega)]
          refine ⟨fun q => g2 i (by omega) q, fun q => ?_⟩
          by_cases q2 : f i = f j
          · exact g1 i (by omega) zi q2
          · exact (h.get hap hti hj (by omega) (by omega)).2 (fun q3 => q2 q3.symm)
        · rw [uo i zi, uo j zj]
          exact h.1 i j hij hj
    · have h2 := upN_ct f e v u he
      have h3 := h.2 hm u
      by_cases z : v = u
      · subst z
        rw [if_neg (Ne.symm hv), if_pos rfl] at h2
        have := g3 hm
        omega
      · rw [if_neg z] at h2
        omega
theorem law_join {N most : Nat} {ap ti : Nat → Nat → Bool} {f : Nat → Nat} (h : lawP N most ap ti f) (hap : symB N ap) (hti : symB N ti) {x y : Nat} (hxy : x ≠ y) : lawP N most ap ti (fun k => if f k = y then x else f k) ↔ (∀ i j, i < N → j < N → f i = x → f j = y → ap i j = false) ∧ (0 < most → fb_ct (fun i => decide (f i = x)) N + fb_ct (fun i => decide (f i = y)) N ≤ most) := by
  have hct : fb_ct (fun i => decide ((if f i = y then x else f i) = x)) N = fb_ct (fun i => decide (f i = x)) N + fb_ct (fun i => decide (f i = y)) N := by
    rw [← fb_ct_or (fun k _ q => hxy (by rw [← of_decide_eq_true q.1, of_decide_eq_true q.2]))]
    refine fb_ct_cong (fun k _ => ?_)
    by_cases z : f k = y
    · simp [z]
    · simp [z]
  constructor
  · intro g
    refine ⟨fun i j hi hj q1 q2 => ?_, fun hm => ?_⟩
    · have hne : i ≠ j := fun z => hxy (by rw [← q1, ← q2, z])
      have := (g.get hap hti hi hj hne).1
      simp only [q1, q2, if_neg hxy, if_true] at this
      exact this trivial
    · have := g.2 hm x
      rw [hct] at this
      exact this
  · rintro ⟨g1, g2⟩
    refine ⟨fun i j hij hj => ?_, fun hm u => ?_⟩
    · have hl := h.1 i j hij hj
      by_cases zi : f i = y
      · by_cases zj : f j = y
        · simp only [zi, zj, if_true]
          exact ⟨fun _ => hl.1 (by rw [zi, zj]), fun q => absurd trivial q⟩
        · simp only [zi, if_true, if_neg zj]
          refine ⟨fun q => ?_, fun q => hl.2 (fun q2 => zj (by rw [← q2, zi]))⟩
          rw [hap i j (by omega) hj (by omega)]
          exact g1 j i hj (by omega) q.symm zi
      · by_cases zj : f j = y
        · simp only [zj, if_true, if_neg zi]
          exact ⟨fun q => g1 i j (by omega) hj q zj, fun q => hl.2 (fun q2 => zi (by rw [q2, zj]))⟩
        · simp only [if_neg zi, if_neg zj]
          exact hl
    · by_cases z : u = x
      · subst z
        rw [hct]; exact g2 hm
      · refine Nat.le_trans (fb_ct_sub (fun k _ q => ?_)) (h.2 hm u)
        have q : (if f k = y then x else f k) = u := of_decide_eq_true q
        by_cases zk : f k = y
        · rw [if_pos zk] at q; exact absurd q.symm z
        · rw [if_neg zk] at q; exact decide_eq_true q
theorem law_swap {N most : Nat} {ap ti : Nat → Nat → Bool} {f : Nat → Nat} (h : lawP N most ap ti f) (hap : symB N ap) (hti : symB N ti) {a b : Nat} (ha : a < N) (hb : b < N) (hxy : f a ≠ f b) : lawP N most ap ti (upN (upN f a (f b)) b (f a)) ↔ (∀ k, k < N → k ≠ a → f k = f a → ti a k = false) ∧ (∀ k, k < N → k ≠ b → f k = f b → ti b k = false) ∧ (∀ k, k < N → k ≠ b → f k = f b → ap a k = false) ∧ (∀ k, k < N → k ≠ a → f k = f a → ap b k = false) := by
  have hab : a ≠ b := fun e => hxy (by rw [e])
  have ua : upN (upN f a (f b)) b (f a) a = f b := by unfold upN; rw [if_neg hab, if_pos rfl]
  have ub : upN (upN f a (f b)) b (f a) b = f a := if_pos rfl
  have uo : ∀ k, k ≠ a → k ≠ b → upN (upN f a (f b)) b (f a) k = f k := fun k h1 h2 => by unfold upN; rw [if_neg h2, if_neg h1]
  constructor
  · intro g
    refine ⟨fun k hk hne q => ?_, fun k hk hne q => ?_, fun k hk hne q => ?_, fun k hk hne q => ?_⟩
    · have := (g.get hap hti ha hk (Ne.symm hne)).2
      rw [ua, uo k hne (fun z => hxy (by rw [← q, z]))] at this
      exact this (fun q2 => hxy (by rw [q2, q]))
    · have := (g.get hap hti hb hk (Ne.symm hne)).2
      rw [ub, uo k (fun z => hxy (by rw [← q, z])) hne] at this
      exact this (fun q2 => hxy (by rw [q2, q]))
    · have hka : k ≠ a := fun z => hxy (by rw [← q, z])
      have := (g.get hap hti ha hk (Ne.symm hka)).1
      rw [ua, uo k hka hne] at this
      exact this q.symm
    · have hkb : k ≠ b := fun z => hxy (by rw [← q, z])
      have := (g.get hap hti hb hk (Ne.symm hkb)).1
      rw [ub, uo k hne hkb] at this
      exact this q.symm
  · rintro ⟨g1, g2, g3, g4⟩
    have key : ∀ i j, i < N → j < N → i ≠ j → (upN (upN f a (f b)) b (f a) i = upN (upN f a (f b)) b (f a) j → ap i j = false) ∧ (¬ upN (upN f a (f b)) b (f a) i = upN (upN f a (f b)) b (f a) j → ti i j = false) := by
      have half : ∀ i j, i < N → j < N → i ≠ j → (i = a ∨ i = b ∨ (i ≠ a ∧ i ≠ b ∧ j ≠ a ∧ j ≠ b)) → (upN (upN f a (f b)) b (f a) i = upN (upN f a (f b)) b (f a) j → ap i j = false) ∧ (¬ upN (upN f a (f b)) b (f a) i = upN (upN f a (f b)) b (f a) j → ti i j = false) := by
        intro i j hi hj hne hc
        have hl := h.get hap hti hi hj hne
        rcases hc with rfl | rfl | ⟨c1, c2, c3, c4⟩
        · by_cases zb : j = b
          · subst zb
            rw [ua, ub]
            exact ⟨fun q => absurd q.symm hxy, fun _ => hl.2 hxy⟩
          · rw [ua, uo j (Ne.symm hne) zb]
            refine ⟨fun q => g3 j hj zb q.symm, fun q => ?_⟩
            by_cases q2 : f j = f i
            · exact g1 j hj (Ne.symm hne) q2
            · exact hl.2 (fun q3 => q2 q3.symm)
        · by_cases za : j = a
          · subst za
            rw [ua, ub]
            exact ⟨fun q => absurd q hxy, fun _ => hl.2 (Ne.symm hxy)⟩
          · rw [ub, uo j za (Ne.symm hne)]
            refine ⟨fun q => g4 j hj za q.symm, fun q => ?_⟩
            by_cases q2 : f j = f i
            · exact g2 j hj (Ne.symm hne) q2
            · exact hl.2 (fun q3 => q2 q3.symm)
        · rw [uo i c1 c2, uo j c3 c4]
          exact hl
      intro i j hi hj hne
      by_cases c : i = a ∨ i = b ∨ (i ≠ a ∧ i ≠ b ∧ j ≠ a ∧ j ≠ b)
      · exact half i j hi hj hne c
      · have := half j i hj hi (Ne.symm hne) (by omega)
        rw [hap i j hi hj hne, hti i j hi hj hne]
        exact ⟨fun q => this.1 q.symm, fun q => this.2 (fun q2 => q q2.symm)⟩
    refine ⟨fun i j hij hj => key i j (by omega) hj (by omega), fun hm u => ?_⟩
    have c1 := upN_ct f a (f b) u ha
    have c2 := upN_ct (upN f a (f b)) b (f a) u hb
    have fb : upN f a (f b) b = f b := if_neg (Ne.symm hab)
    rw [fb] at c2
    have := h.2 hm u
    omega
