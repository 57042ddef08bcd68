/-! told: the reference's way -/
theorem low3 {x y z a : Nat} (hx : x < 30) (hy : y < 30) (hz : z < 30) (h : a ≤ x ∧ a ≤ y ∧ a ≤ z ∧ (a = x ∨ a = y ∨ a = z)) {J : Int32 → Prop} (hJ : J (nI a)) : (nI y ≤ nI x → ((nI z ≤ nI y → J (nI z)) ∧ (¬ nI z ≤ nI y → J (nI y)))) ∧ (¬ nI y ≤ nI x → ((nI z ≤ nI x → J (nI z)) ∧ (¬ nI z ≤ nI x → J (nI x)))) := by
  refine br_le (by omega) (by omega) (fun h1 => br_le (by omega) (by omega) (fun h2 => ?_) (fun h2 => ?_)) (fun h1 => br_le (by omega) (by omega) (fun h2 => ?_) (fun h2 => ?_))
  · rw [show z = a by omega]; exact hJ
  · rw [show y = a by omega]; exact hJ
  · rw [show z = a by omega]; exact hJ
  · rw [show x = a by omega]; exact hJ
theorem high3 {x y z c : Nat} (hx : x < 30) (hy : y < 30) (hz : z < 30) (h : x ≤ c ∧ y ≤ c ∧ z ≤ c ∧ (c = x ∨ c = y ∨ c = z)) {J : Int32 → Prop} (hJ : J (nI c)) : (nI x ≤ nI y → ((nI y ≤ nI z → J (nI z)) ∧ (¬ nI y ≤ nI z → J (nI y)))) ∧ (¬ nI x ≤ nI y → ((nI x ≤ nI z → J (nI z)) ∧ (¬ nI x ≤ nI z → J (nI x)))) := by
  refine br_le (by omega) (by omega) (fun h1 => br_le (by omega) (by omega) (fun h2 => ?_) (fun h2 => ?_)) (fun h1 => br_le (by omega) (by omega) (fun h2 => ?_) (fun h2 => ?_))
  · rw [show z = c by omega]; exact hJ
  · rw [show y = c by omega]; exact hJ
  · rw [show z = c by omega]; exact hJ
  · rw [show x = c by omega]; exact hJ
theorem mid3 {x y z a b c : Nat} (h : x + y + z = a + b + c) : ((nI x + nI y + nI z) - nI a) - nI c = nI b := by
  rw [nI_add, nI_add, h, nI_sub (by omega), nI_sub (by omega), show a + b + c - a - c = b by omega]
def M3 (u : Nat → Nat → Int32) (a b c : Nat) : Int32 := minI (u a b) (minI (u a c) (u b c))
theorem p_told {s0 : gSt} {N : Nat} {wt : Nat → Nat → Int32} {nv ti ap : Nat → Nat → Bool} {u : Nat → Nat → Int32} {R : Nat} {hs : Bool} {x y z a b c : Nat} {v : Int32} {Q : Int64 → gSt → Prop} (h30 : N ≤ 30) (hS : pwS N wt nv ti ap) (hN : s0.1 65 1 = nI N)
    (hM : ∀ (s : gSt) (Q : gSt → Prop), Fr scrC scrJ s0 s → (∀ t, Off [86, 90, 91, 92, 93] s t → pwM t N wt nv ti ap → Q t) → W_X12_weighs Q s)
    (hab : a < b) (hbc : b < c) (hc : c < N) (hp : (x = a ∨ x = b ∨ x = c) ∧ (y = a ∨ y = b ∨ y = c) ∧ (z = a ∨ z = b ∨ z = c) ∧ x ≠ y ∧ x ≠ z ∧ y ≠ z)
    (hv : (!decide (v < nI 1) && !decide ((1000000 : Int32) < v)) = true) (hR : s0.1 65 56 = nI R) (hR40 : R ≤ 40) (hhs : s0.1 65 60 = zI hs)
    (hu1 : hs = true → ∀ i j, i < j → j < N → s0.1 101 (30 * i + j) = u i j) (hu0 : hs = false → ∀ i j, i < j → j < N → rst wt nv i j = u i j)
    (q1 : ringP wt nv a b c = false → ∀ t, Fr [86, 90, 91, 92, 93] [0] s0 t → t.1 65 0 = nI 0 → Q (-1) t)
    (q2 : ringP wt nv a b c = true → ∀ t, Fr [86, 90, 91, 92, 93, 101] [0, 60] s0 t → t.1 65 0 = nI 0 → t.1 65 60 = nI 1 → (∀ i j, i < j → j < N → t.1 101 (30 * i + j) = u i j) → (¬ v ≤ M3 u a b c → Q (-2) t) ∧ (v ≤ M3 u a b c → R = 40 → Q (-3) t))
    (q3 : ringP wt nv a b c = true → v ≤ M3 u a b c → R < 40 → ∀ t, Fr [86, 90, 91, 92, 93, 101] [0, 56, 57, 60] s0 t → t.1 65 0 = nI 0 → t.1 65 60 = nI 1 → t.1 65 56 = nI (R + 1) → t.2.1 65 57 = s0.2.1 65 57 + i2l v → (∀ i j, i < j → j < N → t.1 101 (30 * i + j) = if (i = a ∧ j = b) ∨ (i = a ∧ j = c) ∨ (i = b ∧ j = c) then u i j - v else u i j) → Q (s0.2.1 65 57 + i2l v) t) : W_X12_told (nI x) (nI y) (nI z) v Q s0 := by
  refine fI_i ?_
  have f1 : Fr [] [0] s0 (sI s0 65 0 (nI 0)) := Fr.rf.f (by simp)
  have n1 : (sI s0 65 0 (nI 0)).1 65 1 = nI N := hN
  have e1 : (sI s0 65 0 (nI 0)).1 65 0 = nI 0 := rfl
  refine p_isE (N := N) n1 h30 rfl (by omega) (bq_f (by decide) (p_isE (N := N) n1 h30 rfl (by omega) (bq_f (by decide) (p_isE (N := N) n1 h30 rfl (by omega) (bq_f (by decide) ?_)))))
  intro J12 hJ12 J40 hJ40
  refine bq_f (by rw [nI_eq (by omega) (by omega)]; omega) (bq_f (by rw [nI_eq (by omega) (by omega)]; omega) (bq_f (by rw [nI_eq (by omega) (by omega)]; omega) (p_within ?_)))
  rw [hv]
  refine bq_f (by decide) (hJ12 _ (p_may_ok (by decide) rfl (bq_f (by decide) ?_)))
  intro J17 hJ17
  refine low3 (a := a) (by omega) (by omega) (by omega) (by omega) (hJ17 _ ?_)
  intro J19 hJ19
  refine high3 (c := c) (by omega) (by omega) (by omega) (by omega) (hJ19 _ ?_)
  rw [mid3 (b := b) (by omega)]
  refine hM _ _ (f1.scr (by decide) (by decide)) (fun t hO hw => ?_)
  have f2 : Fr [86, 90, 91, 92, 93] [0] s0 t := (f1.mono (by simp) (by simp)).trans ((Fr.of (js := []) hO (by decide)).mono (by simp) (by simp))
  have t0 : t.1 65 0 = nI 0 := by rw [(hO.1 65 (by decide)).1]; exact e1
  refine p_isRing hw hS h30 (by omega) (by omega) (by omega) (by omega) (by omega) (by omega) (br_z (fun hr => q1 hr t f2 t0) (fun hr => ?_))
  intro J24 hJ24
  have go : ∀ t2, Fr [86, 90, 91, 92, 93, 101] [0] s0 t2 → t2.1 65 0 = nI 0 → (∀ i j, i < j → j < N → t2.1 101 (30 * i + j) = u i j) → J24 t2 := by
    intro t2 g2 z0 hu
    refine hJ24 t2 (fZ_i (.inr rfl) ?_)
    obtain ⟨t3, ht3⟩ : ∃ q, q = sI t2 65 60 (nI 1) := ⟨_, rfl⟩
    rw [← ht3]
    have g3 : Fr [86, 90, 91, 92, 93, 101] [0, 60] s0 t3 := by rw [ht3]; exact (g2.mono (by simp) (by simp)).f (by simp)
    have u3 : ∀ i j, i < j → j < N → t3.1 101 (30 * i + j) = u i j := fun i j h1 h2 => by rw [ht3]; exact hu i j h1 h2
    have z3 : t3.1 65 0 = nI 0 := by rw [ht3, sI_get, if_neg (by decide)]; exact z0
    have s3 : t3.1 65 60 = nI 1 := by rw [ht3, sI_get, if_pos ⟨rfl, rfl⟩]
    refine p_leastRest rfl (by omega) (by omega) (by omega) ?_
    rw [u3 a b hab (by omega), u3 a c (by omega) hc, u3 b c hbc hc]
    have q2 := q2 hr t3 g3 z3 s3 u3
    refine ⟨fun hle => ?_, fun hle => q2.1 hle⟩
    rw [(g3.2.1 56 (by decide)).1, hR]
    refine br_eq (by omega) (by decide) (fun h40 => q2.2 hle h40) (fun h40 => fI_i ?_)
    rw [nI_add]
    refine p_takesRest rfl (by omega) (by omega) (by omega) hab hbc (fun t4 hO4 h4 => fL_i ?_)
    have e57 : t4.2.1 65 57 = s0.2.1 65 57 := by rw [(hO4.1 65 (by decide)).2]; exact (g3.2.1 57 (by decide)).2
    rw [e57]
    have q3 := q3 hr hle (by omega) (sL t4 65 57 (s0.2.1 65 57 + i2l v)) ((((g3.mono (by simp) (by simp)).f (by simp)).trans ((Fr.of (js := []) hO4 (by decide)).mono (by simp) (by simp))).g (by simp)) ?_ ?_ ?_ ?_ ?_
    · show Q ((sL t4 65 57 (s0.2.1 65 57 + i2l v)).2.1 65 57) (sL t4 65 57 (s0.2.1 65 57 + i2l v))
      rw [show (sL t4 65 57 (s0.2.1 65 57 + i2l v)).2.1 65 57 = s0.2.1 65 57 + i2l v by simp [sL, vp_updL]]
      exact q3
    · show t4.1 65 0 = _
      rw [(hO4.1 65 (by decide)).1, sI_get, if_neg (by decide)]; exact z3
    · show t4.1 65 60 = _
      rw [(hO4.1 65 (by decide)).1, sI_get, if_neg (by decide)]; exact s3
    · show t4.1 65 56 = _
      rw [(hO4.1 65 (by decide)).1, sI_get, if_pos ⟨rfl, rfl⟩]
    · simp [sL, vp_updL]
    · intro i j h1 h2
      show t4.1 101 _ = _
      rw [h4 i j h1 (by omega)]
      have e : (sI t3 65 56 (nI (R + 1))).1 101 (30 * i + j) = u i j := u3 i j h1 h2
      rw [e]
  rw [(f2.2.1 60 (by decide)).1, hhs]
  refine br_z (fun e => ?_) (fun e => go t (f2.mono (by simp) (by simp)) t0 (fun i j h1 h2 => by rw [(f2.1 101 (by decide) (by decide)).1]; exact hu1 e i j h1 h2))
  refine p_setRests ((f2.2.1 1 (by decide)).1.trans hN) hw h30 rfl (.inr rfl) (fun t2 hO2 h2 => go t2 ((f2.mono (by simp) (by simp)).trans ((Fr.of (js := []) hO2 (by decide)).mono (by simp) (by simp))) (by rw [(hO2.1 65 (by decide)).1]; exact t0) (fun i j h3 h4 => by rw [h2 i j h3 h4]; exact hu0 e i j h3 h4))
