/-! predicates of programs, proved: steps -/
theorem rI_i {σ : gSt} {k len a : Nat} {Q : Int32 → Prop} (h : a < len) (q : Q (σ.1 k a)) : rI σ k len (nI a) Q := ⟨a, rfl, h, q⟩
theorem rI_e {σ : gSt} {k len a : Nat} {j : Int32} {Q : Int32 → Prop} (e : j = nI a) (h : a < len) (q : Q (σ.1 k a)) : rI σ k len j Q := ⟨a, e, h, q⟩
theorem rL_e {σ : gSt} {k len a : Nat} {j : Int32} {Q : Int64 → Prop} (e : j = nI a) (h : a < len) (q : Q (σ.2.1 k a)) : rL σ k len j Q := ⟨a, e, h, q⟩
theorem wI_i {σ : gSt} {k len a : Nat} {x : Int32} {Q : gSt → Prop} (h : a < len) (q : Q (sI σ k a x)) : wI σ k len (nI a) x Q := ⟨a, rfl, h, fun s e => e ▸ q⟩
theorem wI_e {σ : gSt} {k len a : Nat} {j x : Int32} {Q : gSt → Prop} (e : j = nI a) (h : a < len) (q : Q (sI σ k a x)) : wI σ k len j x Q := ⟨a, e, h, fun s e => e ▸ q⟩
theorem wZ_e {σ : gSt} {k len a : Nat} {j x : Int32} {Q : gSt → Prop} (hx : x = 0 ∨ x = 1) (e : j = nI a) (h : a < len) (q : Q (sI σ k a x)) : wZ σ k len j x Q := ⟨hx, a, e, h, fun s e => e ▸ q⟩
theorem wL_e {σ : gSt} {k len a : Nat} {j : Int32} {x : Int64} {Q : gSt → Prop} (e : j = nI a) (h : a < len) (q : Q (sL σ k a x)) : wL σ k len j x Q := ⟨a, e, h, fun s e => e ▸ q⟩
theorem fI_i {σ : gSt} {k j : Nat} {x : Int32} {Q : gSt → Prop} (q : Q (sI σ k j x)) : fI σ k j x Q := fun s e => e ▸ q
theorem fL_i {σ : gSt} {k j : Nat} {x : Int64} {Q : gSt → Prop} (q : Q (sL σ k j x)) : fL σ k j x Q := fun s e => e ▸ q
theorem fZ_i {σ : gSt} {k j : Nat} {x : Int32} {Q : gSt → Prop} (hx : x = 0 ∨ x = 1) (q : Q (sI σ k j x)) : fZ σ k j x Q := ⟨hx, fun s e => e ▸ q⟩
theorem bq_t {C A B : Prop} (h : C) (a : A) : (C → A) ∧ (¬ C → B) := ⟨fun _ => a, fun n => absurd h n⟩
theorem bq_f {C A B : Prop} (h : ¬ C) (b : B) : (C → A) ∧ (¬ C → B) := ⟨fun c => absurd c h, fun _ => b⟩
theorem br_le {a i : Nat} {A B : Prop} (ha : a < 2147483648) (hi : i < 2147483648) (t : a ≤ i → A) (f : i < a → B) : (nI a ≤ nI i → A) ∧ (¬ nI a ≤ nI i → B) := ⟨fun h => t ((nI_leI ha hi).mp h), fun h => f (by rw [nI_leI ha hi] at h; omega)⟩
theorem br_lt {a i : Nat} {A B : Prop} (ha : a < 2147483648) (hi : i < 2147483648) (t : a < i → A) (f : i ≤ a → B) : (nI a < nI i → A) ∧ (¬ nI a < nI i → B) := ⟨fun h => t ((nI_ltI ha hi).mp h), fun h => f (by rw [nI_ltI ha hi] at h; omega)⟩
theorem br_eq {a i : Nat} {A B : Prop} (ha : a < 2147483648) (hi : i < 2147483648) (t : a = i → A) (f : ¬ a = i → B) : (nI a = nI i → A) ∧ (¬ nI a = nI i → B) := ⟨fun h => t ((nI_eq ha hi).mp h), fun h => f (by rw [nI_eq ha hi] at h; exact h)⟩
theorem br_z {b : Bool} {A B : Prop} (t : b = false → A) (f : b = true → B) : (zI b = 0 → A) ∧ (¬ zI b = 0 → B) := ⟨fun h => t (zI_eq.mp h), fun h => f (by cases b; exact absurd (zI_eq.mpr rfl) h; rfl)⟩
/-- a value that both ways of a test bring -/
theorem jn_z {C : Prop} {R : Int32 → Prop} (b : Bool) (hb : b = true ↔ C) (h : R (zI b)) : ∀ J : Int32 → Prop, (∀ v, R v → J v) → ((C → J (nI 1)) ∧ (¬ C → J (nI 0))) := fun J hJ => ⟨fun c => hJ _ (by rw [hb.mpr c] at h; exact h), fun c => hJ _ (by rw [show b = false by cases b; rfl; exact absurd (hb.mp rfl) c] at h; exact h)⟩
theorem jn_zn {C : Prop} {R : Int32 → Prop} (b : Bool) (hb : b = true ↔ ¬ C) (h : R (zI b)) : ∀ J : Int32 → Prop, (∀ v, R v → J v) → ((C → J (nI 0)) ∧ (¬ C → J (nI 1))) := fun J hJ => ⟨fun c => hJ _ (by rw [show b = false by cases b; rfl; exact absurd c (hb.mp rfl)] at h; exact h), fun c => hJ _ (by rw [hb.mpr c] at h; exact h)⟩
theorem nI_m1 (j : Nat) : nI (j + 1) + (-1 : Int32) = nI j := by
  rw [nI_succ, Int32.add_assoc]
  show nI j + (1 + -1) = nI j
  rw [show (1 + -1 : Int32) = 0 by decide, Int32.add_zero]
theorem nI_pre {N : Nat} (h : 1 ≤ N) : nI N - nI 1 = nI (N - 1) := nI_sub h
theorem m1_neg : (nI 0 + (-1 : Int32)) < 0 := by decide
theorem nI_sub1 (N : Nat) : nI N - nI 1 = nI N + (-1 : Int32) := by
  rw [Int32.sub_eq_add_neg]; rfl
/-- a number of an entry, or none -/
theorem ent_or (p : Int32) (N : Nat) (hN : N ≤ 1000) : (∃ e, e < N ∧ p = nI e) ∨ ((p < 0 ∨ nI N ≤ p) ∧ ∀ e, e < N → ¬ p = nI e) := by
  by_cases h : p < 0
  · refine .inr ⟨.inl h, fun e he h2 => ?_⟩
    subst h2
    exact absurd h (nI_pos (by omega))
  · obtain ⟨j, hj, rfl⟩ := nI_of h
    by_cases hlt : j < N
    · exact .inl ⟨j, hlt, rfl⟩
    · refine .inr ⟨.inr (nI_le (by omega) hj), fun e he h2 => ?_⟩
      rw [nI_eq hj (by omega)] at h2
      omega
/-! the model's small ones -/
theorem p_may_ok {p0 p1 : Int32} {Q : Int32 → gSt → Prop} {σ : gSt} (h : ¬ p0 = 0) (h0 : σ.1 65 0 = nI 0) (q : Q (nI 1) σ) : W_X12_may p0 p1 Q σ := by
  intro J hJ
  exact bq_f h (hJ σ (bq_t h0 q))
theorem p_may_bad {p0 p1 : Int32} {Q : Int32 → gSt → Prop} {σ : gSt} (h : p0 = 0) (h1 : ¬ p1 = 0) (h0 : σ.1 65 0 = nI 0) (q : Q (nI 0) (sI σ 65 0 p1)) : W_X12_may p0 p1 Q σ := by
  intro J hJ
  refine bq_t h (bq_t h0 (fI_i (hJ _ (bq_f (by rw [sI_get]; simpa using h1) q))))
theorem p_within {p lo hi : Int32} {Q : Int32 → Prop} {σ : gSt} (q : Q (zI (!decide (p < lo) && !decide (hi < p)))) : W_X12_within p lo hi Q σ := by
  unfold W_X12_within
  by_cases h1 : p < lo
  · simp only [h1, decide_true, Bool.not_true, Bool.false_and] at q
    exact bq_t h1 q
  · by_cases h2 : hi < p
    · simp only [h1, h2, decide_true, decide_false, Bool.not_true, Bool.not_false, Bool.true_and] at q
      exact bq_f h1 (bq_t h2 q)
    · simp only [h1, h2, decide_false, Bool.not_false, Bool.and_self] at q
      exact bq_f h1 (bq_f h2 q)
theorem p_isE {N e : Nat} {Q : Int32 → gSt → Prop} {σ : gSt} (hN : σ.1 65 1 = nI N) (h30 : N ≤ 30) (h0 : σ.1 65 0 = nI 0) (he : e < N) (q : Q (nI 1) σ) : W_X12_isEntry (nI e) Q σ := by
  unfold W_X12_isEntry
  refine p_within ?_
  rw [hN, nI_pre (by omega)]
  have h1 : ¬ nI e < nI 0 := by rw [nI_ltI (by omega) (by omega)]; omega
  have h2 : ¬ nI (N - 1) < nI e := by rw [nI_ltI (by omega) (by omega)]; omega
  simp only [h1, h2, decide_false, Bool.not_false, Bool.and_self]
  exact p_may_ok (by decide) h0 ⟨.inr rfl, q⟩
theorem p_isE_no {N : Nat} {p : Int32} {Q : Int32 → gSt → Prop} {σ : gSt} (hN : σ.1 65 1 = nI N) (h30 : N ≤ 30) (h0 : σ.1 65 0 = nI 0) (he : p < 0 ∨ nI N ≤ p) (q : Q (nI 0) (sI σ 65 0 (nI 1))) : W_X12_isEntry p Q σ := by
  unfold W_X12_isEntry
  refine p_within ?_
  have h1 : (!decide (p < nI 0) && !decide (σ.1 65 1 - nI 1 < p)) = false := by
    rw [hN]
    rcases he with h | h
    · have h1 : p < nI 0 := h
      simp [h1]
    · by_cases hp : p < nI 0
      · simp [hp]
      · obtain ⟨j, hj, rfl⟩ := nI_of hp
        rw [nI_leI (by omega) hj] at h
        by_cases hz : N = 0
        · subst hz
          have : nI 0 - nI 1 < nI j := by
            rw [show nI 0 - nI 1 = (-1 : Int32) by decide, fa_lt, nI_toInt hj]
            show (-1 : Int) < j
            omega
          simp [this]
        · rw [nI_pre (by omega)]
          have : nI (N - 1) < nI j := by rw [nI_ltI (by omega) hj]; omega
          simp [this]
  rw [h1]
  exact p_may_bad rfl (by decide) h0 ⟨.inl rfl, q⟩
theorem p_isP {N a c : Nat} {Q : Int32 → gSt → Prop} {σ : gSt} (hN : σ.1 65 1 = nI N) (h30 : N ≤ 30) (h0 : σ.1 65 0 = nI 0) (ha : a < N) (hc : c < N) (hne : a ≠ c) (q : Q (nI 1) σ) : W_X12_isPair (nI a) (nI c) Q σ := by
  unfold W_X12_isPair
  refine p_isE hN h30 h0 ha (bq_f (by decide) (p_isE hN h30 h0 hc (bq_f (by decide) ?_)))
  refine jn_zn true (by simp only [true_iff]; rw [nI_eq (by omega) (by omega)]; exact hne) ?_
  exact p_may_ok (by decide) h0 (bq_f (by decide) q)
/-- a pair that is none: what is thrown -/
theorem p_isP_no {N : Nat} {p r : Int32} {Q : Int32 → gSt → Prop} {σ : gSt} (hN : σ.1 65 1 = nI N) (h30 : N ≤ 30) (h0 : σ.1 65 0 = nI 0) (k : Nat) (hk : (k = 1 ∧ ((p < 0 ∨ nI N ≤ p) ∨ (r < 0 ∨ nI N ≤ r))) ∨ (k = 2 ∧ p = r ∧ ∃ e, e < N ∧ p = nI e)) (q : Q (nI 0) (sI σ 65 0 (nI k))) : W_X12_isPair p r Q σ := by
  unfold W_X12_isPair
  rcases hk with ⟨rfl, h⟩ | ⟨rfl, rfl, e, he, rfl⟩
  · rcases ent_or p N (by omega) with ⟨e, he, rfl⟩ | ⟨hp, hp2⟩
    · have hr : r < 0 ∨ nI N ≤ r := by
        rcases h with h | h
        · rcases h with h | h
          · exact absurd h (nI_pos (by omega))
          · rw [nI_leI (by omega) (by omega)] at h; omega
        · exact h
      exact p_isE hN h30 h0 he (bq_f (by decide) (p_isE_no hN h30 h0 hr (bq_t rfl q)))
    · exact p_isE_no hN h30 h0 hp (bq_t rfl q)
  · refine p_isE hN h30 h0 he (bq_f (by decide) (p_isE hN h30 h0 he (bq_f (by decide) ?_)))
    refine jn_zn false (by simp) ?_
    exact p_may_bad rfl (by decide) h0 (bq_t rfl q)
/-! the face's tests -/
theorem q_need {N e : Nat} {Q : Prop} {QX : String → gSt → Prop} {σ : gSt} (hN : σ.1 1 0 = nI N) (h30 : N ≤ 30) (he : e < N) (q : Q) : W_X11_needEntry (nI e) Q QX σ := by
  intro J hJ
  refine bq_f (nI_pos (by omega)) (bq_t ?_ q)
  rw [hN, nI_ltI (by omega) (by omega)]; exact he
theorem q_need_no {N : Nat} {p : Int32} {Q : Prop} {QX : String → gSt → Prop} {σ : gSt} (hN : σ.1 1 0 = nI N) (h30 : N ≤ 30) (he : p < 0 ∨ nI N ≤ p) (q : QX nsE σ) : W_X11_needEntry p Q QX σ := by
  intro J hJ
  refine ⟨fun _ => hJ q, fun _ => bq_f ?_ (hJ q)⟩
  rw [hN, Int32.not_lt]
  rcases he with h | h
  · exact absurd h ‹_›
  · exact h
theorem q_refuse {p : Int32} {Q : Prop} {QX : String → gSt → Prop} {σ : gSt} (h : ¬ p = 0) (q : Q) : W_X11_refuseUnless p Q QX σ := by
  unfold W_X11_refuseUnless
  first | exact bq_f h q | exact fun J hJ => bq_f h q
theorem q_refuse_no {p : Int32} {Q : Prop} {QX : String → gSt → Prop} {σ : gSt} (h : p = 0) (q : QX iaE σ) : W_X11_refuseUnless p Q QX σ := by
  unfold W_X11_refuseUnless
  first | exact bq_t h q | exact fun J hJ => bq_t h (hJ q)
theorem q_within {p lo hi : Int32} {Q : Int32 → Prop} {σ : gSt} (q : Q (zI (!decide (p < lo) && !decide (hi < p)))) : W_X11_isWithin p lo hi Q σ := by
  unfold W_X11_isWithin
  by_cases h1 : p < lo
  · simp only [h1, decide_true, Bool.not_true, Bool.false_and] at q
    exact bq_t h1 q
  · by_cases h2 : hi < p
    · simp only [h1, h2, decide_true, decide_false, Bool.not_true, Bool.not_false, Bool.true_and] at q
      exact bq_f h1 (bq_t h2 q)
    · simp only [h1, h2, decide_false, Bool.not_false, Bool.and_self] at q
      exact bq_f h1 (bq_f h2 q)
theorem q_pair {N a c : Nat} {Q : Prop} {QX : String → gSt → Prop} {σ : gSt} (hN : σ.1 1 0 = nI N) (h30 : N ≤ 30) (ha : a < N) (hc : c < N) (hne : a ≠ c) (q : Q) : W_X11_needPair (nI a) (nI c) Q QX σ := by
  unfold W_X11_needPair
  refine q_need hN h30 ha (q_need hN h30 hc ?_)
  exact jn_zn true (by simp only [true_iff]; rw [nI_eq (by omega) (by omega)]; exact hne) (q_refuse (by decide) q)
theorem q_pair_no {N : Nat} {p r : Int32} {Q : Prop} {QX : String → gSt → Prop} {σ : gSt} (hN : σ.1 1 0 = nI N) (h30 : N ≤ 30) (E : String) (hk : (E = nsE ∧ ((p < 0 ∨ nI N ≤ p) ∨ (r < 0 ∨ nI N ≤ r))) ∨ (E = iaE ∧ p = r ∧ ∃ e, e < N ∧ p = nI e)) (q : QX E σ) : W_X11_needPair p r Q QX σ := by
  unfold W_X11_needPair
  rcases hk with ⟨rfl, h⟩ | ⟨rfl, rfl, e, he, rfl⟩
  · rcases ent_or p N (by omega) with ⟨e, he, rfl⟩ | ⟨hp, hp2⟩
    · have hr : r < 0 ∨ nI N ≤ r := by
        rcases h with h | h
        · rcases h with h | h
          · exact absurd h (nI_pos (by omega))
          · rw [nI_leI (by omega) (by omega)] at h; omega
        · exact h
      exact q_need hN h30 he (q_need_no hN h30 hr q)
    · exact q_need_no hN h30 hp q
  · refine q_need hN h30 he (q_need hN h30 he ?_)
    exact jn_zn false (by simp) (q_refuse_no rfl q)
