/-! lists of pairs; LAWS and what is FIXED -/
theorem Inv.newL {b : Bool} {σ t : gSt} (hI : Inv b σ) (f : Fr (30 :: 31 :: 32 :: 94 :: 95 :: 96 :: scrC) (41 :: 42 :: 43 :: 44 :: scrJ) σ t) {N : Nat} (hN : σ.1 65 1 = nI N) (h30 : N ≤ 30) {most2 ob2 : Nat} {span2 : Int32} {F2 : Nat} {fx2 fy2 : Nat → Nat} {ft2 : Nat → Bool} (hg : invL t N most2 ob2 span2 F2 fx2 fy2 ft2) : Inv b t := by
  have hN0 := hN
  obtain ⟨hR, N2, bk, nm, td, yr, fa, C, kind, st, cd, op, num, T, ta, tb, tw, most, ob, span, F, fx, fy, ft, h, m, kz, kh, tp, R, hs, hE, hRu, hT, hL, hP, hH, hD, hG⟩ := hI
  have e : N2 = N := by
    have := hE.1.2.1
    rw [hE.2.1.1] at hN0
    exact (nI_eq (by omega) (by omega)).mp hN0
  subst e
  exact ⟨f.2.2.trans hR, N2, bk, nm, td, yr, fa, C, kind, st, cd, op, num, T, ta, tb, tw, most2, ob2, span2, F2, fx2, fy2, ft2, h, m, kz, kh, tp, R, hs, hE.fr f (by decide) (by decide), hRu.fr f (by cases b <;> decide) (by decide), hT.fr f (by decide) (by decide), hg, hP.fr f (by decide) (by decide), hH.fr f (by decide) (by decide), hD.fr f (by decide) (by decide), hG.fr f (by decide) (by decide)⟩
theorem sp_iff {x y a c : Nat} : sp x y a c = true ↔ (x = a ∧ y = c) ∨ (x = c ∧ y = a) := by simp [sp]
theorem sp_join {x y x2 y2 a c : Nat} (h1 : sp x y a c = true) (h2 : sp x2 y2 a c = true) : sp x y x2 y2 = true := by
  rw [sp_iff] at h1 h2 ⊢
  omega
def uniq (T : Nat) (ta tb : Nat → Nat) : Prop := ∀ q q2, q < T → q2 < T → sp (ta q) (tb q) (ta q2) (tb q2) = true → q = q2
theorem tix_le (T : Nat) (ta tb : Nat → Nat) (a c : Nat) : tix T ta tb a c ≤ T := fa_first_le _ _
theorem tix_at {T : Nat} {ta tb : Nat → Nat} {a c : Nat} (h : tix T ta tb a c < T) : sp (ta (tix T ta tb a c)) (tb (tix T ta tb a c)) a c = true := fa_first_yes (fun q => sp (ta q) (tb q) a c) T h
theorem tix_no {T : Nat} {ta tb : Nat → Nat} {a c : Nat} (h : ∀ q, q < T → sp (ta q) (tb q) a c = false) : tix T ta tb a c = T := first_none h
theorem tix_hit {T : Nat} {ta tb : Nat → Nat} {a c q : Nat} (hu : uniq T ta tb) (hq : q < T) (hs : sp (ta q) (tb q) a c = true) : tix T ta tb a c = q := by
  have h1 : tix T ta tb a c < T := by
    by_cases h : tix T ta tb a c < T
    · exact h
    · have := fa_first_no (fun q => sp (ta q) (tb q) a c) T q (show q < tix T ta tb a c by have := tix_le T ta tb a c; omega)
      rw [hs] at this; cases this
  exact hu _ _ h1 hq (sp_join (tix_at h1) hs)
theorem tix_in {T : Nat} {ta tb : Nat → Nat} {a c : Nat} : tix T ta tb a c < T ↔ ∃ q, q < T ∧ sp (ta q) (tb q) a c = true := by
  constructor
  · intro h; exact ⟨_, h, tix_at h⟩
  · rintro ⟨q, hq, hs⟩
    by_cases h : tix T ta tb a c < T
    · exact h
    · have := fa_first_no (fun q => sp (ta q) (tb q) a c) T q (show q < tix T ta tb a c by have := tix_le T ta tb a c; omega)
      rw [hs] at this; cases this
/-- f with x at T -/
def xat {α : Type} (T : Nat) (x : α) (f : Nat → α) (q : Nat) : α := if q = T then x else f q
theorem xat_at {α : Type} {T : Nat} {x : α} {f : Nat → α} : xat T x f T = x := if_pos rfl
theorem xat_ne {α : Type} {T q : Nat} {x : α} {f : Nat → α} (h : q ≠ T) : xat T x f q = f q := if_neg h
/-- one more at the end -/
theorem tix_app {T : Nat} {ta tb : Nat → Nat} {x y a c : Nat} : tix (T + 1) (xat T x ta) (xat T y tb) a c = if tix T ta tb a c < T then tix T ta tb a c else if sp x y a c then T else T + 1 := by
  by_cases h : tix T ta tb a c < T
  · rw [if_pos h]
    refine first_is (by omega) (fun j hj => ?_) ?_
    · show sp (xat T x ta j) (xat T y tb j) a c = false
      rw [xat_ne (by omega), xat_ne (by omega)]
      exact fa_first_no (fun q => sp (ta q) (tb q) a c) T j hj
    · show sp (xat T x ta _) (xat T y tb _) a c = true
      rw [xat_ne (by omega), xat_ne (by omega)]
      exact tix_at h
  · rw [if_neg h]
    have hno : ∀ q, q < T → sp (ta q) (tb q) a c = false := fun q hq => fa_first_no (fun q => sp (ta q) (tb q) a c) T q (show q < tix T ta tb a c by have := tix_le T ta tb a c; omega)
    by_cases hs : sp x y a c = true
    · rw [if_pos hs]
      refine first_is (by omega) (fun j hj => ?_) ?_
      · show sp (xat T x ta j) (xat T y tb j) a c = false
        rw [xat_ne (by omega), xat_ne (by omega)]; exact hno j hj
      · show sp (xat T x ta T) (xat T y tb T) a c = true
        rw [xat_at, xat_at]; exact hs
    · rw [if_neg hs]
      refine first_none (fun j hj => ?_)
      show sp (xat T x ta j) (xat T y tb j) a c = false
      by_cases e : j = T
      · subst e; rw [xat_at, xat_at]; simpa using hs
      · rw [xat_ne e, xat_ne e]; exact hno j (by omega)
theorem uniq_app {T : Nat} {ta tb : Nat → Nat} {x y : Nat} (hu : uniq T ta tb) (hn : ¬ tix T ta tb x y < T) : uniq (T + 1) (xat T x ta) (xat T y tb) := by
  have hno : ∀ q, q < T → ¬ sp (ta q) (tb q) x y = true := fun q hq hs => hn (tix_in.mpr ⟨q, hq, hs⟩)
  intro q q2 h1 h2 hs
  by_cases e1 : q = T
  · by_cases e2 : q2 = T
    · omega
    · rw [e1, xat_at, xat_at, xat_ne e2, xat_ne e2] at hs
      exact absurd (by rw [sp_iff] at hs ⊢; omega) (hno q2 (by omega))
  · by_cases e2 : q2 = T
    · rw [e2, xat_at, xat_at, xat_ne e1, xat_ne e1] at hs
      exact absurd hs (hno q (by omega))
    · rw [xat_ne e1, xat_ne e1, xat_ne e2, xat_ne e2] at hs
      exact hu q q2 (by omega) (by omega) hs
/-- one taken away, the last in its place -/
theorem uniq_del {T k : Nat} {ta tb : Nat → Nat} (hu : uniq T ta tb) (hk : k < T) : uniq (T - 1) (xat k (ta (T - 1)) ta) (xat k (tb (T - 1)) tb) := by
  intro q q2 h1 h2 hs
  by_cases e1 : q = k
  · by_cases e2 : q2 = k
    · omega
    · rw [e1, xat_at, xat_at, xat_ne e2, xat_ne e2] at hs
      have := hu _ _ (by omega) (by omega) hs; omega
  · by_cases e2 : q2 = k
    · rw [e2, xat_at, xat_at, xat_ne e1, xat_ne e1] at hs
      have := hu _ _ (by omega) (by omega) hs; omega
    · rw [xat_ne e1, xat_ne e1, xat_ne e2, xat_ne e2] at hs
      exact hu q q2 (by omega) (by omega) hs
theorem del_hit {T k : Nat} {ta tb : Nat → Nat} (hu : uniq T ta tb) (hk : k < T) {a c : Nat} (hs : sp (ta k) (tb k) a c = true) : ¬ tix (T - 1) (xat k (ta (T - 1)) ta) (xat k (tb (T - 1)) tb) a c < T - 1 := by
  intro hlt
  have h1 := tix_at hlt
  by_cases e : tix (T - 1) (xat k (ta (T - 1)) ta) (xat k (tb (T - 1)) tb) a c = k
  · rw [e, xat_at, xat_at] at h1
    have := hu _ _ (by omega) hk (sp_join h1 hs); omega
  · rw [xat_ne e, xat_ne e] at h1
    exact e (hu _ _ (by omega) hk (sp_join h1 hs))
/-- what a list tells of another pair, when one is taken away -/
theorem del_other {T k : Nat} {ta tb : Nat → Nat} {α : Type} (v : Nat → α) (hu : uniq T ta tb) (hk : k < T) {a c : Nat} (hs : ¬ sp (ta k) (tb k) a c = true) : (tix (T - 1) (xat k (ta (T - 1)) ta) (xat k (tb (T - 1)) tb) a c < T - 1 ↔ tix T ta tb a c < T) ∧ (tix T ta tb a c < T → xat k (v (T - 1)) v (tix (T - 1) (xat k (ta (T - 1)) ta) (xat k (tb (T - 1)) tb) a c) = v (tix T ta tb a c)) := by
  have hu2 := uniq_del hu hk
  refine ⟨⟨fun hlt => ?_, fun hlt => ?_⟩, fun hlt => ?_⟩
  · have h1 := tix_at hlt
    by_cases e : tix (T - 1) (xat k (ta (T - 1)) ta) (xat k (tb (T - 1)) tb) a c = k
    · rw [e, xat_at, xat_at] at h1
      exact tix_in.mpr ⟨T - 1, by omega, h1⟩
    · rw [xat_ne e, xat_ne e] at h1
      exact tix_in.mpr ⟨_, by omega, h1⟩
  · have h1 := tix_at hlt
    have hne : tix T ta tb a c ≠ k := fun e => hs (e ▸ h1)
    by_cases e : tix T ta tb a c = T - 1
    · exact tix_in.mpr ⟨k, by omega, by rw [xat_at, xat_at, ← e]; exact h1⟩
    · exact tix_in.mpr ⟨tix T ta tb a c, by omega, by rw [xat_ne hne, xat_ne hne]; exact h1⟩
  · have h1 := tix_at hlt
    have hne : tix T ta tb a c ≠ k := fun e => hs (e ▸ h1)
    by_cases e : tix T ta tb a c = T - 1
    · rw [tix_hit hu2 (q := k) (by omega) (by rw [xat_at, xat_at, ← e]; exact h1), xat_at, e]
    · rw [tix_hit hu2 (q := tix T ta tb a c) (by omega) (by rw [xat_ne hne, xat_ne hne]; exact h1), xat_ne hne]
theorem Inv.sl {b : Bool} {σ : gSt} (hI : Inv b σ) : ∃ (N most ob : Nat) (span : Int32) (F : Nat) (fx fy : Nat → Nat) (ft : Nat → Bool), N ≤ 30 ∧ σ.1 1 0 = nI N ∧ σ.1 65 1 = nI N ∧ invL σ N most ob span F fx fy ft := by
  obtain ⟨hR, N, bk, nm, td, yr, fa, C, kind, st, cd, op, num, T, ta, tb, tw, most, ob, span, F, fx, fy, ft, h, m, kz, kh, tp, R, hs, hE, hRu, hT, hL, hP, hH, hD, hG⟩ := hI
  exact ⟨N, most, ob, span, F, fx, fy, ft, hE.1.2.1, hE.1.1, hE.2.1.1, hL⟩
theorem within_yes {e M : Nat} (he : e ≤ M) (hM : M < 2147483648) : (!decide (nI e < nI 0) && !decide (nI M < nI e)) = true := by
  have h1 : ¬ nI e < nI 0 := nI_pos (by omega)
  have h2 : ¬ nI M < nI e := by rw [nI_ltI (by omega) (by omega)]; omega
  simp [h1, h2]
theorem within_no {p : Int32} {M : Nat} (hM : M < 2147483647) (h : p < 0 ∨ nI (M + 1) ≤ p) : (!decide (p < nI 0) && !decide (nI M < p)) = false := by
  rcases h with h | h
  · have h1 : p < nI 0 := h
    simp [h1]
  · by_cases hp : p < nI 0
    · simp [hp]
    · obtain ⟨j, hj, rfl⟩ := nI_of hp
      rw [nI_leI (by omega) hj] at h
      have : nI M < nI j := by rw [nI_ltI (by omega) hj]; omega
      simp [this]
theorem in_or (p : Int32) (M : Nat) (hM : M < 2147483647) : (∃ e, e ≤ M ∧ p = nI e) ∨ (p < 0 ∨ nI (M + 1) ≤ p) := by
  by_cases h : p < 0
  · exact .inr (.inl h)
  · obtain ⟨j, hj, rfl⟩ := nI_of h
    by_cases hlt : j ≤ M
    · exact .inl ⟨j, hlt, rfl⟩
    · exact .inr (.inr (nI_le (by omega) hj))
/-- a span, or another number -/
theorem span_or (p : Int32) : ((p = -1 ∨ ∃ k, k < 200 ∧ p = nI k) ∧ (!decide (p < (-1 : Int32)) && !decide (nI 199 < p)) = true) ∨ (!decide (p < (-1 : Int32)) && !decide (nI 199 < p)) = false := by
  by_cases h : (!decide (p < (-1 : Int32)) && !decide (nI 199 < p)) = true
  · refine .inl ⟨?_, h⟩
    simp only [Bool.and_eq_true, Bool.not_eq_true', decide_eq_false_iff_not] at h
    by_cases hz : p < 0
    · left
      have e1 : (-1 : Int32).toInt = -1 := by decide
      have e0 : (0 : Int32).toInt = 0 := by decide
      rw [fa_lt, e0] at hz
      have := h.1
      rw [fa_lt, e1] at this
      rw [fa_eq, e1]; omega
    · right
      obtain ⟨j, hj, rfl⟩ := nI_of hz
      have := h.2
      rw [nI_ltI (by decide) hj] at this
      exact ⟨j, by omega, rfl⟩
  · exact .inr (by simpa using h)
theorem op_law {b : Bool} {σ : gSt} (hI : Inv b σ) (p v : Int32) : OKI (fun Q QX s => W_X11_law p v Q QX s) (W_X12_law p v) cdA σ := by
  obtain ⟨N, most, ob, span, F, fx, fy, ft, h30, hN1, hN, hL⟩ := hI.sl
  have hR := hI.1
  obtain ⟨l1, l2, l3, ⟨m1, m2, m3⟩, ⟨o1, o2, o3⟩, ⟨s1, s2, s3⟩, l7, l8⟩ := hL
  have bad : ∀ s : gSt, s = σ → fin (nI 1) (lN 0) (sI (sI s 65 0 (nI 0)) 65 0 (nI 1)) := fun s e => by rw [e]; exact fin.no hI (.inl rfl)
  unfold OKI W_X11_law
  rcases in_or p 2 (by decide) with ⟨e, he, rfl⟩ | hp
  · refine q_within ?_
    rw [within_yes he (by decide)]
    refine q_refuse (by decide) ?_
    rcases (show e = 0 ∨ e = 1 ∨ e = 2 by omega) with rfl | rfl | rfl
    · refine jn1 (nI 0) (fun J hJ => bq_f (by decide) hJ) (jn1 (nI 30) (fun J hJ => bq_t (by decide) hJ) (q_within ?_))
      rcases in_or v 30 (by decide) with ⟨j, hj, rfl⟩ | hv
      · rw [within_yes hj (by decide)]
        refine q_refuse (by decide) ⟨_, fun o l => s_change0 hR _, fun r s hp => ?_⟩
        obtain ⟨x, rfl, rfl, rfl⟩ := hp
        refine ⟨_, rfl, rfl, ?_⟩
        rintro s2 rfl
        refine fI_i (p_within ?_)
        rw [within_yes (by decide) (by decide)]
        intro J4 hJ4 J17 hJ17
        refine bq_f (by decide) (jn1 (nI 0) (fun J hJ => bq_f (by decide) hJ) (jn1 (nI 30) (fun J hJ => bq_t (by decide) hJ) (p_within ?_)))
        rw [within_yes hj (by decide)]
        refine bq_f (by decide) (hJ4 _ (p_may_ok (by decide) rfl (bq_f (by decide) (jn1 (nI most) (fun J hJ => ?_) (bq_t (by decide) (fI_i ?_))))))
        · have e9 : (sI (sL (sI σ 30 5 (nI j)) 115 0 (i2l (σ.1 30 5))) 65 0 (nI 0)).1 65 41 = nI most := m1
          rw [← e9] at hJ
          exact bq_t (by decide) hJ
        · have f2 : Fr (30 :: 31 :: 32 :: 94 :: 95 :: 96 :: scrC) (41 :: 42 :: 43 :: 44 :: scrJ) σ (sI (sI (sL (sI σ 30 5 (nI j)) 115 0 (i2l (σ.1 30 5))) 65 0 (nI 0)) 65 41 (nI j)) := (((Fr.rf.i (by decide) (by decide)).l (by decide) (by decide)).f (by decide)).f (by decide)
          have c30 : ∀ i, (sI (sI (sL (sI σ 30 5 (nI j)) 115 0 (i2l (σ.1 30 5))) 65 0 (nI 0)) 65 41 (nI j)).1 30 i = if i = 5 then nI j else σ.1 30 i := fun i => by
            show (sI σ 30 5 (nI j)).1 30 i = _
            rw [sI_get]; simp
          have c65b : (sI (sI (sL (sI σ 30 5 (nI j)) 115 0 (i2l (σ.1 30 5))) 65 0 (nI 0)) 65 41 (nI j)).1 65 41 = nI j := by rw [sI_get, if_pos ⟨rfl, rfl⟩]
          have c65n : ∀ i, i ≠ 41 → i ≠ 0 → (sI (sI (sL (sI σ 30 5 (nI j)) 115 0 (i2l (σ.1 30 5))) 65 0 (nI 0)) 65 41 (nI j)).1 65 i = σ.1 65 i := fun i h1 h2 => by
            rw [sI_get, if_neg (fun q => h1 q.2), sI_get, if_neg (fun q => h2 q.2)]; rfl
          refine ⟨rfl, fun _ => ?_, b, hI.newL f2 hN h30 (most2 := j) (ob2 := ob) (span2 := span) (F2 := F) (fx2 := fx) (fy2 := fy) (ft2 := ft) ⟨?_, l2, l3, ⟨by rw [c65b], by rw [c30, if_pos rfl], hj⟩, ⟨by rw [c65n 42 (by decide) (by decide)]; exact o1, by rw [c30, if_neg (by decide)]; exact o2, o3⟩, ⟨by rw [c65n 43 (by decide) (by decide)]; exact s1, by rw [c30, if_neg (by decide)]; exact s2, s3⟩, by rw [c30, if_neg (by decide)]; exact l7, l8⟩⟩
          · rw [← m2]; exact sL_out
          · unfold fixM at l1 ⊢
            rw [c65n 44 (by decide) (by decide)]
            exact l1
      · rw [within_no (by decide) hv]
        refine q_refuse_no rfl ⟨nI 1, ⟨rfl, rfl⟩, fI_i (p_within ?_)⟩
        rw [within_yes (by decide) (by decide)]
        intro J4 hJ4 J17 hJ17
        refine bq_f (by decide) (jn1 (nI 0) (fun J hJ => bq_f (by decide) hJ) (jn1 (nI 30) (fun J hJ => bq_t (by decide) hJ) (p_within ?_)))
        rw [within_no (by decide) hv]
        refine bq_t rfl (hJ17 (hJ4 _ (p_may_bad rfl (by decide) rfl (bq_t rfl ?_))))
        exact bad σ rfl
    · refine jn1 (nI 0) (fun J hJ => bq_f (by decide) hJ) (jn1 (nI 1) (fun J hJ => bq_f (by decide) (bq_t rfl hJ)) (q_within ?_))
      rcases in_or v 1 (by decide) with ⟨j, hj, rfl⟩ | hv
      · rw [within_yes hj (by decide)]
        refine q_refuse (by decide) ⟨_, fun o l => s_change1 hR _, fun r s hp => ?_⟩
        obtain ⟨x, rfl, rfl, rfl⟩ := hp
        refine ⟨_, rfl, rfl, ?_⟩
        rintro s2 rfl
        refine fI_i (p_within ?_)
        rw [within_yes (by decide) (by decide)]
        intro J4 hJ4 J17 hJ17
        refine bq_f (by decide) (jn1 (nI 0) (fun J hJ => bq_f (by decide) hJ) (jn1 (nI 1) (fun J hJ => bq_f (by decide) (bq_t rfl hJ)) (p_within ?_)))
        rw [within_yes hj (by decide)]
        refine bq_f (by decide) (hJ4 _ (p_may_ok (by decide) rfl (bq_f (by decide) (jn1 (nI ob) (fun J hJ => ?_) (bq_f (by decide) (bq_t rfl (fI_i ?_)))))))
        · have e9 : (sI (sL (sI σ 30 6 (nI j)) 115 0 (i2l (σ.1 30 6))) 65 0 (nI 0)).1 65 42 = nI ob := o1
          rw [← e9] at hJ
          exact bq_f (by decide) (bq_t rfl hJ)
        · have f2 : Fr (30 :: 31 :: 32 :: 94 :: 95 :: 96 :: scrC) (41 :: 42 :: 43 :: 44 :: scrJ) σ (sI (sI (sL (sI σ 30 6 (nI j)) 115 0 (i2l (σ.1 30 6))) 65 0 (nI 0)) 65 42 (nI j)) := (((Fr.rf.i (by decide) (by decide)).l (by decide) (by decide)).f (by decide)).f (by decide)
          have c30 : ∀ i, (sI (sI (sL (sI σ 30 6 (nI j)) 115 0 (i2l (σ.1 30 6))) 65 0 (nI 0)) 65 42 (nI j)).1 30 i = if i = 6 then nI j else σ.1 30 i := fun i => by
            show (sI σ 30 6 (nI j)).1 30 i = _
            rw [sI_get]; simp
          have c65b : (sI (sI (sL (sI σ 30 6 (nI j)) 115 0 (i2l (σ.1 30 6))) 65 0 (nI 0)) 65 42 (nI j)).1 65 42 = nI j := by rw [sI_get, if_pos ⟨rfl, rfl⟩]
          have c65n : ∀ i, i ≠ 42 → i ≠ 0 → (sI (sI (sL (sI σ 30 6 (nI j)) 115 0 (i2l (σ.1 30 6))) 65 0 (nI 0)) 65 42 (nI j)).1 65 i = σ.1 65 i := fun i h1 h2 => by
            rw [sI_get, if_neg (fun q => h1 q.2), sI_get, if_neg (fun q => h2 q.2)]; rfl
          refine ⟨rfl, fun _ => ?_, b, hI.newL f2 hN h30 (most2 := most) (ob2 := j) (span2 := span) (F2 := F) (fx2 := fx) (fy2 := fy) (ft2 := ft) ⟨?_, l2, l3, ⟨by rw [c65n 41 (by decide) (by decide)]; exact m1, by rw [c30, if_neg (by decide)]; exact m2, m3⟩, ⟨by rw [c65b], by rw [c30, if_pos rfl], hj⟩, ⟨by rw [c65n 43 (by decide) (by decide)]; exact s1, by rw [c30, if_neg (by decide)]; exact s2, s3⟩, by rw [c30, if_neg (by decide)]; exact l7, l8⟩⟩
          · rw [← o2]; exact sL_out
          · unfold fixM at l1 ⊢
            rw [c65n 44 (by decide) (by decide)]
            exact l1
      · rw [within_no (by decide) hv]
        refine q_refuse_no rfl ⟨nI 1, ⟨rfl, rfl⟩, fI_i (p_within ?_)⟩
        rw [within_yes (by decide) (by decide)]
        intro J4 hJ4 J17 hJ17
        refine bq_f (by decide) (jn1 (nI 0) (fun J hJ => bq_f (by decide) hJ) (jn1 (nI 1) (fun J hJ => bq_f (by decide) (bq_t rfl hJ)) (p_within ?_)))
        rw [within_no (by decide) hv]
        refine bq_t rfl (hJ17 (hJ4 _ (p_may_bad rfl (by decide) rfl (bq_t rfl ?_))))
        exact bad σ rfl
    · refine jn1 ((-1 : Int32)) (fun J hJ => bq_t rfl hJ) (jn1 (nI 199) (fun J hJ => bq_f (by decide) (bq_f (by decide) hJ)) (q_within ?_))
      rcases span_or v with ⟨hj, hv⟩ | hv
      · rw [hv]
        refine q_refuse (by decide) ⟨_, fun o l => s_change2 hR _, fun r s hp => ?_⟩
        obtain ⟨x, rfl, rfl, rfl⟩ := hp
        refine ⟨_, rfl, rfl, ?_⟩
        rintro s2 rfl
        refine fI_i (p_within ?_)
        rw [within_yes (by decide) (by decide)]
        intro J4 hJ4 J17 hJ17
        refine bq_f (by decide) (jn1 ((-1 : Int32)) (fun J hJ => bq_t rfl hJ) (jn1 (nI 199) (fun J hJ => bq_f (by decide) (bq_f (by decide) hJ)) (p_within ?_)))
        rw [hv]
        refine bq_f (by decide) (hJ4 _ (p_may_ok (by decide) rfl (bq_f (by decide) (jn1 (span) (fun J hJ => ?_) (bq_f (by decide) (bq_f (by decide) (fI_i ?_)))))))
        · have e9 : (sI (sL (sI σ 30 7 (v)) 115 0 (i2l (σ.1 30 7))) 65 0 (nI 0)).1 65 43 = span := s1
          rw [← e9] at hJ
          exact bq_f (by decide) (bq_f (by decide) hJ)
        · have f2 : Fr (30 :: 31 :: 32 :: 94 :: 95 :: 96 :: scrC) (41 :: 42 :: 43 :: 44 :: scrJ) σ (sI (sI (sL (sI σ 30 7 (v)) 115 0 (i2l (σ.1 30 7))) 65 0 (nI 0)) 65 43 (v)) := (((Fr.rf.i (by decide) (by decide)).l (by decide) (by decide)).f (by decide)).f (by decide)
          have c30 : ∀ i, (sI (sI (sL (sI σ 30 7 (v)) 115 0 (i2l (σ.1 30 7))) 65 0 (nI 0)) 65 43 (v)).1 30 i = if i = 7 then v else σ.1 30 i := fun i => by
            show (sI σ 30 7 (v)).1 30 i = _
            rw [sI_get]; simp
          have c65b : (sI (sI (sL (sI σ 30 7 (v)) 115 0 (i2l (σ.1 30 7))) 65 0 (nI 0)) 65 43 (v)).1 65 43 = v := by rw [sI_get, if_pos ⟨rfl, rfl⟩]
          have c65n : ∀ i, i ≠ 43 → i ≠ 0 → (sI (sI (sL (sI σ 30 7 (v)) 115 0 (i2l (σ.1 30 7))) 65 0 (nI 0)) 65 43 (v)).1 65 i = σ.1 65 i := fun i h1 h2 => by
            rw [sI_get, if_neg (fun q => h1 q.2), sI_get, if_neg (fun q => h2 q.2)]; rfl
          refine ⟨rfl, fun _ => ?_, b, hI.newL f2 hN h30 (most2 := most) (ob2 := ob) (span2 := v) (F2 := F) (fx2 := fx) (fy2 := fy) (ft2 := ft) ⟨?_, l2, l3, ⟨by rw [c65n 41 (by decide) (by decide)]; exact m1, by rw [c30, if_neg (by decide)]; exact m2, m3⟩, ⟨by rw [c65n 42 (by decide) (by decide)]; exact o1, by rw [c30, if_neg (by decide)]; exact o2, o3⟩, ⟨by rw [c65b], by rw [c30, if_pos rfl], hj⟩, by rw [c30, if_neg (by decide)]; exact l7, l8⟩⟩
          · rw [← s2]; exact sL_out
          · unfold fixM at l1 ⊢
            rw [c65n 44 (by decide) (by decide)]
            exact l1
      · rw [hv]
        refine q_refuse_no rfl ⟨nI 1, ⟨rfl, rfl⟩, fI_i (p_within ?_)⟩
        rw [within_yes (by decide) (by decide)]
        intro J4 hJ4 J17 hJ17
        refine bq_f (by decide) (jn1 ((-1 : Int32)) (fun J hJ => bq_t rfl hJ) (jn1 (nI 199) (fun J hJ => bq_f (by decide) (bq_f (by decide) hJ)) (p_within ?_)))
        rw [hv]
        refine bq_t rfl (hJ17 (hJ4 _ (p_may_bad rfl (by decide) rfl (bq_t rfl ?_))))
        exact bad σ rfl
  · refine q_within ?_
    rw [within_no (by decide) hp]
    refine q_refuse_no rfl ⟨nI 1, ⟨rfl, rfl⟩, fI_i (p_within ?_)⟩
    rw [within_no (by decide) hp]
    intro J4 hJ4 J17 hJ17
    refine bq_t rfl (hJ17 (hJ4 _ (p_may_bad rfl (by decide) rfl (bq_t rfl ?_))))
    exact bad σ rfl
