/-! of, count -/
theorem fa_cnt_none {p : Nat → Bool} : ∀ {n : Nat}, (∀ k, k < n → p k = false) → fa_cnt p n = 0
  | 0, _ => rfl
  | n + 1, h => by rw [fa_cnt_no (h n (by omega))]; exact fa_cnt_none (fun k hk => h k (by omega))
theorem fa_cnt_beyond {p : Nat → Bool} {N : Nat} : ∀ (m : Nat), (∀ k, N ≤ k → p k = false) → fa_cnt p (N + m) = fa_cnt p N
  | 0, _ => rfl
  | m + 1, h => by rw [show N + (m + 1) = (N + m) + 1 by omega, fa_cnt_no (h _ (by omega))]; exact fa_cnt_beyond m h
theorem fa_cnt_32 {p : Nat → Bool} {N : Nat} (h30 : N ≤ 30) (h : ∀ k, N ≤ k → p k = false) : fa_cnt p 32 = fa_cnt p N := by
  have := fa_cnt_beyond (N := N) (32 - N) h
  rw [show N + (32 - N) = 32 by omega] at this
  exact this
theorem Inv.traits {b : Bool} {σ : gSt} (hI : Inv b σ) {N : Nat} (hN : σ.1 1 0 = nI N) (h30 : N ≤ 30) {e : Nat} (he : e < N) : σ.1 66 e = σ.1 2 (e * 5) ∧ σ.1 67 e = σ.1 2 (e * 5 + 1) ∧ σ.1 68 e = σ.1 2 (e * 5 + 2) ∧ σ.1 69 e = σ.1 2 (e * 5 + 3) ∧ σ.1 70 e = σ.1 2 (e * 5 + 4) := by
  obtain ⟨hR, N2, bk, nm, td, yr, fa, C, kind, st, cd, op, num, T, ta, tb, tw, most, ob, span, F, fx, fy, ft, h, m, kz, kh, tp, R, hs, hE, hRu, hT, hL, hP, hH, hD, hG⟩ := hI
  obtain rfl : N2 = N := (nI_eq (by have := hE.1.2.1; omega) (by omega)).mp (hE.1.1.symm.trans hN)
  have h1 := hE.1.2.2 e he
  have h2 := hE.2.1.2.2.1 e he
  exact ⟨by rw [h2.1, h1.1], by rw [h2.2.1, h1.2.1], by rw [h2.2.2.1, h1.2.2.1], by rw [h2.2.2.2.1, h1.2.2.2.1], by rw [h2.2.2.2.2.1, h1.2.2.2.2.1]⟩
theorem within_j {r : Int32} {n : Nat} (hn : n < 1000) (h : (!decide (r < nI 0) && !decide (nI n < r)) = true) : ∃ j, j < n + 1 ∧ r = nI j := by
  simp only [Bool.and_eq_true, Bool.not_eq_true', decide_eq_false_iff_not] at h
  obtain ⟨j, hj, rfl⟩ := nI_of h.1
  refine ⟨j, ?_, rfl⟩
  by_cases z : j < n + 1
  · exact z
  · exact absurd (by rw [nI_ltI (by omega) hj]; omega) h.2
theorem rc_33 {N : Nat} {U : Nat → Bool} {hg : Nat → Nat → Bool} {e : Nat} (he : e < N) (h30 : N ≤ 30) : fa_cnt (rc N U hg e) 32 = fa_cnt (rc N U hg e) N := fa_cnt_32 h30 (fun _ hk => rc_big he hk)
/-- the first of a part's members is its least -/
theorem mem_0 {t : gSt} {N : Nat} {U : Nat → Bool} {hg : Nat → Nat → Bool} {e : Nat} (he : e < N) (h105 : ∀ i, i < N → rc N U hg e i = true → t.1 105 (fa_cnt (rc N U hg e) i) = nI i) : t.1 105 0 = nI (lst1 N U hg e) := by
  have h := lst1_le (U := U) (hg := hg) he
  have := h105 _ h.2.1 h.2.2
  rw [fa_cnt_none (fun k hk => by
    have h2 : k < fa_first (rc N U hg e) N := hk
    exact fa_first_no (rc N U hg e) N k h2)] at this
  exact this
theorem op_of {b : Bool} {σ : gSt} (hI : Inv b σ) (p r : Int32) : OKI (W_X11_of p r) (W_X12_of p r) cdP σ := by
  obtain ⟨N, bk, nm, td, yr, fa, most, wt, nv, ti, ap, hd, h30, hEn, ⟨hN, hsz⟩, hm, hh, hS, hC, hM⟩ := hI.pw
  have hR := hI.1
  unfold OKI W_X11_of
  rcases ent_or p N (by omega) with ⟨e, he, rfl⟩ | ⟨hp, -⟩
  · refine q_need hEn.1 h30 he (q_within ?_)
    by_cases hv : (!decide (r < nI 0) && !decide (nI 7 < r)) = true
    · rw [hv]
      obtain ⟨j, hj, rfl⟩ := within_j (by decide) hv
      refine q_refuse (by decide) ?_
      have htr := hI.traits hEn.1 h30 he
      have hr : j = 0 ∨ j = 1 ∨ j = 2 ∨ j = 3 ∨ j = 4 ∨ j = 5 ∨ j = 6 ∨ j = 7 := by omega
      have f3 : ∀ v, Fr [115] [0] σ (sI (sL σ 115 0 (i2l v)) 65 0 (nI 0)) := fun v => (Fr.rf.l (by simp) (by decide)).f (by simp)
      have U1 : ∀ j, decide (j < N) = true → j < N := fun j hj => of_decide_eq_true hj
      have hp0 : ¬ (∃ q : Nat, q = 77) ∨ True := .inr trivial
      rcases hr with rfl | rfl | rfl | rfl | rfl | rfl | rfl | rfl
      · refine bq_f (by decide) ⟨_, fun o l => s_trait hR e 0 (by omega) (by decide), ?_⟩
        rintro s2 rfl
        refine fI_i (p_isE hN h30 rfl he (bq_f (by decide) (p_within ?_)))
        rw [hv]
        refine p_may_ok (by decide) rfl (bq_f (by decide) ?_)
        refine bq_t rfl (rI_i (by omega) (fin.scr hI ((f3 _).scr (by decide) (by decide)) rfl (fun _ => ?_)))
        rw [show (sI (sL σ 115 0 (i2l (σ.1 2 (e * 5 + 0)))) 65 0 (nI 0)).1 66 e = σ.1 66 e from rfl, htr.1]
        exact sL_out
      · refine bq_f (by decide) ⟨_, fun o l => s_trait hR e 1 (by omega) (by decide), ?_⟩
        rintro s2 rfl
        refine fI_i (p_isE hN h30 rfl he (bq_f (by decide) (p_within ?_)))
        rw [hv]
        refine p_may_ok (by decide) rfl (bq_f (by decide) ?_)
        refine bq_f (by decide) ?_
        refine bq_t rfl (rI_i (by omega) (fin.scr hI ((f3 _).scr (by decide) (by decide)) rfl (fun _ => ?_)))
        rw [show (sI (sL σ 115 0 (i2l (σ.1 2 (e * 5 + 1)))) 65 0 (nI 0)).1 67 e = σ.1 67 e from rfl, htr.2.1]
        exact sL_out
      · refine bq_f (by decide) ⟨_, fun o l => s_trait hR e 2 (by omega) (by decide), ?_⟩
        rintro s2 rfl
        refine fI_i (p_isE hN h30 rfl he (bq_f (by decide) (p_within ?_)))
        rw [hv]
        refine p_may_ok (by decide) rfl (bq_f (by decide) ?_)
        refine bq_f (by decide) ?_
        refine bq_f (by decide) ?_
        refine bq_t rfl (rI_i (by omega) (fin.scr hI ((f3 _).scr (by decide) (by decide)) rfl (fun _ => ?_)))
        rw [show (sI (sL σ 115 0 (i2l (σ.1 2 (e * 5 + 2)))) 65 0 (nI 0)).1 68 e = σ.1 68 e from rfl, htr.2.2.1]
        exact sL_out
      · refine bq_f (by decide) ⟨_, fun o l => s_trait hR e 3 (by omega) (by decide), ?_⟩
        rintro s2 rfl
        refine fI_i (p_isE hN h30 rfl he (bq_f (by decide) (p_within ?_)))
        rw [hv]
        refine p_may_ok (by decide) rfl (bq_f (by decide) ?_)
        refine bq_f (by decide) ?_
        refine bq_f (by decide) ?_
        refine bq_f (by decide) ?_
        refine bq_t rfl (rI_i (by omega) (fin.scr hI ((f3 _).scr (by decide) (by decide)) rfl (fun _ => ?_)))
        rw [show (sI (sL σ 115 0 (i2l (σ.1 2 (e * 5 + 3)))) 65 0 (nI 0)).1 69 e = σ.1 69 e from rfl, htr.2.2.2.1]
        exact sL_out
      · refine bq_f (by decide) ⟨_, fun o l => s_trait hR e 4 (by omega) (by decide), ?_⟩
        rintro s2 rfl
        refine fI_i (p_isE hN h30 rfl he (bq_f (by decide) (p_within ?_)))
        rw [hv]
        refine p_may_ok (by decide) rfl (bq_f (by decide) ?_)
        refine bq_f (by decide) ?_
        refine bq_f (by decide) ?_
        refine bq_f (by decide) ?_
        refine bq_f (by decide) ?_
        refine bq_t rfl (rI_i (by omega) (fin.scr hI ((f3 _).scr (by decide) (by decide)) rfl (fun _ => ?_)))
        rw [show (sI (sL σ 115 0 (i2l (σ.1 2 (e * 5 + 4)))) 65 0 (nI 0)).1 70 e = σ.1 70 e from rfl, htr.2.2.2.2]
        exact sL_out
      · refine bq_t (by decide) (bq_t rfl (rI_i (by omega) ?_))
        rintro s2 rfl
        refine fI_i (p_isE hN h30 rfl he (bq_f (by decide) (p_within ?_)))
        rw [hv]
        refine p_may_ok (by decide) rfl (bq_f (by decide) ?_)
        refine bq_f (by decide) ?_
        refine bq_f (by decide) ?_
        refine bq_f (by decide) ?_
        refine bq_f (by decide) ?_
        refine bq_f (by decide) ?_
        refine bq_t rfl (rI_i (by omega) (fin.scr hI ((f3 _).scr (by decide) (by decide)) rfl (fun _ => ?_)))
        rw [show (sI (sL σ 115 0 (i2l (σ.1 34 e))) 65 0 (nI 0)).1 71 e = σ.1 71 e from rfl, (hh e he).2.1, (hh e he).1]
        exact sL_out
      · refine bq_t (by decide) (bq_f (by decide) (p_membersOf hR hC hS hEn.1 h30 he (fun x t hOt hx => ?_)))
        have hl1 := lst1_le (U := fun j => decide (j < N)) (hg := hgP wt ti) he
        refine bq_t rfl (p_ntz (e := lst1 N (fun j => decide (j < N)) (hgP wt ti) e) (by omega) (by rw [hx]; exact hl1.2.2) (fun k hk => by rw [hx]; exact fa_first_no _ N k hk) ?_)
        have f1 : t.1 65 1 = σ.1 65 1 := congrFun (hOt.1 65 (by decide)).1 1
        rintro s2 rfl
        refine fI_i (p_isE (f1.trans hN) h30 rfl he (bq_f (by decide) (p_within ?_)))
        rw [hv]
        refine p_may_ok (by decide) rfl (bq_f (by decide) ?_)
        refine bq_f (by decide) ?_
        refine bq_f (by decide) ?_
        refine bq_f (by decide) ?_
        refine bq_f (by decide) ?_
        refine bq_f (by decide) ?_
        refine bq_f (by decide) ?_
        have f2 : Fr scrC scrJ σ (sI (sL t 115 0 (i2l (nI (lst1 N (fun j => decide (j < N)) (hgP wt ti) e)))) 65 0 (nI 0)) := (((Fr.of (js := []) hOt (by decide)).mono (ks' := [47, 48, 49, 115]) (js' := [0]) (by simp) (by simp)).l (by simp) (by decide)).f (by simp) |>.scr (by decide) (by decide)
        refine p_everyone (N := N) ?_ h30 (fun Q q => hM _ Q f2 q) (fun t2 hO2 hw h103 => p_findPart (U := fun j => decide (j < N)) ?_ h30 hw (fun j hj => by rw [h103 j hj, decide_eq_true hj]) he (fun t3 f4 h104 h64 h105 => ?_))
        · exact (f2.2.1 1 (by decide)).1.trans hN
        · rw [(hO2.1 65 (by decide)).1]; exact (f2.2.1 1 (by decide)).1.trans hN
        have f5 : Fr scrC scrJ σ t3 := f2.trans (((Fr.of hO2 (by decide)).scr (js := []) (by decide) (by decide)).trans (f4.scr (by decide) (by decide)))
        have e0 : t3.1 65 0 = nI 0 := by rw [(f4.2.1 0 (by decide)).1, (hO2.1 65 (by decide)).1]; rfl
        have eo : t3.2.1 115 0 = (i2l (nI (lst1 N (fun j => decide (j < N)) (hgP wt ti) e))) := by rw [(f4.1 115 (by decide) (by decide)).2, (hO2.1 115 (by decide)).2]; exact sL_out
        refine bq_t rfl (rI_i (by omega) ⟨e0, fun _ => ?_, b, hI.scr f5⟩)
        rw [eo, mem_0 he h105]
      · refine bq_t (by decide) (bq_f (by decide) (p_membersOf hR hC hS hEn.1 h30 he (fun x t hOt hx => bq_f (by decide) (p_bitCount ?_))))
        rw [show bt x = rc N (fun j => decide (j < N)) (hgP wt ti) e from funext hx, rc_33 he h30]
        have f1 : t.1 65 1 = σ.1 65 1 := congrFun (hOt.1 65 (by decide)).1 1
        rintro s2 rfl
        refine fI_i (p_isE (f1.trans hN) h30 rfl he (bq_f (by decide) (p_within ?_)))
        rw [hv]
        refine p_may_ok (by decide) rfl (bq_f (by decide) ?_)
        refine bq_f (by decide) ?_
        refine bq_f (by decide) ?_
        refine bq_f (by decide) ?_
        refine bq_f (by decide) ?_
        refine bq_f (by decide) ?_
        refine bq_f (by decide) ?_
        have f2 : Fr scrC scrJ σ (sI (sL t 115 0 (i2l (nI (fa_cnt (rc N (fun j => decide (j < N)) (hgP wt ti) e) N)))) 65 0 (nI 0)) := (((Fr.of (js := []) hOt (by decide)).mono (ks' := [47, 48, 49, 115]) (js' := [0]) (by simp) (by simp)).l (by simp) (by decide)).f (by simp) |>.scr (by decide) (by decide)
        refine p_everyone (N := N) ?_ h30 (fun Q q => hM _ Q f2 q) (fun t2 hO2 hw h103 => p_findPart (U := fun j => decide (j < N)) ?_ h30 hw (fun j hj => by rw [h103 j hj, decide_eq_true hj]) he (fun t3 f4 h104 h64 h105 => ?_))
        · exact (f2.2.1 1 (by decide)).1.trans hN
        · rw [(hO2.1 65 (by decide)).1]; exact (f2.2.1 1 (by decide)).1.trans hN
        have f5 : Fr scrC scrJ σ t3 := f2.trans (((Fr.of hO2 (by decide)).scr (js := []) (by decide) (by decide)).trans (f4.scr (by decide) (by decide)))
        have e0 : t3.1 65 0 = nI 0 := by rw [(f4.2.1 0 (by decide)).1, (hO2.1 65 (by decide)).1]; rfl
        have eo : t3.2.1 115 0 = (i2l (nI (fa_cnt (rc N (fun j => decide (j < N)) (hgP wt ti) e) N))) := by rw [(f4.1 115 (by decide) (by decide)).2, (hO2.1 115 (by decide)).2]; exact sL_out
        refine bq_f (by decide) ⟨e0, fun _ => ?_, b, hI.scr f5⟩
        rw [eo, h64]
    · have hv : (!decide (r < nI 0) && !decide (nI 7 < r)) = false := by simpa using hv
      rw [hv]
      refine q_refuse_no rfl ⟨nI 2, .inr ⟨rfl, rfl⟩, fI_i (p_isE hN h30 rfl he (bq_f (by decide) (p_within ?_)))⟩
      rw [hv]
      exact p_may_bad rfl (by decide) rfl (bq_t rfl (fin.no hI (.inr rfl)))
  · exact q_need_no hEn.1 h30 hp ⟨nI 1, .inl ⟨rfl, rfl⟩, fI_i (p_isE_no hN h30 rfl hp (bq_t rfl (fin.no hI (.inl rfl))))⟩
