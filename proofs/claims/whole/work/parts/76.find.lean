/-! the class finds all parts among some -/
noncomputable def numP (N : Nat) (U : Nat → Bool) (hg : Nat → Nat → Bool) (i j : Nat) : Int32 := if U j = true ∧ j < N ∧ lst1 N U hg j < i then nI (lst1 N U hg j) else -1
theorem m1_nI {a : Nat} (h : a < 2147483648) : ¬ nI a = -1 := fun e => nI_pos h (by rw [e]; decide)
theorem lnk_hg {σ : gSt} {N : Nat} {bk yr : Nat → Nat} {wt : Nat → Nat → Int32} {nv ti ap : Nat → Nat → Bool} (hC : pwC σ N bk yr wt nv ti ap) {U : Nat → Bool} (hU : ∀ j, U j = true → j < N) {a k : Nat} (ha : a < N) (hne : k ≠ a) : (lnkB σ U a N k && U k) = (decide (k < N) && hgP wt ti a k && U k) := by
  cases hu : U k
  · rw [Bool.and_false, Bool.and_false]
  · have hk := hU k hu
    obtain ⟨x1, x2, x3, x4⟩ := hC a k ha hk (Ne.symm hne)
    unfold lnkB hgP drP
    rw [x1, x3, decide_eq_true hk, decide_eq_true (Ne.symm hne), Bool.and_true, Bool.and_true, Bool.true_and, Bool.true_and, Bool.true_and, Bool.or_comm]
theorem hgP_sy {N : Nat} {wt : Nat → Nat → Int32} {nv ti ap : Nat → Nat → Bool} (hS : pwS N wt nv ti ap) (a c : Nat) (ha : a < N) (hc : c < N) : hgP wt ti a c = hgP wt ti c a := by
  unfold hgP drP
  by_cases h : a = c
  · subst h; rfl
  · rw [(hS a c ha hc h).1, (hS a c ha hc h).2.2.1, show decide (a ≠ c) = decide (c ≠ a) from by rw [decide_eq_decide]; exact ⟨Ne.symm, Ne.symm⟩]
theorem hgP_n {wt : Nat → Nat → Int32} {ti : Nat → Nat → Bool} (a : Nat) : hgP wt ti a a = false := by unfold hgP; simp
theorem p_find {b : Bool} {σ : gSt} (hR : σ.2.2 = gRf b) {N : Nat} {bk yr : Nat → Nat} {wt : Nat → Nat → Int32} {nv ti ap : Nat → Nat → Bool} (hC : pwC σ N bk yr wt nv ti ap) (hS : pwS N wt nv ti ap) (hN : σ.1 1 0 = nI N) (h30 : N ≤ 30) {U : Nat → Bool} (hU : ∀ j, U j = true → j < N) {A : Int32} (hA : ∀ k, k < 32 → bt A k = U k) {Q : Int32 → gSt → Prop} (q : ∀ t, Off [47, 48, 49] σ t → (∀ j, j < 30 → t.1 47 j = numP N U (hgP wt ti) N j) → (∀ e, U e = true → lst1 N U (hgP wt ti) e = e → ∀ k, bt (t.1 49 e) k = rc N U (hgP wt ti) e k) → Q (nI (fa_cnt (fun a => U a && decide (lst1 N U (hgP wt ti) a = a)) N)) t) : W_X6_find A Q σ := by
  refine p_link hR hN h30 hA (fun t1 hO1 h48 => ?_)
  intro s2 hO2 h47
  refine ⟨N + 1, ?_⟩
  have hgs := hgP_sy hS
  have loop : ∀ (m i : Nat) (s : gSt), i + m = N → Off [47, 49] s2 s → (∀ j, j < 30 → s.1 47 j = numP N U (hgP wt ti) i j) → (∀ e, e < i → U e = true → lst1 N U (hgP wt ti) e = e → ∀ k, bt (s.1 49 e) k = rc N U (hgP wt ti) e k) → L_X6_find_17 Q A (fun y15 s16 => Q y15 s16) (m + 1) (nI (fa_cnt (fun a => U a && decide (lst1 N U (hgP wt ti) a = a)) i)) (nI i) s := by
    intro m
    induction m with
    | zero =>
      intro i s hi hO hn hm
      obtain rfl : i = N := by omega
      have hO3 : Off [47, 48, 49] σ s := (hO1.mono (by simp)).trans ((hO2.mono (by simp)).trans (hO.mono (by simp)))
      rw [L_X6_find_17, (hO3.1 1 (by decide)).1, hN]
      exact bq_t (nI_le (Nat.le_refl _) (by omega)) (q s hO3 hn (fun e he => hm e (hU e he) he))
    | succ m ih =>
      intro i s hi hO hn hm
      have hO3 : Off [47, 48, 49] σ s := (hO1.mono (by simp)).trans ((hO2.mono (by simp)).trans (hO.mono (by simp)))
      rw [L_X6_find_17, (hO3.1 1 (by decide)).1, hN, nI_add, nI_add]
      -- an entry that begins no part
      have skip : ¬ (U i = true ∧ lst1 N U (hgP wt ti) i = i) → L_X6_find_17 Q A (fun y15 s16 => Q y15 s16) (m + 1) (nI (fa_cnt (fun a => U a && decide (lst1 N U (hgP wt ti) a = a)) i)) (nI (i + 1)) s := fun hno => by
        have e := ih (i + 1) s (by omega) hO (fun j hj => ?_) (fun e he hu hl => ?_)
        · rw [fa_cnt_no (by cases hx : (U i && decide (lst1 N U (hgP wt ti) i = i)); rfl; exact absurd (by simpa using hx) hno)] at e
          exact e
        · rw [hn j hj]
          unfold numP
          by_cases x : U j = true ∧ j < N ∧ lst1 N U (hgP wt ti) j < i
          · rw [if_pos x, if_pos ⟨x.1, x.2.1, by omega⟩]
          · rw [if_neg x, if_neg]
            rintro ⟨y1, y2, y3⟩
            have hl : lst1 N U (hgP wt ti) j = i := Classical.byContradiction fun h => x ⟨y1, y2, by omega⟩
            have h3 := (lst1_le (U := U) (hg := hgP wt ti) y2).2.2
            rw [hl] at h3
            exact hno ⟨(rc_iff.mp h3).u y1, (lst1_eq hgs h3 y2 y1).trans hl⟩
        · by_cases x : e = i
          · subst x; exact absurd ⟨hu, hl⟩ hno
          · exact hm e (by omega) hu hl
      refine bq_f (nI_ge (by omega) (by omega)) ⟨fun ht => ?_, fun ht => rI_i (by omega) ?_⟩
      · have ht := (bit_test (show i < 32 by omega)).mp ht
        rw [hA i (by omega)] at ht
        exact skip (fun h => by rw [h.1] at ht; cases ht)
      · have hu : U i = true := by
          cases hv : U i
          · exact absurd ((bit_test (show i < 32 by omega)).mpr (by rw [hA i (by omega)]; exact hv)) ht
          · rfl
        have hiN : i < N := by omega
        rw [hn i (by omega)]
        have hle := (lst1_le (U := U) (hg := hgP wt ti) hiN).1
        by_cases hl : lst1 N U (hgP wt ti) i < i
        · refine bq_f ?_ (skip (fun h => by rw [h.2] at hl; omega))
          unfold numP
          rw [if_pos ⟨hu, hiN, hl⟩]
          exact m1_nI (by omega)
        · have hl : lst1 N U (hgP wt ti) i = i := by omega
          refine bq_t ?_ ?_
          · unfold numP
            rw [if_neg (by omega)]
          · refine p_spread (N := N) (U := U) (hg := hgP wt ti) ?_ h30 hgP_n (fun a k ha hk hne => ?_) hiN (fun t hOt g47 g49 g49b => ?_)
            · rw [(hO3.1 1 (by decide)).1, hN]
            · rw [(hO.1 48 (by decide)).1, (hO2.1 48 (by decide)).1, h48 a ha k hk, lnk_hg hC hU ha hne]
            · have e := ih (i + 1) t (by omega) (hO.trans hOt) (fun j hj => ?_) (fun e he hue hle2 k => ?_)
              · rw [fa_cnt_yes (by rw [hu, hl]; simp)] at e
                exact e
              · rw [g47]
                unfold numP
                by_cases x : rc N U (hgP wt ti) i j = true
                · have hr := rc_iff.mp x
                  rw [if_pos x, if_pos ⟨hr.u hu, hr.lt hiN, by rw [lst1_eq hgs x hiN hu, hl]; omega⟩, lst1_eq hgs x hiN hu, hl]
                · rw [if_neg x, hn j hj]
                  unfold numP
                  by_cases y : U j = true ∧ j < N ∧ lst1 N U (hgP wt ti) j < i
                  · rw [if_pos y, if_pos ⟨y.1, y.2.1, by omega⟩]
                  · rw [if_neg y, if_neg]
                    rintro ⟨y1, y2, y3⟩
                    have hlj : lst1 N U (hgP wt ti) j = i := Classical.byContradiction fun h => y ⟨y1, y2, by omega⟩
                    have h3 := (lst1_le (U := U) (hg := hgP wt ti) y2).2.2
                    rw [hlj] at h3
                    exact x (rc_iff.mpr ((rc_iff.mp h3).sy hgs y2 y1))
              · by_cases x : e = i
                · subst x; exact g49 k
                · rw [g49b e x]; exact hm e (by omega) hue hle2 k
  have e47 : ∀ j, j < 30 → s2.1 47 j = numP N U (hgP wt ti) 0 j := fun j hj => by
    rw [h47, if_pos (show j < (lay 47).2 from hj)]
    unfold numP
    rw [if_neg (fun x => Nat.not_lt_zero _ x.2.2)]
  exact loop N 0 s2 (by omega) Off.rf e47 (fun e he => absurd he (Nat.not_lt_zero e))
/-- the mask of an entry's part -/
theorem p_membersWith {t : gSt} {N : Nat} {wt : Nat → Nat → Int32} {nv ti ap : Nat → Nat → Bool} (hS : pwS N wt nv ti ap) (h30 : N ≤ 30) {U : Nat → Bool} (hn : ∀ j, j < 30 → t.1 47 j = numP N U (hgP wt ti) N j) (hm : ∀ e, U e = true → lst1 N U (hgP wt ti) e = e → ∀ k, bt (t.1 49 e) k = rc N U (hgP wt ti) e k) {e : Nat} (he : e < N) (hu : U e = true) {Q : Int32 → Prop} (q : ∀ x, (∀ k, bt x k = rc N U (hgP wt ti) e k) → Q x) : W_X6_membersWith (nI e) Q t := by
  have hl := lst1_le (U := U) (hg := hgP wt ti) he
  have hgs := hgP_sy hS
  have e1 : t.1 47 e = nI (lst1 N U (hgP wt ti) e) := by
    rw [hn e (by omega)]; unfold numP; rw [if_pos ⟨hu, he, hl.2.1⟩]
  have e2 := lst1_eq hgs hl.2.2 he hu
  unfold W_X6_membersWith
  refine rI_i (by omega) ?_
  rw [e1]
  refine bq_f (m1_nI (by omega)) (rI_i (by omega) ?_)
  rw [e1]
  refine rI_i (by omega) (q _ (fun k => ?_))
  rw [hm _ ((rc_iff.mp hl.2.2).u hu) e2 k, rc_eq hgs hl.2.2 he hu]
theorem bt_every (N : Nat) (h : N ≤ 30) : ∀ k, k < 32 → bt (nI 1 <<< (nI N &&& 31) - nI 1) k = decide (k < N) := by
  have key : ∀ N, N < 31 → ∀ k, k < 32 → bt (nI 1 <<< (nI N &&& 31) - nI 1) k = decide (k < N) := by decide +kernel
  exact key N (by omega)
