/-! grow -/
def bGrow (N most : Nat) (wt : Nat → Nat → Int32) (ap ti : Nat → Nat → Bool) : Nat → (Nat → Nat) → Nat × (Nat → Nat)
  | 0, h => (0, h)
  | m + 1, h => if (bAll N most wt ap ti h).2.2.2.2.2 then ((bGrow N most wt ap ti m (lst (bAll N most wt ap ti h).2.2.2.2.1)).1 + 1, (bGrow N most wt ap ti m (lst (bAll N most wt ap ti h).2.2.2.2.1)).2) else (0, h)
theorem lst_iff (f : Nat → Nat) (i k : Nat) : lst f i = lst f k ↔ f i = f k := by
  constructor
  · intro h
    rw [← lst_same f i, h, lst_same f k]
  · intro h
    exact lst_is f i (lst f k) (by rw [lst_same f k, h]) (fun j hj => lst_min f k j (by rw [hj, h]))
theorem lawP_lst {N most : Nat} {ap ti : Nat → Nat → Bool} {f : Nat → Nat} (h : lawP N most ap ti f) : lawP N most ap ti (lst f) := by
  refine ⟨fun i j hij hj => ?_, fun hm v => ?_⟩
  · rw [lst_iff]
    exact h.1 i j hij hj
  · by_cases z : ∃ k, k < N ∧ lst f k = v
    · obtain ⟨k, hk, rfl⟩ := z
      rw [fb_ct_cong (q := fun i => decide (f i = f k)) (fun i hi => by rw [decide_eq_decide, lst_iff])]
      exact h.2 hm (f k)
    · rw [fb_ct_zero.mpr (fun k hk => decide_eq_false (fun q => z ⟨k, hk, q⟩))]
      omega
theorem lst_can (f : Nat → Nat) (i : Nat) : lst f i ≤ i ∧ lst f (lst f i) = lst f i := ⟨lst_le f i, lst_idem f i⟩
theorem p_make {b : Bool} {t : gSt} (hR : t.2.2 = gRf b) {N most : Nat} {ap ti : Nat → Nat → Bool} {h : Nat → Nat} (h30 : N ≤ 30) (hsz : t.1 33 1 = nI N) (h34 : ∀ i, i < N → t.1 34 i = nI (h i)) (hh : ∀ i, i < N → h i ≤ i ∧ h (h i) = h i) {s : BS} (hB : skB t s) (hz : s.2.2.2.2.2 = true) (hbo : bOK N most ap ti h s) {Q : gSt → Prop} (q : ∀ t2, Off [34, 35] t t2 → (∀ i, i < N → t2.1 34 i = nI (lst s.2.2.2.2.1 i)) → Q t2) : W_X0_make Q t := by
  have e38 := hB.2.1
  rw [if_pos hz] at e38
  obtain ⟨e1, e2⟩ := hB.2.2 hz
  have hb : ∀ i, i < N → h i ≤ 30 := fun i hi => by have := (hh i hi).1; omega
  unfold W_X0_make
  intro J1 hJ1
  rw [e38, e1, e2] at hJ1 ⊢
  rcases (hbo hz).2 with ⟨e, v, he, hv, c1, c2, c3, c4⟩ | ⟨e, he, c1, c2, c3, c4⟩ | ⟨a, c, ha, hc, c1, c2, c3, c4⟩ | ⟨a, c, ha, hc, c1, c2, c3, c4⟩ <;> rw [c1, c2, c3] at hJ1 ⊢ <;> rw [c4] at q
  · refine bq_t rfl (bq_f (nI_nm1 (by omega)) (hJ1 (bq_t rfl ⟨_, fun o l => s_moveTo hR h30 hsz h34 hb e v he (by omega), fun r s2 hp => ⟨hp.1, hp.2.1.2, q s2 hp.2.1 (fun i hi => ?_)⟩⟩)))
    rw [hp.2.2, if_pos hi]
    rfl
  · refine bq_t rfl (bq_t rfl ⟨_, fun o l => s_moveOut hR h30 hsz h34 hb e he, fun r s2 hp => ⟨hp.1, hp.2.1.2, q s2 hp.2.1 (fun i hi => ?_)⟩⟩)
    rw [hp.2.2, if_pos hi]
    congr 1
    refine lst_cong hi (fun x y hx hy => ?_)
    have hx2 := (hh x hx).1
    have hy2 := (hh y hy).1
    unfold upN
    by_cases zx : x = e
    · by_cases zy : y = e
      · rw [if_pos zx, if_pos zy, if_pos zx, if_pos zy]; omega
      · rw [if_pos zx, if_neg zy, if_pos zx, if_neg zy]; omega
    · by_cases zy : y = e
      · rw [if_neg zx, if_pos zy, if_neg zx, if_pos zy]; omega
      · rw [if_neg zx, if_neg zy, if_neg zx, if_neg zy]
  · refine bq_f (by decide) (hJ1 (bq_f (by decide) (bq_t rfl ⟨_, fun o l => s_unite hR h30 hsz h34 hb a c (by omega) (by omega), fun r s2 hp => ⟨hp.1, hp.2.1.2, q s2 hp.2.1 (fun i hi => ?_)⟩⟩)))
    rw [hp.2.2, if_pos hi]
  · refine bq_f (by decide) (hJ1 (bq_f (by decide) (bq_f (by decide) (bq_t rfl ⟨_, fun o l => s_exchange hR h30 hsz h34 hb a c ha hc, fun r s2 hp => ⟨hp.1, hp.2.1.2, q s2 hp.2.1 (fun i hi => ?_)⟩⟩))))
    rw [hp.2.2, if_pos hi]
    rfl
theorem p_takes {t : gSt} {N : Nat} {f : Nat → Nat} (h30 : N ≤ 30) (hN : t.1 65 1 = nI N) (h99 : ∀ i, i < N → t.1 99 i = nI (f i) ∧ f i < 1000) {Q : gSt → Prop} (q : ∀ t2, Off [71, 98] t t2 → (∀ i, i < N → t2.1 71 i = nI (lst f i)) → Q t2) : W_X12_takes 99 Q t := by
  have lp : ∀ (m i : Nat) (t1 : gSt), i + m = N → Off [71] t t1 → (∀ j, j < i → t1.1 71 j = nI (f j)) → L_X12_takes_2 99 Q (fun s8 => W_X12_number 71 (fun s9 => Q s9) s8) (m + 1) (nI i) t1 := by
    intro m
    induction m with
    | zero =>
      intro i t1 hi hO hb
      obtain rfl : i = N := by omega
      rw [L_X12_takes_2, (hO.1 65 (by decide)).1, hN]
      refine bq_t (nI_le (Nat.le_refl _) (by omega)) (p_number h30 (by rw [(hO.1 65 (by decide)).1]; exact hN) (fun j hj => ⟨hb j hj, (h99 j hj).2⟩) (fun t2 hO2 h71 => q t2 ((hO.mono (by simp)).trans hO2) h71))
    | succ m ih =>
      intro i t1 hi hO hb
      rw [L_X12_takes_2, (hO.1 65 (by decide)).1, hN]
      refine bq_f (nI_ge (by omega) (by omega)) (rI_i (show i < 30 by omega) (wI_i (by omega) ?_))
      rw [nI_add]
      refine ih (i + 1) _ (by omega) (hO.i (by simp)) (fun j hj => ?_)
      rw [sI_get]
      by_cases z : j = i
      · subst z
        rw [if_pos ⟨rfl, rfl⟩, (hO.1 99 (by decide)).1]
        exact (h99 j (by omega)).1
      · rw [if_neg (fun w => z w.2)]
        exact hb j (by omega)
  unfold W_X12_takes
  exact ⟨N + 1, lp N 0 t (by omega) Off.rf (fun j hj => absurd hj (Nat.not_lt_zero j))⟩
theorem bGrow_can {N most : Nat} {wt : Nat → Nat → Int32} {ap ti : Nat → Nat → Bool} : ∀ (m : Nat) (h : Nat → Nat), (∀ i, i < N → h i ≤ i ∧ h (h i) = h i) → (bGrow N most wt ap ti m h).1 ≤ m ∧ ∀ i, i < N → (bGrow N most wt ap ti m h).2 i ≤ i ∧ (bGrow N most wt ap ti m h).2 ((bGrow N most wt ap ti m h).2 i) = (bGrow N most wt ap ti m h).2 i
  | 0, h, hh => ⟨Nat.le_refl _, hh⟩
  | m + 1, h, hh => by
    rw [bGrow]
    by_cases z : (bAll N most wt ap ti h).2.2.2.2.2 = true
    · rw [if_pos z]
      have := bGrow_can (N := N) (most := most) (wt := wt) (ap := ap) (ti := ti) m (lst (bAll N most wt ap ti h).2.2.2.2.1) (fun i _ => lst_can _ i)
      exact ⟨by have := this.1; show _ + 1 ≤ m + 1; omega, this.2⟩
    · rw [if_neg z]
      exact ⟨Nat.zero_le _, hh⟩
theorem op_grow {b : Bool} {σ : gSt} (hI : Inv b σ) (p : Int32) : OKI (fun Q QX s => W_X11_grow p Q QX s) (W_X12_grow p) cdA σ := by
  obtain ⟨N, bk, nm, td, yr, fa, most, wt, nv, ti, ap, h, h30, hEn, ⟨hN, hsz⟩, hm, hh, hS, hC, hM, h0, h24, h31d, hsy, hok, hap, hti⟩ := hI.pwD
  have hR := hI.1
  have hhc : ∀ i, i < N → h i ≤ i ∧ h (h i) = h i := fun i hi => (hh i hi).2.2
  unfold OKI W_X11_grow
  refine q_within ?_
  by_cases hv : (!decide (p < nI 0) && !decide (nI 100 < p)) = true
  · rw [hv]
    obtain ⟨P, hP, rfl⟩ := within_j (by decide) hv
    refine q_refuse (by decide) ?_
    have hoff : fa_first (fun e => offC σ h bk yr most e) N = fa_first (fun e => offM ap ti h most e) N := first_cong (fun e he => off_same h30 hC hS he)
    have hfle := fa_first_le (fun e => offM ap ti h most e) N
    refine ⟨_, fun o l => s_offender hR hEn h30 hsz (fun i hi => (hh i hi).1) (fun i hi => by have := (hhc i hi).1; omega) most hm.2.2 hm.2.1, ?_⟩
    rw [hoff]
    by_cases hl : fa_first (fun e => offM ap ti h most e) N = N
    · rw [if_neg (by omega)]
      have hcan := bGrow_can (N := N) (most := most) (wt := wt) (ap := ap) (ti := ti) P h hhc
      refine bq_t rfl (p_prepare hR hEn hsz h30 hC hap (fun t0 hO0 h39 => ?_))
      have after : ∀ t, Off [34, 35, 38, 39, 40, 41] σ t → (∀ i, i < N → t.1 34 i = nI ((bGrow N most wt ap ti P h).2 i)) → ∀ s2, s2 = sL t 115 0 (i2l (nI (bGrow N most wt ap ti P h).1)) → W_X12_grow (nI P) (fun w t => fin (nI 0) (i2l w) t) s2 := by
        rintro t hO h34 s2 rfl
        have f1 : Fr (34 :: 71 :: scrC) scrJ σ (sI (sL t 115 0 (i2l (nI (bGrow N most wt ap ti P h).1))) 65 0 (nI 0)) := ((((Fr.of (js := []) hO (by decide)).mono (ks' := [34, 35, 38, 39, 40, 41, 115]) (js' := [0]) (by simp) (by simp)).l (by simp) (by decide)).f (by simp)).mono (by decide) (by decide)
        refine fI_i (p_within ?_)
        rw [hv]
        refine p_may_ok (by decide) rfl (bq_f (by decide) ?_)
        refine hM _ _ (f1.mono (by decide) (by decide)) (fun t1 hO1 hw => ?_)
        have f2 : Fr (34 :: 71 :: scrC) scrJ σ t1 := f1.trans (((Fr.of hO1 (by decide)).scr (js := []) (by decide) (by decide)).mono (by decide) (by decide))
        have z0 : t1.1 65 0 = nI 0 := by rw [(hO1.1 65 (by decide)).1]; rfl
        have zo : t1.2.1 115 0 = i2l (nI (bGrow N most wt ap ti P h).1) := by rw [(hO1.1 115 (by decide)).2]; exact sL_out
        have z34 : t1.1 34 = t.1 34 := (hO1.1 34 (by decide)).1
        have z71 : t1.1 71 = σ.1 71 := (hO1.1 71 (by decide)).1.trans (hO.1 71 (by decide)).1
        have hX : mdX t1 N most h wt nv ti ap := ⟨(f2.2.1 1 (by decide)).1.trans hN, (f2.2.1 41 (by decide)).1.trans hm.1, hw, fun i hi => (congrFun z71 i).trans (hh i hi).2.1⟩
        refine p_barredIn (h := h) (ap := ap) (ti := ti) (most := most) h30 hX.1 hX.2.1 hm.2.2 rfl (fun i hi => ⟨hX.2.2.2 i hi, by have := (hhc i hi).1; omega⟩) (fun a c hac hc => ⟨(hw a c (by omega) hc (by omega)).2.2.2, (hw a c (by omega) hc (by omega)).2.2.1⟩) ?_
        rw [if_neg (by omega)]
        have lp : ∀ (m i : Nat) (g : Nat → Nat) (u : gSt), i + m = P → Fr [71, 97, 98, 99] [50, 51, 52, 53, 54] t1 u → mdX u N most g wt nv ti ap → (∀ i, i < N → g i ≤ i ∧ g (g i) = g i) → (∀ u2, Fr [71, 97, 98, 99] [50, 51, 52, 53, 54] t1 u2 → (∀ k, k < N → u2.1 71 k = nI ((bGrow N most wt ap ti m g).2 k)) → fin (nI 0) (i2l (nI (i + (bGrow N most wt ap ti m g).1))) u2) → L_X12_grow_42 (fun w t => fin (nI 0) (i2l w) t) (nI P) (fun y20 s21 => fin (nI 0) (i2l y20) s21) (m + 1) (nI i) u := by
          intro m
          induction m with
          | zero =>
            intro i g u hi f hX hg hK
            obtain rfl : i = P := by omega
            rw [L_X12_grow_42]
            exact bq_t (nI_le (Nat.le_refl _) (by omega)) (hK u f hX.2.2.2)
          | succ m ih =>
            intro i g u hi f hX hg hK
            rw [L_X12_grow_42]
            refine bq_f (nI_ge (by omega) (by omega)) (p_findBetter h30 hm.2.2 hS hX (fun i hi => (hg i hi).1) (fun u1 f3 hB => ?_))
            have f4 : Fr [71, 97, 98, 99] [50, 51, 52, 53, 54] t1 u1 := f.trans (f3.mono (by simp) (by simp))
            rw [bGrow] at hK
            by_cases hz : (bAll N most wt ap ti g).2.2.2.2.2 = true
            · rw [if_pos hz] at hK
              rw [hz]
              refine bq_f (by decide) (p_takes h30 (hX.fr f3).1 (hB.2.2 hz).2.2.2 (fun u2 hO2 h71 => ?_))
              rw [nI_add]
              have f5 : Fr [71, 97, 98, 99] [50, 51, 52, 53, 54] t1 u2 := f4.trans ((Fr.of (js := []) hO2 (by decide)).mono (by simp) (by simp))
              refine ih (i + 1) _ u2 (by omega) f5 ⟨(f5.2.1 1 (by decide)).1.trans ((f2.2.1 1 (by decide)).1.trans hN), (f5.2.1 41 (by decide)).1.trans ((f2.2.1 41 (by decide)).1.trans hm.1), hw.fr f5 (by decide), h71⟩ (fun k _ => lst_can _ k) (fun u3 f6 h71b => ?_)
              have := hK u3 f6 h71b
              rw [show i + ((bGrow N most wt ap ti m (lst (bAll N most wt ap ti g).2.2.2.2.1)).1 + 1) = i + 1 + (bGrow N most wt ap ti m (lst (bAll N most wt ap ti g).2.2.2.2.1)).1 by omega] at this
              exact this
            · rw [if_neg hz] at hK
              rw [ts_nt hz]
              exact bq_t rfl (hK u1 f4 (hX.fr f3).2.2.2)
        refine bq_t rfl ⟨P + 1, lp P 0 h t1 (by omega) Fr.rf hX hhc (fun u f h71 => ?_)⟩
        have f3 : Fr (34 :: 71 :: scrC) scrJ σ u := f2.trans (f.mono (by decide) (by decide))
        refine ⟨(f.2.1 0 (by decide)).1.trans z0, fun _ => ?_, b, hI.hand f3 hN h30 (g := (bGrow N most wt ap ti P h).2) (fun i hi => ⟨?_, h71 i hi, hcan.2 i hi⟩)⟩
        · rw [(f.1 115 (by decide) (by decide)).2, zo, Nat.zero_add]
        · rw [(f.1 34 (by decide) (by decide)).1, z34]
          exact h34 i hi
      have lp : ∀ (m i : Nat) (g : Nat → Nat) (t : gSt), i + m = P → Off [34, 35, 38, 40, 41] t0 t → (∀ i, i < N → t.1 34 i = nI (g i)) → (∀ i, i < N → g i ≤ i ∧ g (g i) = g i) → lawP N most ap ti g → (∀ t2, Off [34, 35, 38, 40, 41] t0 t2 → (∀ i, i < N → t2.1 34 i = nI ((bGrow N most wt ap ti m g).2 i)) → ∀ s2, s2 = sL t2 115 0 (i2l (nI (i + (bGrow N most wt ap ti m g).1))) → W_X12_grow (nI P) (fun w t => fin (nI 0) (i2l w) t) s2) → L_X11_grow_34 (fun v s => ∀ s2, s2 = sL s 115 0 (i2l v) → W_X12_grow (nI P) (fun w t => fin (nI 0) (i2l w) t) s2) (fun E s => ∃ k, cdA E k ∧ W_X12_grow (nI P) (fun _ t => fin k (lN 0) t) s) (nI P) (fun y16 s17 => ∀ s2, s2 = sL s17 115 0 (i2l y16) → W_X12_grow (nI P) (fun w t => fin (nI 0) (i2l w) t) s2) (m + 1) (nI i) (nI i) t := by
        intro m
        induction m with
        | zero =>
          intro i g t hi hO h34 hg hlg hK
          obtain rfl : i = P := by omega
          rw [L_X11_grow_34]
          exact bq_t (nI_le (Nat.le_refl _) (by omega)) (hK t hO h34)
        | succ m ih =>
          intro i g t hi hO h34 hg hlg hK
          rw [L_X11_grow_34]
          refine bq_f (nI_ge (by omega) (by omega)) ?_
          refine p_seek ((hO.2.trans hO0.2).trans hR) h30 hm.2.2 (by rw [(hO.1 33 (by decide)).1, (hO0.1 33 (by decide)).1]; exact hsz) h34 hg (fun a c ha hc hne => by rw [(hO.1 31 (by decide)).1, (hO0.1 31 (by decide)).1]; exact (hC a c ha hc hne).2.2.1) (fun a ha => by rw [(hO.1 31 (by decide)).1, (hO0.1 31 (by decide)).1]; exact h31d a ha) (by rw [(hO.1 39 (by decide)).1]; exact h39) (fun a c ha hc => by rw [(hO.1 24 (by decide)).1, (hO0.1 24 (by decide)).1]; exact h24 a c ha hc) (by rw [(hO.1 30 (by decide)).1, (hO0.1 30 (by decide)).1]; exact hm.2.1) hsy hok h0 hap hti hlg (fun t2 hO2 hB => ?_)
          have hO3 : Off [34, 35, 38, 40, 41] t0 t2 := hO.trans (hO2.mono (by simp))
          have h34b : ∀ i, i < N → t2.1 34 i = nI (g i) := fun i hi => by rw [(hO2.1 34 (by decide)).1]; exact h34 i hi
          rw [bGrow] at hK
          have hbo := bAll_ok (N := N) (most := most) (wt := wt) (ap := ap) (ti := ti) (h := g)
          by_cases hz : (bAll N most wt ap ti g).2.2.2.2.2 = true
          · rw [if_pos hz] at hK
            have e38 := hB.2.1
            rw [if_pos hz] at e38
            refine bq_f (by rw [e38]; exact (hbo hz).2.sort) ?_
            refine p_make ((hO3.2.trans hO0.2).trans hR) h30 (by rw [(hO3.1 33 (by decide)).1, (hO0.1 33 (by decide)).1]; exact hsz) h34b hg hB hz hbo (fun t3 hO4 h34c => ?_)
            rw [nI_add]
            refine ih (i + 1) _ t3 (by omega) (hO3.trans (hO4.mono (by simp))) h34c (fun k _ => lst_can _ k) (lawP_lst (hbo hz).1) (fun t4 hO5 h34d => ?_)
            have := hK t4 hO5 h34d
            rw [show i + ((bGrow N most wt ap ti m (lst (bAll N most wt ap ti g).2.2.2.2.1)).1 + 1) = i + 1 + (bGrow N most wt ap ti m (lst (bAll N most wt ap ti g).2.2.2.2.1)).1 by omega] at this
            exact this
          · rw [if_neg hz] at hK
            have e38 := hB.2.1
            rw [if_neg hz] at e38
            exact bq_t e38 (hK t2 hO3 h34b)
      refine ⟨P + 1, lp P 0 h t0 (by omega) Off.rf (fun i hi => by rw [(hO0.1 34 (by decide)).1]; exact (hh i hi).1) hhc (law_iff.mp hl) (fun t2 hO2 h34 => ?_)⟩
      have := after t2 ((hO0.mono (by simp)).trans (hO2.mono (by simp))) h34
      rw [Nat.zero_add]
      exact this
    · rw [if_pos (by omega)]
      refine bq_f (nI_nm1 (by omega)) ?_
      rintro s2 rfl
      have f1 : Fr scrC scrJ σ (sI (sL σ 115 0 (i2l (-1))) 65 0 (nI 0)) := ((Fr.rf.l (ks := [115]) (js := [0]) (by simp) (by decide)).f (by simp)).scr (by decide) (by decide)
      refine fI_i (p_within ?_)
      rw [hv]
      refine p_may_ok (by decide) rfl (bq_f (by decide) (hM _ _ (f1.mono (by decide) (by decide)) (fun t1 hO1 hw => ?_)))
      have f2 : Fr scrC scrJ σ t1 := f1.trans ((Fr.of hO1 (by decide)).scr (js := []) (by decide) (by decide))
      have z0 : t1.1 65 0 = nI 0 := by rw [(hO1.1 65 (by decide)).1]; rfl
      have zo : t1.2.1 115 0 = i2l (-1) := by rw [(hO1.1 115 (by decide)).2]; exact sL_out
      refine p_barredIn (h := h) (ap := ap) (ti := ti) (most := most) h30 ((f2.2.1 1 (by decide)).1.trans hN) ((f2.2.1 41 (by decide)).1.trans hm.1) hm.2.2 rfl (fun i hi => ⟨(congrFun (f2.1 71 (by decide) (by decide)).1 i).trans (hh i hi).2.1, by have := (hhc i hi).1; omega⟩) (fun a c hac hc => ⟨(hw a c (by omega) hc (by omega)).2.2.2, (hw a c (by omega) hc (by omega)).2.2.1⟩) ?_
      rw [if_pos (by omega)]
      exact bq_f (nI_nm1 (by omega)) (fin.scr hI f2 z0 (fun _ => zo))
  · have hv : (!decide (p < nI 0) && !decide (nI 100 < p)) = false := by simpa using hv
    rw [hv]
    refine q_refuse_no rfl ⟨nI 1, ⟨rfl, rfl⟩, fI_i (p_within ?_)⟩
    rw [hv]
    exact p_may_bad rfl (by decide) rfl (bq_t rfl (fin.no hI (.inl rfl)))
