/-! why -/
theorem or_z (x : Int32) : x ||| nI 0 = x := by simp [nI_0]
theorem p_why_loop {σ : gSt} {N : Nat} {bk nm td yr : Nat → Nat} {fa lk : Nat → Int32} {C : Nat} {kind st cd op : Nat → Nat} {num : Nat → Int32} (hE : entM σ N bk nm td yr fa lk) (hr : rulesM σ C kind st cd op num) (hk : rulesOK C kind st cd op) {a c : Nat} (ha : a < N) (hc : c < N) {Q K : Int32 → gSt → Prop} (q : ∀ s, Off [86] σ s → K (orBits (apl (fct lk bk nm td yr fa a c) num st cd op) C) s) : ∀ (m i : Nat) (s : gSt), i + m = C → Off [86] σ s → L_X12_why_41 Q (nI a) (nI c) (nI 0) K (m + 1) (orBits (apl (fct lk bk nm td yr fa a c) num st cd op) i) (nI i) s := by
  have h16 := hk.1
  intro m
  induction m with
  | zero =>
    intro i s hi hO
    obtain rfl : i = C := by omega
    rw [L_X12_why_41, (hO.1 65 (by decide)).1, hr.1]
    exact bq_t (nI_le (Nat.le_refl _) (by omega)) (q s hO)
  | succ m ih =>
    intro i s hi hO
    rw [L_X12_why_41, (hO.1 65 (by decide)).1, hr.1]
    refine bq_f (nI_ge (by omega) (by omega)) (bq_t rfl ?_)
    refine p_applies (hE.off hO (by decide)) (hr.off hO (by decide)) hk ha hc (by omega) (fun s2 hO2 => ?_)
    have hO3 := hO.trans hO2
    have e := ih (i + 1) s2 (by omega) hO3
    rw [orBits] at e
    intro J hJ
    refine br_z (fun hf => hJ _ ?_) (fun ht => hJ _ ?_)
    · rw [if_neg (by rw [hf]; decide)] at e
      rw [or_z, nI_add]; exact e
    · rw [if_pos ht] at e
      rw [nI_add]; exact e
theorem op_why {b : Bool} {σ : gSt} (hI : Inv b σ) (p r : Int32) : OKI (fun Q QX s => W_X11_why p r (fun v => Q v s) QX s) (W_X12_why p r) cdP σ := by
  have hI0 := hI
  obtain ⟨hR, N, bk, nm, td, yr, fa, C, kind, st, cd, op, num, T, ta, tb, tw, most, ob, span, F, fx, fy, ft, h, m, kz, kh, tp, R, hs, hE, hRu, hT, hL, hP, hH, hD, hG⟩ := hI
  have h30 := hE.1.2.1
  unfold OKI W_X11_why
  rcases pair_or p r N (by omega) with ⟨a, c, ha, hc, hne, rfl, rfl⟩ | ⟨E, k, h1, h2, h3⟩
  · obtain ⟨g, hg, c1, c2, c3, c4, c5, c6, c7, c8⟩ := hP.get hE ha hc hne
    refine q_pair hE.1.1 h30 ha hc hne ⟨_, fun o l => s_isByHand hR a c (by omega) (by omega), ?_⟩
    rw [hT.2.2.2.2 a c (by omega) (by omega)]
    have f3 : ∀ v, Fr [115] [0] σ (sI (sL σ 115 0 (i2l v)) 65 0 (nI 0)) := fun v => (Fr.rf.l (by simp) (by decide)).f (by simp)
    refine br_z (fun hf => ⟨_, fun o l => s_reasons hR a c (by omega) (by omega), ?_⟩) (fun ht => ?_)
    · have hn : ¬ tix T ta tb a c < T := of_decide_eq_false hf
      rintro s2 rfl
      have f3 := f3 (σ.1 25 (a * 30 + c))
      have hE3 := hE.fr f3 (by decide) (by decide)
      have hR3 := hRu.fr f3 (by cases b <;> decide) (by decide)
      refine fI_i (p_isP hE3.2.1.1 h30 rfl ha hc hne (bq_f (by decide) (p_toldV (hT.fr f3 (by decide) (by decide)).1 (by omega) (by omega) ?_)))
      rw [if_neg hn]
      refine bq_t rfl (p_isPassed hE3.2.1 hR3.2.1 hRu.2.2 ha hc (fun s8 hO8 => ?_))
      have fin2 : ∀ s9, Off [86] s8 s9 → fin (nI 0) (i2l (rsn (fct (σ.1 3) bk nm td yr fa a c) num kind st cd op C)) s9 := fun s9 hO9 => by
        have hO := hO8.trans hO9
        refine fin.scr hI0 ((f3.scr (by decide) (by decide)).trans ((Fr.of hO (by decide)).scr (js := []) (by decide) (by decide))) ?_ (fun _ => ?_)
        · rw [(hO.1 65 (by decide)).1]; rfl
        · rw [(hO.1 115 (by decide)).2, ← hg hn, ← c3]
          exact sL_out
      refine ⟨C + 1, ?_⟩
      have e16 : ∀ s, Off [86] (sI (sL σ 115 0 (i2l (σ.1 25 (a * 30 + c)))) 65 0 (nI 0)) s → s.1 65 16 = nI C := fun s hO => by rw [(hO.1 65 (by decide)).1]; exact hR3.2.1.1
      have h16 := hRu.2.2.1
      by_cases hp : psd (fct (σ.1 3) bk nm td yr fa a c) num kind st cd op C = true
      · have hz := fin2 s8 Off.rf
        rw [rsn, if_pos hp] at hz
        rw [(f3.1 3 (by decide) (by decide)).1, hp]
        rcases Nat.eq_zero_or_pos C with hC | hC
        · rw [L_X12_why_41, e16 _ hO8, hC]
          exact bq_t (by decide) hz
        · rw [L_X12_why_41, e16 _ hO8]
          exact bq_f (nI_ge hC (by omega)) (bq_f (by decide) hz)
      · have hp : psd (fct (σ.1 3) bk nm td yr fa a c) num kind st cd op C = false := by simpa using hp
        have e3 := (f3.1 3 (by decide) (by decide)).1
        rw [e3, hp]
        refine p_why_loop (hE3.2.1.off hO8 (by decide)) (hR3.2.1.off hO8 (by decide)) hRu.2.2 ha hc (fun s9 hO9 => ?_) C 0 s8 (by omega) Off.rf
        have hz := fin2 s9 hO9
        rw [rsn, if_neg (by rw [hp]; decide)] at hz
        rw [e3]
        exact hz
    · have hx : tix T ta tb a c < T := of_decide_eq_true ht
      rintro s2 rfl
      have f3 := f3 (-1)
      have hE3 := hE.fr f3 (by decide) (by decide)
      refine fI_i (p_isP hE3.2.1.1 h30 rfl ha hc hne (bq_f (by decide) (p_toldV (hT.fr f3 (by decide) (by decide)).1 (by omega) (by omega) ?_)))
      rw [if_pos hx]
      exact bq_f (nI_nm1 (by have := hT.1.2.1; omega)) (fin.scr0 hI0)
  · refine q_pair_no hE.1.1 h30 E h2 ⟨nI k, h1, fI_i (p_isP_no (N := N) hE.2.1.1 h30 rfl k h3 (bq_t rfl (fin.no hI0 (by omega))))⟩
