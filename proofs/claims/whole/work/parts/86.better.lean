/-! better -/
def wdg (wt : Nat → Nat → Int32) (a c : Nat) : Int32 := if a = c then nI 0 else wt a c
theorem wdg_ne {wt : Nat → Nat → Int32} {a c : Nat} (h : a ≠ c) : wdg wt a c = wt a c := if_neg h
theorem Inv.diag {b : Bool} {σ : gSt} (hI : Inv b σ) : ∀ a, a < 30 → σ.1 24 (a * 30 + a) = nI 0 ∧ bt (σ.1 31 a) a = false := by
  obtain ⟨hR, N, bk, nm, td, yr, fa, C, kind, st, cd, op, num, T, ta, tb, tw, most, ob, span, F, fx, fy, ft, h, m, kz, kh, tp, R, hs, hE, hRu, hT, hL, hP, hH, hD, hG⟩ := hI
  intro a ha
  refine ⟨hP.2.2 a ha, ?_⟩
  rw [(hL.2.2.2.2.2.2.2 a a ha (by omega)).1]
  unfold tieF
  rw [decide_eq_false, Bool.false_and]
  intro hlt
  have hy := fa_first_yes (fun q => sp (fx q) (fy q) a a) F hlt
  have hy : sp (fx (tix F fx fy a a)) (fy (tix F fx fy a a)) a a = true := hy
  rw [sp_iff] at hy
  have := (hL.2.1 _ hlt).2.2
  omega
theorem Inv.pwW {b : Bool} {σ : gSt} (hI : Inv b σ) : ∃ (N : Nat) (bk nm td yr : Nat → Nat) (fa : Nat → Int32) (most : Nat) (wt : Nat → Nat → Int32) (nv ti ap : Nat → Nat → Bool) (h : Nat → Nat), N ≤ 30 ∧ entAt σ N bk nm td yr fa ∧ (σ.1 65 1 = nI N ∧ σ.1 33 1 = nI N) ∧ (σ.1 65 41 = nI most ∧ σ.1 30 5 = nI most ∧ most ≤ 30) ∧ (∀ i, i < N → σ.1 34 i = nI (h i) ∧ σ.1 71 i = nI (h i) ∧ h i ≤ i ∧ h (h i) = h i) ∧ pwS N wt nv ti ap ∧ pwC σ N bk yr wt nv ti ap ∧
    (∀ (s : gSt) (Q : gSt → Prop), Fr (34 :: 56 :: 71 :: 42 :: 43 :: 101 :: scrC) (56 :: 57 :: 60 :: scrJ) σ s → (∀ t, Off [86, 90, 91, 92, 93] s t → pwM t N wt nv ti ap → Q t) → W_X12_weighs Q s) := by
  obtain ⟨hR, N, bk, nm, td, yr, fa, C, kind, st, cd, op, num, T, ta, tb, tw, most, ob, span, F, fx, fy, ft, h, m, kz, kh, tp, R, hs, hE, hRu, hT, hL, hP, hH, hD, hG⟩ := hI
  have h30 := hE.1.2.1
  refine ⟨N, bk, nm, td, yr, fa, most, fun a c => w0 (wgt (fct (σ.1 3) bk nm td yr fa a c) num kind st cd op C T ta tb tw a c), fun a c => decide (wgt (fct (σ.1 3) bk nm td yr fa a c) num kind st cd op C T ta tb tw a c = (-2147483648 : Int32)), tieF F fx fy ft, fun a c => apaF bk yr F fx fy ft ob span (wgt (fct (σ.1 3) bk nm td yr fa a c) num kind st cd op C T ta tb tw a c) a c, h, h30, hE.1, ⟨hE.2.1.1, hH.1⟩, hL.2.2.2.1, hH.2.2.1, ?_, ?_, ?_⟩
  · intro a c ha hc hne
    have hf := hE.symm ha hc
    have ea := hE.1.2.2 a ha
    have ec := hE.1.2.2 c hc
    refine ⟨by simp only [wgt_symm hf], by simp only [wgt_symm hf], by unfold tieF; rw [tix_symm F fx fy a c], ?_, wgt_ok (fun q hq => (hT.2.2.1 q hq).2.2.2), fun hn => ?_⟩
    · simp only [wgt_symm hf]
      exact apaF_symm (abs_symm ea.2.2.2.2.2.2.2.2 ec.2.2.2.2.2.2.2.2)
    · exact if_pos (of_decide_eq_true hn)
  · intro a c ha hc hne
    obtain ⟨g, hg, c1, c2, c3, c4, c5, c6, c7, c8⟩ := hP.get hE ha hc hne
    obtain ⟨b1, b2⟩ := hL.2.2.2.2.2.2.2 a c (by omega) (by omega)
    refine ⟨c1, c5, b1, ?_⟩
    unfold prtC apaF
    rw [c5, b2, hL.2.2.2.2.1.2.1, hL.2.2.2.2.2.1.2.1]
    rw [show decide (nI ob = nI 1) = decide (ob = 1) from dec_nI (by have := hL.2.2.2.2.1.2.2; omega) (by decide)]
  · intro s Q f q
    have hE3 := hE.fr f (by decide) (by decide)
    have hL3 := hL.fr f (by decide) (by decide)
    refine p_weighs hE3.2.1 (hRu.fr f (by cases b <;> decide) (by decide)).2.1 hRu.2.2 (hT.fr f (by decide) (by decide)).1 hL3.1 hL3.2.2.2.2.1.1 hL3.2.2.2.2.1.2.2 hL3.2.2.2.2.2.1.1 (fun x y => wgt (fct (s.1 3) bk nm td yr fa x y) num kind st cd op C T ta tb tw x y) (fun _ _ => rfl) (fun t hO hl => q t hO ?_)
    rw [(f.1 3 (by decide) (by decide)).1] at hl
    intro a c ha hc hne
    by_cases hlt : a < c
    · obtain ⟨⟨l1, l2⟩, ⟨l3, l4⟩, ⟨l5, l6⟩, ⟨l7, l8⟩⟩ := hl a c hlt hc
      exact ⟨l3, l1, l5, l7⟩
    · obtain ⟨⟨l1, l2⟩, ⟨l3, l4⟩, ⟨l5, l6⟩, ⟨l7, l8⟩⟩ := hl c a (by omega) ha
      have hf := hE.symm ha hc
      have ea := hE.1.2.2 a ha
      have ec := hE.1.2.2 c hc
      simp only [wgt_symm hf]
      refine ⟨l4, l2, by rw [l6]; unfold tieF; rw [tix_symm F fx fy c a], ?_⟩
      rw [l8]
      congr 1
      exact (apaF_symm (abs_symm ea.2.2.2.2.2.2.2.2 ec.2.2.2.2.2.2.2.2)).symm
theorem Inv.pwD {b : Bool} {σ : gSt} (hI : Inv b σ) : ∃ (N : Nat) (bk nm td yr : Nat → Nat) (fa : Nat → Int32) (most : Nat) (wt : Nat → Nat → Int32) (nv ti ap : Nat → Nat → Bool) (h : Nat → Nat), N ≤ 30 ∧ entAt σ N bk nm td yr fa ∧ (σ.1 65 1 = nI N ∧ σ.1 33 1 = nI N) ∧ (σ.1 65 41 = nI most ∧ σ.1 30 5 = nI most ∧ most ≤ 30) ∧ (∀ i, i < N → σ.1 34 i = nI (h i) ∧ σ.1 71 i = nI (h i) ∧ h i ≤ i ∧ h (h i) = h i) ∧ pwS N wt nv ti ap ∧ pwC σ N bk yr wt nv ti ap ∧
    (∀ (s : gSt) (Q : gSt → Prop), Fr (34 :: 56 :: 71 :: 42 :: 43 :: 101 :: scrC) (56 :: 57 :: 60 :: scrJ) σ s → (∀ t, Off [86, 90, 91, 92, 93] s t → pwM t N wt nv ti ap → Q t) → W_X12_weighs Q s) ∧ (∀ a, wt a a = nI 0) ∧ (∀ a c, a < N → c < N → σ.1 24 (a * 30 + c) = wt a c) ∧ (∀ a, a < N → bt (σ.1 31 a) a = false) ∧ (∀ i j, i < N → j < N → wt i j = wt j i) ∧ (∀ i j, i < N → j < N → okW (wt i j)) ∧ symB N ap ∧ symB N ti := by
  have hd := hI.diag
  obtain ⟨N, bk, nm, td, yr, fa, most, wt, nv, ti, ap, h, h30, hEn, hN, hm, hh, hS, hC, hM⟩ := hI.pwW
  have hS2 : pwS N (wdg wt) nv ti ap := fun a c ha hc hne => by
    rw [wdg_ne hne, wdg_ne (Ne.symm hne)]
    exact hS a c ha hc hne
  refine ⟨N, bk, nm, td, yr, fa, most, wdg wt, nv, ti, ap, h, h30, hEn, hN, hm, hh, hS2, fun a c ha hc hne => ?_, fun s Q f q => hM s Q f (fun t hO hw => q t hO (fun a c ha hc hne => ?_)), fun a => if_pos rfl, fun a c ha hc => ?_, fun a ha => (hd a (by omega)).2, fun i j hi hj => ?_, fun i j hi hj => ?_, fun a c ha hc hne => (hS a c ha hc hne).2.2.2.1, fun a c ha hc hne => (hS a c ha hc hne).2.2.1⟩
  · rw [wdg_ne hne]; exact hC a c ha hc hne
  · rw [wdg_ne hne]; exact hw a c ha hc hne
  · by_cases z : a = c
    · subst z
      rw [(hd a (by omega)).1]
      exact (if_pos rfl).symm
    · rw [wdg_ne z]; exact (hC a c ha hc z).1
  · by_cases z : i = j
    · subst z; rfl
    · exact (hS2 i j hi hj z).1
  · by_cases z : i = j
    · subst z
      rw [show wdg wt i i = nI 0 from if_pos rfl]
      exact okW_0
    · exact (hS2 i j hi hj z).2.2.2.2.1
/-- what the best change is, if there is one -/
def bCh (N : Nat) (h : Nat → Nat) (so x y : Int32) (f : Nat → Nat) : Prop := (∃ e v, e < N ∧ v < N ∧ so = nI 0 ∧ x = nI e ∧ y = nI v ∧ f = upN h e v) ∨ (∃ e, e < N ∧ so = nI 0 ∧ x = nI e ∧ y = -1 ∧ f = upN h e (100 + e)) ∨ (∃ a c, a < N ∧ c < N ∧ so = nI 1 ∧ x = nI a ∧ y = nI c ∧ f = fun k => if h k = c then a else h k) ∨ (∃ a c, a < N ∧ c < N ∧ so = nI 2 ∧ x = nI a ∧ y = nI c ∧ f = upN (upN h a (h c)) c (h a))
def bOK (N most : Nat) (ap ti : Nat → Nat → Bool) (h : Nat → Nat) (s : BS) : Prop := s.2.2.2.2.2 = true → lawP N most ap ti s.2.2.2.2.1 ∧ bCh N h s.2.1 s.2.2.1 s.2.2.2.1 s.2.2.2.2.1
theorem bTry_ok {N most : Nat} {wt : Nat → Nat → Int32} {ap ti : Nat → Nat → Bool} {h : Nat → Nat} {so x y : Int32} {f : Nat → Nat} {s : BS} (hs : bOK N most ap ti h s) (hc : bCh N h so x y f) : bOK N most ap ti h (bTry N most wt ap ti so x y f s) := by
  unfold bTry
  by_cases z : fa_first (fun e => offM ap ti f most e) N = N ∧ cst wt N f < s.1
  · rw [if_pos z]
    exact fun _ => ⟨law_iff.mp z.1, hc⟩
  · rw [if_neg z]; exact hs
theorem bAll_ok {N most : Nat} {wt : Nat → Nat → Int32} {ap ti : Nat → Nat → Bool} {h : Nat → Nat} : bOK N most ap ti h (bAll N most wt ap ti h) := by
  have goK : ∀ (m v e : Nat) (s : BS), v + m ≤ N → e < N → bOK N most ap ti h s → bOK N most ap ti h (bGoK N most wt ap ti h e m v s) := by
    intro m
    induction m with
    | zero => intro v e s _ _ hs; exact hs
    | succ m ih =>
      intro v e s hv he hs
      rw [bGoK]
      refine ih (v + 1) e _ (by omega) he ?_
      by_cases z : h v = v ∧ ¬ v = h e
      · rw [if_pos z]; exact bTry_ok hs (.inl ⟨e, v, he, by omega, rfl, rfl, rfl, rfl⟩)
      · rw [if_neg z]; exact hs
  have goL : ∀ (m e : Nat) (s : BS), e + m ≤ N → bOK N most ap ti h s → bOK N most ap ti h (bGo N most wt ap ti h m e s) := by
    intro m
    induction m with
    | zero => intro e s _ hs; exact hs
    | succ m ih =>
      intro e s he hs
      rw [bGo]
      refine ih (e + 1) _ (by omega) ?_
      have := goK N 0 e s (by omega) (by omega) hs
      unfold bAl
      by_cases z : fa_cnt (fun i => decide (h i = h e)) N = 1
      · rw [if_pos z]; exact this
      · rw [if_neg z]; exact bTry_ok this (.inr (.inl ⟨e, by omega, rfl, rfl, rfl, rfl⟩))
  have joK : ∀ (m c a : Nat) (s : BS), c + m ≤ N → a < N → bOK N most ap ti h s → bOK N most ap ti h (bJoK N most wt ap ti h a m c s) := by
    intro m
    induction m with
    | zero => intro c a s _ _ hs; exact hs
    | succ m ih =>
      intro c a s hc ha hs
      rw [bJoK]
      refine ih (c + 1) a _ (by omega) ha ?_
      by_cases z : h a = a ∧ h c = c
      · rw [if_pos z]; exact bTry_ok hs (.inr (.inr (.inl ⟨a, c, ha, by omega, rfl, rfl, rfl, rfl⟩)))
      · rw [if_neg z]; exact hs
  have joL : ∀ (m a : Nat) (s : BS), a + m ≤ N → bOK N most ap ti h s → bOK N most ap ti h (bJo N most wt ap ti h m a s) := by
    intro m
    induction m with
    | zero => intro a s _ hs; exact hs
    | succ m ih =>
      intro a s ha hs
      rw [bJo]
      exact ih (a + 1) _ (by omega) (joK _ (a + 1) a s (by omega) (by omega) hs)
  have swK : ∀ (m c a : Nat) (s : BS), c + m ≤ N → a < N → bOK N most ap ti h s → bOK N most ap ti h (bSwK N most wt ap ti h a m c s) := by
    intro m
    induction m with
    | zero => intro c a s _ _ hs; exact hs
    | succ m ih =>
      intro c a s hc ha hs
      rw [bSwK]
      refine ih (c + 1) a _ (by omega) ha ?_
      by_cases z : h a = h c
      · rw [if_pos z]; exact hs
      · rw [if_neg z]; exact bTry_ok hs (.inr (.inr (.inr ⟨a, c, ha, by omega, rfl, rfl, rfl, rfl⟩)))
  have swL : ∀ (m a : Nat) (s : BS), a + m ≤ N → bOK N most ap ti h s → bOK N most ap ti h (bSw N most wt ap ti h m a s) := by
    intro m
    induction m with
    | zero => intro a s _ hs; exact hs
    | succ m ih =>
      intro a s ha hs
      rw [bSw]
      exact ih (a + 1) _ (by omega) (swK _ (a + 1) a s (by omega) (by omega) hs)
  exact swL N 0 _ (by omega) (joL N 0 _ (by omega) (goL N 0 _ (by omega) (fun z => by cases z)))
theorem bCh.sort {N : Nat} {h : Nat → Nat} {so x y : Int32} {f : Nat → Nat} (hc : bCh N h so x y f) : ¬ so = (-1 : Int32) := by
  rcases hc with ⟨e, v, _, _, rfl, _⟩ | ⟨e, _, rfl, _⟩ | ⟨a, c, _, _, rfl, _⟩ | ⟨a, c, _, _, rfl, _⟩ <;> decide
/-- what is asked of the best change -/
def bAns (s : BS) (j : Nat) : Int64 := if s.2.2.2.2.2 then (if j = 0 then s.1 else if j = 1 then i2l s.2.1 else if j = 2 then i2l s.2.2.1 else i2l s.2.2.2.1) else (-2147483648 : Int64)
theorem ans4 {P : Int64 → Prop} {j : Nat} (hj : j < 4) {v0 v1 v2 v3 : Int64} (q : P (if j = 0 then v0 else if j = 1 then v1 else if j = 2 then v2 else v3)) : ((nI j = 0 → P v0) ∧ (¬ nI j = 0 → (((nI j = nI 1 → P v1) ∧ (¬ nI j = nI 1 → (((nI j = nI 2 → P v2) ∧ (¬ nI j = nI 2 → P v3)))))))) := by
  have h : j = 0 ∨ j = 1 ∨ j = 2 ∨ j = 3 := by omega
  rcases h with rfl | rfl | rfl | rfl
  · exact bq_t rfl q
  · exact bq_f (by decide) (bq_t rfl q)
  · exact bq_f (by decide) (bq_f (by decide) (bq_t rfl q))
  · exact bq_f (by decide) (bq_f (by decide) (bq_f (by decide) q))
theorem op_better {b : Bool} {σ : gSt} (hI : Inv b σ) (p : Int32) : OKL (fun Q QX s => W_X11_better p Q QX s) (W_X12_better p) cdA σ := by
  obtain ⟨N, bk, nm, td, yr, fa, most, wt, nv, ti, ap, h, h30, hEn, ⟨hN, hsz⟩, hm, hh, hS, hC, hM, h0, h24, h31d, hsy, hok, hap, hti⟩ := hI.pwD
  have hR := hI.1
  have hhc : ∀ i, i < N → h i ≤ i ∧ h (h i) = h i := fun i hi => (hh i hi).2.2
  unfold OKL W_X11_better
  refine q_within ?_
  by_cases hv : (!decide (p < nI 0) && !decide (nI 3 < p)) = true
  · rw [hv]
    obtain ⟨j, hj, rfl⟩ := within_j (by decide) hv
    refine q_refuse (by decide) ?_
    have hoff : fa_first (fun e => offC σ h bk yr most e) N = fa_first (fun e => offM ap ti h most e) N := first_cong (fun e he => off_same h30 hC hS he)
    have hfle := fa_first_le (fun e => offM ap ti h most e) N
    have model : ∀ (t : gSt) (v : Int64), Off [38, 39, 40, 41] σ t → v = (if fa_first (fun e => offM ap ti h most e) N = N then bAns (bAll N most wt ap ti h) j else (-2147483648 : Int64)) → ∀ s2, s2 = sL t 115 0 v → W_X12_better (nI j) (fun w t => fin (nI 0) w t) s2 := by
      rintro t v hO hva s2 rfl
      have f1 : Fr scrC scrJ σ (sI (sL t 115 0 v) 65 0 (nI 0)) := (((Fr.of (js := []) hO (by decide)).mono (ks' := [38, 39, 40, 41, 115]) (js' := [0]) (by simp) (by simp)).l (by simp) (by decide)).f (by simp) |>.scr (by decide) (by decide)
      refine fI_i (p_within ?_)
      rw [hv]
      refine p_may_ok (by decide) rfl (bq_f (by decide) (hM _ _ (f1.mono (by decide) (by decide)) (fun t1 hO1 hw => ?_)))
      have f2 : Fr scrC scrJ σ t1 := f1.trans ((Fr.of hO1 (by decide)).scr (js := []) (by decide) (by decide))
      have z0 : t1.1 65 0 = nI 0 := by rw [(hO1.1 65 (by decide)).1]; rfl
      have zo : t1.2.1 115 0 = v := by rw [(hO1.1 115 (by decide)).2]; exact sL_out
      have hX : mdX t1 N most h wt nv ti ap := ⟨(f2.2.1 1 (by decide)).1.trans hN, (f2.2.1 41 (by decide)).1.trans hm.1, hw, fun i hi => (congrFun (f2.1 71 (by decide) (by decide)).1 i).trans (hh i hi).2.1⟩
      refine p_barredIn (h := h) (ap := ap) (ti := ti) (most := most) h30 hX.1 hX.2.1 hm.2.2 rfl (fun i hi => ⟨hX.2.2.2 i hi, by have := (hhc i hi).1; omega⟩) (fun a c hac hc => ⟨(hw a c (by omega) hc (by omega)).2.2.2, (hw a c (by omega) hc (by omega)).2.2.1⟩) ?_
      intro J9 hJ9
      by_cases hl : fa_first (fun e => offM ap ti h most e) N = N
      · rw [if_pos hl] at hva
        rw [if_neg (by omega)]
        refine bq_t rfl (p_findBetter h30 hm.2.2 hS hX (fun i hi => (hhc i hi).1) (fun t2 f3 hB => ?_))
        have f4 : Fr scrC scrJ σ t2 := f2.trans (f3.scr (by decide) (by decide))
        have e0 : t2.1 65 0 = nI 0 := (f3.2.1 0 (by decide)).1.trans z0
        have eo : t2.2.1 115 0 = v := by rw [(f3.1 115 (by decide) (by decide)).2]; exact zo
        unfold bAns at hva
        by_cases hz : (bAll N most wt ap ti h).2.2.2.2.2 = true
        · rw [if_pos hz] at hva
          rw [hz]
          refine bq_f (by decide) ?_
          obtain ⟨m1, m2, m3, m4⟩ := hB.2.2 hz
          rw [hB.1, m1, m2, m3]
          refine ans4 (P := fun w => fin (nI 0) w t2) hj ?_
          refine fin.scr hI f4 e0 (fun _ => ?_)
          rw [eo, hva]
        · rw [if_neg hz] at hva
          have hz2 : (bAll N most wt ap ti h).2.2.2.2.2 = false := ts_nt hz
          rw [hz2]
          exact bq_t rfl (hJ9 _ (fin.scr hI f4 e0 (fun _ => by rw [eo, hva])))
      · rw [if_neg hl] at hva
        rw [if_pos (by omega)]
        exact bq_f (nI_nm1 (by omega)) (hJ9 _ (fin.scr hI f2 z0 (fun _ => by rw [zo, hva])))
    refine ⟨_, fun o l => s_offender hR hEn h30 hsz (fun i hi => (hh i hi).1) (fun i hi => by have := (hhc i hi).1; omega) most hm.2.2 hm.2.1, ?_⟩
    rw [hoff]
    by_cases hl : fa_first (fun e => offM ap ti h most e) N = N
    · rw [if_neg (by omega)]
      refine bq_t rfl (p_prepare hR hEn hsz h30 hC hap (fun t hO h39 => ?_))
      refine p_seek (hO.2.trans hR) h30 hm.2.2 (by rw [(hO.1 33 (by decide)).1]; exact hsz) (fun i hi => by rw [(hO.1 34 (by decide)).1]; exact (hh i hi).1) hhc (fun a c ha hc hne => by rw [(hO.1 31 (by decide)).1]; exact (hC a c ha hc hne).2.2.1) (fun a ha => by rw [(hO.1 31 (by decide)).1]; exact h31d a ha) h39 (fun a c ha hc => by rw [(hO.1 24 (by decide)).1]; exact h24 a c ha hc) (by rw [(hO.1 30 (by decide)).1]; exact hm.2.1) hsy hok h0 hap hti (law_iff.mp hl) (fun t2 hO2 hB => ?_)
      have hO3 : Off [38, 39, 40, 41] σ t2 := (hO.mono (by simp)).trans (hO2.mono (by simp))
      have hbo := bAll_ok (N := N) (most := most) (wt := wt) (ap := ap) (ti := ti) (h := h)
      by_cases hz : (bAll N most wt ap ti h).2.2.2.2.2 = true
      · have e38 := hB.2.1
        rw [if_pos hz] at e38
        obtain ⟨e1, e2⟩ := hB.2.2 hz
        rw [e38, hB.1, e1, e2]
        refine bq_f ((hbo hz).2.sort) ?_
        refine ans4 (P := fun v => ∀ s2, s2 = sL t2 115 0 v → W_X12_better (nI j) (fun w t => fin (nI 0) w t) s2) hj (model t2 _ hO3 ?_)
        rw [if_pos hl, bAns, if_pos hz]
      · have e38 := hB.2.1
        rw [if_neg hz] at e38
        rw [e38]
        refine bq_t rfl (model t2 _ hO3 ?_)
        rw [if_pos hl, bAns, if_neg hz]
    · rw [if_pos (by omega)]
      exact bq_f (nI_nm1 (by omega)) (model σ _ Off.rf (by rw [if_neg hl]))
  · have hv : (!decide (p < nI 0) && !decide (nI 3 < p)) = false := by simpa using hv
    rw [hv]
    refine q_refuse_no rfl ⟨nI 1, ⟨rfl, rfl⟩, fI_i (p_within ?_)⟩
    rw [hv]
    exact p_may_bad rfl (by decide) rfl (bq_t rfl (fin.no hI (.inl rfl)))
