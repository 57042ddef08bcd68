/-! what the pairs are, for both: weights, never, tied, apart -/
/-- the class's view -/
def pwC (σ : gSt) (N : Nat) (bk yr : Nat → Nat) (wt : Nat → Nat → Int32) (nv ti ap : Nat → Nat → Bool) : Prop := ∀ a c, a < N → c < N → a ≠ c → σ.1 24 (a * 30 + c) = wt a c ∧ bt (σ.1 26 a) c = nv a c ∧ bt (σ.1 31 a) c = ti a c ∧ prtC σ bk yr a c = ap a c
/-- the reference's -/
def pwM (s : gSt) (N : Nat) (wt : Nat → Nat → Int32) (nv ti ap : Nat → Nat → Bool) : Prop := ∀ a c, a < N → c < N → a ≠ c → s.1 90 (30 * a + c) = wt a c ∧ s.1 91 (30 * a + c) = zI (nv a c) ∧ s.1 93 (30 * a + c) = zI (ti a c) ∧ s.1 92 (30 * a + c) = zI (ap a c)
def pwS (N : Nat) (wt : Nat → Nat → Int32) (nv ti ap : Nat → Nat → Bool) : Prop := ∀ a c, a < N → c < N → a ≠ c → wt a c = wt c a ∧ nv a c = nv c a ∧ ti a c = ti c a ∧ ap a c = ap c a ∧ okW (wt a c) ∧ (nv a c = true → wt a c = nI 0)
theorem clampV_ok (v : Int32) : (-10000 : Int) ≤ (clampV v).toInt ∧ (clampV v).toInt ≤ 10000 := by
  have e1 : (-10000 : Int32).toInt = -10000 := by decide
  have e2 : (nI 10000).toInt = 10000 := by decide
  rw [clampV_eq]
  split
  · split
    · rename_i h1 h2
      rw [fa_le, e1] at h1
      rw [fa_le, e2] at h2
      exact ⟨h1, h2⟩
    · rw [e2]; omega
  · rw [e1]; omega
theorem w0_ok {w : Int32} (h : w = (-2147483648 : Int32) ∨ ((-10000 : Int32) ≤ w ∧ w ≤ nI 10000)) : okW (w0 w) := by
  have e1 : (-10000 : Int32).toInt = -10000 := by decide
  have e2 : (nI 10000).toInt = 10000 := by decide
  have e3 : (nI 0).toInt = 0 := by decide
  unfold w0 okW
  split
  · rw [e3]; omega
  · rcases h with h | ⟨h1, h2⟩
    · exact absurd h ‹_›
    · rw [fa_le, e1] at h1
      rw [fa_le, e2] at h2
      omega
theorem wgt_ok {Fc num : Nat → Int32} {kind st cd op : Nat → Nat} {C T : Nat} {ta tb : Nat → Nat} {tw : Nat → Int32} {a c : Nat} (h : ∀ q, q < T → tw q = (-2147483648 : Int32) ∨ ((-10000 : Int32) ≤ tw q ∧ tw q ≤ nI 10000)) : okW (w0 (wgt Fc num kind st cd op C T ta tb tw a c)) := by
  unfold wgt
  split
  · exact w0_ok (h _ ‹_›)
  · split
    · exact w0_ok (.inr (by decide))
    · split
      · exact w0_ok (.inl rfl)
      · refine w0_ok (.inr ?_)
        have := clampV_ok (if psd Fc num kind st cd op C then nI 0 else vSum Fc num kind st cd op C)
        rw [vdt, fa_le, fa_le]
        have e1 : (-10000 : Int32).toInt = -10000 := by decide
        have e2 : (nI 10000).toInt = 10000 := by decide
        rw [e1, e2]
        exact this
theorem apaF_symm {bk yr : Nat → Nat} {F : Nat} {fx fy : Nat → Nat} {ft : Nat → Bool} {ob : Nat} {span w : Int32} {a c : Nat} (h : absI (nI (yr a) - nI (yr c)) = absI (nI (yr c) - nI (yr a))) : apaF bk yr F fx fy ft ob span w a c = apaF bk yr F fx fy ft ob span w c a := by
  unfold apaF cutF
  rw [h, tix_symm F fx fy a c]
  simp only [eq_comm]
theorem abs_symm {x y : Nat} (h1 : x < 200) (h2 : y < 200) : absI (nI x - nI y) = absI (nI y - nI x) := by
  have := fct_symm (lk := fun _ => 0) (bk := fun _ => 0) (nm := fun _ => 0) (td := fun _ => 0) (yr := fun i => if i = 0 then x else y) (fa := fun _ => 0) (a := 0) (c := 1) rfl h1 h2
  exact congrFun this 2
/-- both views of one thing -/
theorem Inv.pw {b : Bool} {σ : gSt} (hI : Inv b σ) : ∃ (N : Nat) (bk nm td yr : Nat → Nat) (fa : Nat → Int32) (most : Nat) (wt : Nat → Nat → Int32) (nv ti ap : Nat → Nat → Bool) (h : Nat → Nat), N ≤ 30 ∧ entAt σ N bk nm td yr fa ∧ (σ.1 65 1 = nI N ∧ σ.1 33 1 = nI N) ∧ (σ.1 65 41 = nI most ∧ σ.1 30 5 = nI most ∧ most ≤ 30) ∧ (∀ i, i < N → σ.1 34 i = nI (h i) ∧ σ.1 71 i = nI (h i) ∧ h i ≤ i ∧ h (h i) = h i) ∧ pwS N wt nv ti ap ∧ pwC σ N bk yr wt nv ti ap ∧
    (∀ (s : gSt) (Q : gSt → Prop), Fr scrC scrJ σ s → (∀ t, Off [86, 90, 91, 92, 93] s t → pwM t N wt nv ti ap → Q t) → W_X12_weighs Q s) := by
  obtain ⟨hR, N, bk, nm, td, yr, fa, C, kind, st, cd, op, num, T, ta, tb, tw, most, ob, span, F, fx, fy, ft, h, m, kz, kh, tp, R, hs, hE, hRu, hT, hL, hP, hH, hD, hG⟩ := hI
  have h30 := hE.1.2.1
  refine ⟨N, bk, nm, td, yr, fa, most, fun a c => w0 (wgt (fct (σ.1 3) bk nm td yr fa a c) num kind st cd op C T ta tb tw a c), fun a c => decide (wgt (fct (σ.1 3) bk nm td yr fa a c) num kind st cd op C T ta tb tw a c = (-2147483648 : Int32)), tieF F fx fy ft, fun a c => apaF bk yr F fx fy ft ob span (wgt (fct (σ.1 3) bk nm td yr fa a c) num kind st cd op C T ta tb tw a c) a c, h, h30, hE.1, ⟨hE.2.1.1, hH.1⟩, hL.2.2.2.1, hH.2.2.1, ?_, ?_, ?_⟩
  · intro a c ha hc hne
    have hf := hE.symm ha hc
    have ea := hE.1.2.2 a ha
    have ec := hE.1.2.2 c hc
    refine ⟨by simp only [wgt_symm hf], by simp only [wgt_symm hf], by unfold tieF; rw [tix_symm F fx fy a c], ?_, wgt_ok (fun q hq => (hT.2.2.1 q hq).2.2.2), fun hn => ?_⟩
    · simp only [wgt_symm hf]
      exact apaF_symm (abs_symm ea.2.2.2.2.2.2.2.2 ec.2.2.2.2.2.2.2.2)
    · exact if_pos (of_decide_eq_true hn)
  · intro a c ha hc hne
    obtain ⟨g, hg, c1, c2, c3, c4, c5, c6, c7, c8⟩ := hP.get hE ha hc hne
    obtain ⟨b1, b2⟩ := hL.2.2.2.2.2.2.2 a c (by omega) (by omega)
    refine ⟨c1, c5, b1, ?_⟩
    unfold prtC apaF
    rw [c5, b2, hL.2.2.2.2.1.2.1, hL.2.2.2.2.2.1.2.1]
    rw [show decide (nI ob = nI 1) = decide (ob = 1) from dec_nI (by have := hL.2.2.2.2.1.2.2; omega) (by decide)]
  · intro s Q f q
    have hE3 := hE.fr f (by decide) (by decide)
    have hL3 := hL.fr f (by decide) (by decide)
    refine p_weighs hE3.2.1 (hRu.fr f (by cases b <;> decide) (by decide)).2.1 hRu.2.2 (hT.fr f (by decide) (by decide)).1 hL3.1 hL3.2.2.2.2.1.1 hL3.2.2.2.2.1.2.2 hL3.2.2.2.2.2.1.1 (fun x y => wgt (fct (s.1 3) bk nm td yr fa x y) num kind st cd op C T ta tb tw x y) (fun _ _ => rfl) (fun t hO hl => q t hO ?_)
    rw [(f.1 3 (by decide) (by decide)).1] at hl
    intro a c ha hc hne
    by_cases hlt : a < c
    · obtain ⟨⟨l1, l2⟩, ⟨l3, l4⟩, ⟨l5, l6⟩, ⟨l7, l8⟩⟩ := hl a c hlt hc
      exact ⟨l3, l1, l5, l7⟩
    · obtain ⟨⟨l1, l2⟩, ⟨l3, l4⟩, ⟨l5, l6⟩, ⟨l7, l8⟩⟩ := hl c a (by omega) ha
      have hf := hE.symm ha hc
      have ea := hE.1.2.2 a ha
      have ec := hE.1.2.2 c hc
      simp only [wgt_symm hf]
      refine ⟨l4, l2, by rw [l6]; unfold tieF; rw [tix_symm F fx fy c a], ?_⟩
      rw [l8]
      congr 1
      exact (apaF_symm (abs_symm ea.2.2.2.2.2.2.2.2 ec.2.2.2.2.2.2.2.2)).symm
theorem op_cost {b : Bool} {σ : gSt} (hI : Inv b σ) : OKM (fun Q s => W_X11_cost (fun v => Q v s) s) W_X12_cost σ := by
  obtain ⟨N, bk, nm, td, yr, fa, most, wt, nv, ti, ap, h, h30, hEn, ⟨hN, hsz⟩, hm, hh, hS, hC, hM⟩ := hI.pw
  have hR := hI.1
  refine ⟨_, fun o l => s_price hR h30 hsz (fun i hi => (hh i hi).1) (fun i hi => by have := (hh i hi).2.2.1; omega), ?_⟩
  refine fI_i ?_
  have f1 : Fr [] [0] σ (sI σ 65 0 (nI 0)) := Fr.rf.f (by simp)
  refine hM _ _ (f1.scr (by decide) (by decide)) (fun t hO hw => ?_)
  have f2 : Fr scrC scrJ σ t := (f1.scr (by decide) (by decide)).trans ((Fr.of hO (by decide)).scr (js := []) (by decide) (by decide))
  refine p_costOf (h := h) (wt := wt) h30 ((f2.2.1 1 (by decide)).1.trans hN) rfl (fun i hi => ⟨(congrFun (f2.1 71 (by decide) (by decide)).1 i).trans (hh i hi).2.1, by have := (hh i hi).2.2.1; omega⟩) (fun a c hac hc => ⟨(hw a c (by omega) hc (by omega)).1, (hS a c (by omega) hc (by omega)).2.2.2.2.1⟩) ⟨?_, b, hI.scr f2⟩
  refine triS_cong (fun i j hji hi => ?_)
  rw [(hC i j hi (by omega) (by omega)).1, (hS i j hi (by omega) (by omega)).1]
  rw [show decide (h i = h j) = decide (h j = h i) from decide_eq_decide.mpr eq_comm]
/-- lawful, for both -/
theorem off_same {σ : gSt} {N : Nat} {bk yr : Nat → Nat} {wt : Nat → Nat → Int32} {nv ti ap : Nat → Nat → Bool} {h : Nat → Nat} {most : Nat} (h30 : N ≤ 30) (hC : pwC σ N bk yr wt nv ti ap) (hS : pwS N wt nv ti ap) {e : Nat} (he : e < N) : offC σ h bk yr most e = offM ap ti h most e := by
  unfold offC offM
  have h1 : ∀ n, n ≤ e → anyB (fun i => if h i = h e then prtC σ bk yr i e else bt (σ.1 31 e) i) n = anyB (fun i => if h i = h e then ap i e else ti i e) n := by
    intro n
    induction n with
    | zero => intro _; rfl
    | succ n ih =>
      intro hn
      rw [anyB, anyB, ih (by omega)]
      congr 1
      have c1 := hC n e (by omega) he (by omega)
      have c2 := hC e n he (by omega) (by omega)
      rw [c1.2.2.2, c2.2.2.1, (hS e n he (by omega) (by omega)).2.2.1]
  rw [h1 e (Nat.le_refl _)]
  congr 1
  have hcl := fa_cnt_le (fun i => decide (h i = h e)) e
  unfold room
  by_cases z : most = 0
  · subst z
    simp only [if_true, Nat.lt_irrefl, decide_false, Bool.false_and, decide_eq_false_iff_not]
    omega
  · rw [if_neg z]
    have : 0 < most := by omega
    simp only [this, decide_true, Bool.true_and, decide_eq_decide]
    omega
theorem first_cong {p q : Nat → Bool} {n : Nat} (h : ∀ i, i < n → p i = q i) : fa_first p n = fa_first q n := by
  by_cases hx : fa_first p n < n
  · have h1 := fa_first_yes p n hx
    have h2 := fun k hk => fa_first_no p n k hk
    refine (first_is hx (fun j hj => ?_) ?_).symm
    · rw [← h j (by omega)]; exact h2 j hj
    · rw [← h _ hx]; exact h1
  · have h3 := fa_first_le p n
    have h4 : fa_first p n = n := by omega
    rw [h4]
    refine (first_none (fun i hi => ?_)).symm
    rw [← h i hi]
    exact fa_first_no p n i (by omega)
theorem op_barred {b : Bool} {σ : gSt} (hI : Inv b σ) : OKN (fun Q s => W_X11_barred (fun v => Q v s) s) W_X12_barred σ := by
  obtain ⟨N, bk, nm, td, yr, fa, most, wt, nv, ti, ap, h, h30, hEn, ⟨hN, hsz⟩, hm, hh, hS, hC, hM⟩ := hI.pw
  have hR := hI.1
  refine ⟨_, fun o l => s_offender hR hEn h30 hsz (fun i hi => (hh i hi).1) (fun i hi => by have := (hh i hi).2.2.1; omega) most hm.2.2 hm.2.1, ?_⟩
  refine fI_i ?_
  have f1 : Fr [] [0] σ (sI σ 65 0 (nI 0)) := Fr.rf.f (by simp)
  refine hM _ _ (f1.scr (by decide) (by decide)) (fun t hO hw => ?_)
  have f2 : Fr scrC scrJ σ t := (f1.scr (by decide) (by decide)).trans ((Fr.of hO (by decide)).scr (js := []) (by decide) (by decide))
  refine p_barredIn (h := h) (ap := ap) (ti := ti) (most := most) h30 ((f2.2.1 1 (by decide)).1.trans hN) ((f2.2.1 41 (by decide)).1.trans hm.1) hm.2.2 rfl (fun i hi => ⟨(congrFun (f2.1 71 (by decide) (by decide)).1 i).trans (hh i hi).2.1, by have := (hh i hi).2.2.1; omega⟩) (fun a c hac hc => ⟨(hw a c (by omega) hc (by omega)).2.2.2, (hw a c (by omega) hc (by omega)).2.2.1⟩) ⟨?_, b, hI.scr f2⟩
  rw [first_cong (fun e he => off_same h30 hC hS he)]
