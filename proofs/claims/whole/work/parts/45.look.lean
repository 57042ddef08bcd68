/-! operations that only look -/
theorem Inv.t0 {b : Bool} {σ : gSt} (hI : Inv b σ) (x : Int32) : Inv b (sI σ 65 0 x) := hI.fr (ks := []) (js := [0]) (Fr.rf.f (by simp)) (by simp) (by decide)
theorem Inv.o0 {b : Bool} {σ : gSt} (hI : Inv b σ) (j : Nat) (x : Int64) : Inv b (sL σ 115 j x) := hI.fr (ks := [115]) (js := []) (Fr.rf.l (by simp) (by decide)) (by cases b <;> decide) (by simp)
theorem sL_get65 {σ : gSt} {k j a c : Nat} {x : Int64} : (sL σ k j x).1 a c = σ.1 a c := rfl
theorem sL_out {σ : gSt} {x : Int64} : (sL σ 115 0 x).2.1 115 0 = x := by simp [sL, vp_updL]
/-- both or none are a pair -/
theorem pair_or (p r : Int32) (N : Nat) (hN : N ≤ 1000) : (∃ a c, a < N ∧ c < N ∧ a ≠ c ∧ p = nI a ∧ r = nI c) ∨ (∃ E k, cdP E (nI k) ∧ ((E = nsE ∧ ((p < 0 ∨ nI N ≤ p) ∨ (r < 0 ∨ nI N ≤ r))) ∨ (E = iaE ∧ p = r ∧ ∃ e, e < N ∧ p = nI e)) ∧ ((k = 1 ∧ ((p < 0 ∨ nI N ≤ p) ∨ (r < 0 ∨ nI N ≤ r))) ∨ (k = 2 ∧ p = r ∧ ∃ e, e < N ∧ p = nI e))) := by
  rcases ent_or p N hN with ⟨a, ha, rfl⟩ | ⟨hp, -⟩
  · rcases ent_or r N hN with ⟨c, hc, rfl⟩ | ⟨hr, -⟩
    · by_cases e : a = c
      · subst e
        exact .inr ⟨iaE, 2, .inr ⟨rfl, rfl⟩, .inr ⟨rfl, rfl, a, ha, rfl⟩, .inr ⟨rfl, rfl, a, ha, rfl⟩⟩
      · exact .inl ⟨a, c, ha, hc, e, rfl, rfl⟩
    · exact .inr ⟨nsE, 1, .inl ⟨rfl, rfl⟩, .inl ⟨rfl, .inr hr⟩, .inl ⟨rfl, .inr hr⟩⟩
  · exact .inr ⟨nsE, 1, .inl ⟨rfl, rfl⟩, .inl ⟨rfl, .inl hp⟩, .inl ⟨rfl, .inl hp⟩⟩
theorem cdP_ne {E : String} {k : Nat} (h : cdP E (nI k)) (hk : k = 1 ∨ k = 2) : ¬ nI k = 0 := by rcases hk with rfl | rfl <;> decide
theorem Inv.sizes {b : Bool} {σ : gSt} (hI : Inv b σ) : ∃ N, N ≤ 30 ∧ σ.1 1 0 = nI N ∧ σ.1 65 1 = nI N := by
  obtain ⟨hR, N, bk, nm, td, yr, fa, C, kind, st, cd, op, num, T, ta, tb, tw, most, ob, span, F, fx, fy, ft, h, m, kz, kh, tp, R, hs, hE, hRu, hT, hL, hP, hH, hD, hG⟩ := hI
  exact ⟨N, hE.1.2.1, hE.1.1, hE.2.1.1⟩
/-- a thrown pair of calls: the test of a pair fails on both sides -/
theorem okP_no {b : Bool} {σ : gSt} (hI : Inv b σ) {N : Nat} (h30 : N ≤ 30) (hN : σ.1 1 0 = nI N) (hN2 : σ.1 65 1 = nI N) {p r : Int32} {E : String} {k : Nat} (hc : cdP E (nI k)) (h1 : (E = nsE ∧ ((p < 0 ∨ nI N ≤ p) ∨ (r < 0 ∨ nI N ≤ r))) ∨ (E = iaE ∧ p = r ∧ ∃ e, e < N ∧ p = nI e)) (h2 : (k = 1 ∧ ((p < 0 ∨ nI N ≤ p) ∨ (r < 0 ∨ nI N ≤ r))) ∨ (k = 2 ∧ p = r ∧ ∃ e, e < N ∧ p = nI e)) {M : (Int32 → gSt → Prop) → Prop}
    (hM : ∀ Q : Int32 → gSt → Prop, fI σ 65 0 (nI 0) (fun s1 => W_X12_isPair p r (fun x2 s3 => x2 = nI 0 ∧ Q (nI 0) s3) s1) → M Q) {Qc : Prop} : W_X11_needPair p r Qc (fun E s => s = σ ∧ ∃ k, cdP E k ∧ M (fun _ t => fin k (lN 0) t)) σ := by
  refine q_pair_no hN h30 E h1 ⟨rfl, nI k, hc, hM _ (fI_i (p_isP_no (N := N) hN2 h30 rfl k h2 ⟨rfl, ?_⟩))⟩
  refine ⟨by rw [sI_get, if_pos ⟨rfl, rfl⟩], fun h => ?_, b, (hI.t0 _).t0 _⟩
  exact absurd h (cdP_ne hc (by omega))
theorem fct_symm {lk : Nat → Int32} {bk nm td yr : Nat → Nat} {fa : Nat → Int32} {a c : Nat} (hl : lk (nm a * 16 + nm c) = lk (nm c * 16 + nm a)) (h1 : yr a < 200) (h2 : yr c < 200) : fct lk bk nm td yr fa a c = fct lk bk nm td yr fa c a := by
  funext w
  have habs : absI (nI (yr a) - nI (yr c)) = absI (nI (yr c) - nI (yr a)) := by
    have key : ∀ x y : Nat, x < 200 → y < 200 → y ≤ x → absI (nI x - nI y) = absI (nI y - nI x) := by
      intro x y hx hy hle
      have e : nI y - nI x = -(nI x - nI y) := (Int32.neg_sub).symm
      rw [e, nI_sub hle]
      unfold absI
      rw [if_pos (nI_pos' (by omega))]
      by_cases z : x - y = 0
      · rw [z]; rfl
      · have : ¬ 0 ≤ -nI (x - y) := by
          rw [fa_le, Int32.toInt_neg, nI_toInt (by omega)]
          show ¬ (0 : Int) ≤ _
          rw [Int.bmod_eq_of_le (by omega) (by omega)]
          omega
        rw [if_neg this, Int32.zero_sub, Int32.neg_neg]
    by_cases h : yr c ≤ yr a
    · exact key _ _ h1 h2 h
    · exact (key _ _ h2 h1 (by omega)).symm
  match w with
  | 0 => simp only [fct]; rw [Bool.and_comm (decide (¬ fa a = -1))]; simp only [eq_comm]
  | 1 =>
    show (if nm a = nm c then nI 100 else lk (nm a * 16 + nm c)) = (if nm c = nm a then nI 100 else lk (nm c * 16 + nm a))
    by_cases e : nm a = nm c
    · rw [if_pos e, if_pos e.symm]
    · rw [if_neg e, if_neg (Ne.symm e), hl]
  | 2 => exact habs
  | 3 => simp only [fct, eq_comm]
  | 4 => simp only [fct, eq_comm]
  | 5 => simp only [fct]; rw [Bool.and_comm (decide (¬ fa a = -1))]; simp only [eq_comm]
  | n + 6 => simp only [fct]; rw [Bool.and_comm (decide (¬ fa a = -1))]; simp only [eq_comm]
theorem sp_symm (x y a c : Nat) : sp x y a c = sp x y c a := by unfold sp; rw [Bool.or_comm]
theorem tix_symm (T : Nat) (ta tb : Nat → Nat) (a c : Nat) : tix T ta tb a c = tix T ta tb c a := by unfold tix; congr 1; funext q; exact sp_symm _ _ _ _
theorem wgt_symm {lk : Nat → Int32} {bk nm td yr : Nat → Nat} {fa num : Nat → Int32} {kind st cd op : Nat → Nat} {C T : Nat} {ta tb : Nat → Nat} {tw : Nat → Int32} {a c : Nat} (hf : fct lk bk nm td yr fa a c = fct lk bk nm td yr fa c a) : wgt (fct lk bk nm td yr fa a c) num kind st cd op C T ta tb tw a c = wgt (fct lk bk nm td yr fa c a) num kind st cd op C T ta tb tw c a := by
  unfold wgt; rw [hf, tix_symm T ta tb a c]
theorem invE.symm {σ : gSt} {N : Nat} {bk nm td yr : Nat → Nat} {fa : Nat → Int32} (hE : invE σ N bk nm td yr fa) {a c : Nat} (ha : a < N) (hc : c < N) : fct (σ.1 3) bk nm td yr fa a c = fct (σ.1 3) bk nm td yr fa c a := by
  have ea := hE.1.2.2 a ha
  have ec := hE.1.2.2 c hc
  exact fct_symm (hE.2.2.1 _ _ ea.2.2.2.2.2.2.1 ec.2.2.2.2.2.2.1) ea.2.2.2.2.2.2.2.2 ec.2.2.2.2.2.2.2.2
/-- what the class keeps of a pair, in any order -/
theorem invP.get {σ : gSt} {N : Nat} {bk nm td yr : Nat → Nat} {fa : Nat → Int32} {C : Nat} {kind st cd op : Nat → Nat} {num : Nat → Int32} {T : Nat} {ta tb : Nat → Nat} {tw : Nat → Int32} (hP : invP σ N bk nm td yr fa C kind st cd op num T ta tb tw) (hE : invE σ N bk nm td yr fa) {a c : Nat} (ha : a < N) (hc : c < N) (hne : a ≠ c) : ∃ g, (¬ tix T ta tb a c < T → g = rsn (fct (σ.1 3) bk nm td yr fa a c) num kind st cd op C) ∧ cachedAt σ a c (w0 (wgt (fct (σ.1 3) bk nm td yr fa a c) num kind st cd op C T ta tb tw a c)) g (decide (wgt (fct (σ.1 3) bk nm td yr fa a c) num kind st cd op C T ta tb tw a c = (-2147483648 : Int32))) (!decide (tix T ta tb a c < T) && psd (fct (σ.1 3) bk nm td yr fa a c) num kind st cd op C) := by
  by_cases h : c < a
  · exact hP.1 a c h ha
  · obtain ⟨g, h1, h2⟩ := hP.1 c a (by omega) hc
    have hf := hE.symm ha hc
    refine ⟨g, ?_, ?_⟩
    · rw [tix_symm, hf]; exact h1
    · rw [wgt_symm hf, tix_symm T ta tb a c, hf]
      obtain ⟨c1, c2, c3, c4, c5, c6, c7, c8⟩ := h2
      exact ⟨c2, c1, c4, c3, c6, c5, c8, c7⟩
/-- what is scratch on both sides -/
def scrC : List Nat := [29, 35, 38, 39, 40, 41, 44, 45, 46, 47, 48, 49, 50, 51, 52, 53, 54, 55, 57, 58, 59, 60, 61, 62, 63, 64, 86, 90, 91, 92, 93, 97, 98, 99, 100, 102, 103, 104, 105, 106, 107, 108, 109, 110, 111, 112, 115]
def scrJ : List Nat := [0, 10, 11, 12, 13, 14, 15, 17, 50, 51, 52, 53, 54, 61, 62, 64, 68, 69, 70, 71, 72, 73, 74, 75, 76, 77, 78, 79, 80]
theorem Inv.scr {b : Bool} {σ s : gSt} (hI : Inv b σ) (f : Fr scrC scrJ σ s) : Inv b s := hI.fr f (by cases b <;> decide) (by decide)
theorem Fr.scr {ks js : List Nat} {σ s : gSt} (f : Fr ks js σ s) (h1 : ks.all (fun k => decide (k ∈ scrC)) = true) (h2 : js.all (fun k => decide (k ∈ scrJ)) = true) : Fr scrC scrJ σ s := f.mono (fun k hk => by simpa using List.all_eq_true.mp h1 k hk) (fun k hk => by simpa using List.all_eq_true.mp h2 k hk)
theorem fin.scr {b : Bool} {σ s : gSt} {k : Int32} {v : Int64} (hI : Inv b σ) (f : Fr scrC scrJ σ s) (h0 : s.1 65 0 = k) (h1 : k = 0 → s.2.1 115 0 = v) : fin k v s := ⟨h0, h1, b, hI.scr f⟩
/-- a pair of calls that both refuse -/
theorem fin.no {b : Bool} {σ : gSt} (hI : Inv b σ) {k : Nat} (hk : k = 1 ∨ k = 2) : fin (nI k) (lN 0) (sI (sI σ 65 0 (nI 0)) 65 0 (nI k)) :=
  ⟨by rw [sI_get, if_pos ⟨rfl, rfl⟩], fun h => absurd h (by rcases hk with rfl | rfl <;> decide), b, (hI.t0 _).t0 _⟩
theorem op_weight {b : Bool} {σ : gSt} (hI : Inv b σ) (p r : Int32) : OKI (fun Q QX s => W_X11_weight p r (fun v => Q v s) QX s) (W_X12_weight p r) cdP σ := by
  have hI0 := hI
  obtain ⟨hR, N, bk, nm, td, yr, fa, C, kind, st, cd, op, num, T, ta, tb, tw, most, ob, span, F, fx, fy, ft, h, m, kz, kh, tp, R, hs, hE, hRu, hT, hL, hP, hH, hD, hG⟩ := hI
  have h30 := hE.1.2.1
  unfold OKI W_X11_weight
  rcases pair_or p r N (by omega) with ⟨a, c, ha, hc, hne, rfl, rfl⟩ | ⟨E, k, h1, h2, h3⟩
  · obtain ⟨g, hg, c1, c2, c3, c4, c5, c6, c7, c8⟩ := hP.get hE ha hc hne
    have fin2 : ∀ v, v = wgt (fct (σ.1 3) bk nm td yr fa a c) num kind st cd op C T ta tb tw a c → ∀ s2, s2 = sL σ 115 0 (i2l v) → W_X12_weight (nI a) (nI c) (fun w t => fin (nI 0) (i2l w) t) s2 := by
      rintro v hv s2 rfl
      refine fI_i ?_
      have f3 : Fr [115] [0] σ (sI (sL σ 115 0 (i2l v)) 65 0 (nI 0)) := (Fr.rf.l (by simp) (by decide)).f (by simp)
      have hE3 := hE.fr f3 (by decide) (by decide)
      refine p_isP hE3.2.1.1 h30 rfl ha hc hne (bq_f (by decide) (p_weightOf hE3.2.1 (hRu.fr f3 (by cases b <;> decide) (by decide)).2.1 hRu.2.2 (hT.fr f3 (by decide) (by decide)).1 ha hc (fun s hO => ?_)))
      refine fin.scr hI0 ((f3.scr (by decide) (by decide)).trans ((Fr.of hO (by decide)).scr (js := []) (by decide) (by decide))) ?_ (fun _ => ?_)
      · rw [(hO.1 65 (by decide)).1]; rfl
      · rw [(hO.1 115 (by decide)).2, (f3.1 3 (by decide) (by decide)).1, ← hv]
        exact sL_out
    refine q_pair hE.1.1 h30 ha hc hne ⟨_, fun o l => s_isNever hR a c (by omega) (by omega), ?_⟩
    refine br_z (fun hf => ⟨_, fun o l => s_pull hR a c (by omega) (by omega), ?_⟩) (fun ht => ?_)
    · refine fin2 _ ?_
      rw [c1]
      rw [hf] at c5
      have := of_decide_eq_false c5.symm
      exact if_neg this
    · refine fin2 _ ?_
      rw [ht] at c5
      exact (of_decide_eq_true c5.symm).symm
  · refine q_pair_no hE.1.1 h30 E h2 ⟨nI k, h1, fI_i (p_isP_no (N := N) hE.2.1.1 h30 rfl k h3 (bq_t rfl (fin.no hI0 (by omega))))⟩
theorem op_fault {b : Bool} {σ : gSt} (hI : Inv b σ) : OKN (fun Q s => W_X11_fault (fun v => Q v s) s) W_X12_fault σ := by
  have hI0 := hI
  obtain ⟨hR, N, bk, nm, td, yr, fa, C, kind, st, cd, op, num, T, ta, tb, tw, most, ob, span, F, fx, fy, ft, h, m, kz, kh, tp, R, hs, hE, hRu, hT, hL, hP, hH, hD, hG⟩ := hI
  refine fI_i ⟨?_, b, hI0.t0 _⟩
  exact hD.2.2.2.2.1
