/-! best, many, first -/
theorem Inv.h10 {b : Bool} {σ : gSt} (hI : Inv b σ) : σ.1 56 10 = nI 0 := by
  obtain ⟨hR, N, bk, nm, td, yr, fa, C, kind, st, cd, op, num, T, ta, tb, tw, most, ob, span, F, fx, fy, ft, h, m, kz, kh, tp, R, hs, hE, hRu, hT, hL, hP, hH, hD, hG⟩ := hI
  exact hD.2.2.2.2.2
theorem Inv.scr5 {b : Bool} {σ s : gSt} (hI : Inv b σ) (f : Fr (56 :: scrC) scrJ σ s) (h10 : s.1 56 10 = nI 0) : Inv b s := by
  obtain ⟨hR, N, bk, nm, td, yr, fa, C, kind, st, cd, op, num, T, ta, tb, tw, most, ob, span, F, fx, fy, ft, h, m, kz, kh, tp, R, hs, hE, hRu, hT, hL, hP, hH, hD, hG⟩ := hI
  refine ⟨f.2.2.trans hR, N, bk, nm, td, yr, fa, C, kind, st, cd, op, num, T, ta, tb, tw, most, ob, span, F, fx, fy, ft, h, m, kz, kh, tp, R, hs, hE.fr f (by decide) (by decide), hRu.fr f (by cases b <;> decide) (by decide), hT.fr f (by decide) (by decide), hL.fr f (by decide) (by decide), hP.fr f (by decide) (by decide), hH.fr f (by decide) (by decide), ?_, hG.fr f (by decide) (by decide)⟩
  obtain ⟨d1, d2, d3, d4, d5, d6⟩ := hD
  refine ⟨?_, ?_, d3, ?_, ?_, h10⟩
  · rw [(f.1 4 (by decide) (by decide)).1]; exact d1
  · rw [(f.2.1 9 (by decide)).1]; exact d2
  · rw [(f.1 12 (by decide) (by decide)).1, (f.1 73 (by decide) (by decide)).1]; exact d4
  · rw [(f.1 4 (by decide) (by decide)).1, (f.2.1 18 (by decide)).1]; exact d5
/-- all that is known of a state -/
def Ctx (b : Bool) (σ : gSt) (N : Nat) (bk nm td yr : Nat → Nat) (fa : Nat → Int32) (most : Nat) (wt : Nat → Nat → Int32) (nv ti ap : Nat → Nat → Bool) (h : Nat → Nat) : Prop := Inv b σ ∧ N ≤ 30 ∧ entAt σ N bk nm td yr fa ∧ (σ.1 65 1 = nI N ∧ σ.1 33 1 = nI N) ∧ (σ.1 65 41 = nI most ∧ σ.1 30 5 = nI most ∧ most ≤ 30) ∧ (∀ i, i < N → σ.1 34 i = nI (h i) ∧ σ.1 71 i = nI (h i) ∧ h i ≤ i ∧ h (h i) = h i) ∧ pwS N wt nv ti ap ∧ pwC σ N bk yr wt nv ti ap ∧ (∀ (s : gSt) (Q : gSt → Prop), Fr (34 :: 56 :: 71 :: 42 :: 43 :: 101 :: scrC) (56 :: 57 :: 60 :: scrJ) σ s → (∀ t, Off [86, 90, 91, 92, 93] s t → pwM t N wt nv ti ap → Q t) → W_X12_weighs Q s)
theorem Inv.ctx {b : Bool} {σ : gSt} (hI : Inv b σ) : ∃ (N : Nat) (bk nm td yr : Nat → Nat) (fa : Nat → Int32) (most : Nat) (wt : Nat → Nat → Int32) (nv ti ap : Nat → Nat → Bool) (h : Nat → Nat), Ctx b σ N bk nm td yr fa most wt nv ti ap h := by
  obtain ⟨N, bk, nm, td, yr, fa, most, wt, nv, ti, ap, h, k⟩ := hI.pwW
  exact ⟨N, bk, nm, td, yr, fa, most, wt, nv, ti, ap, h, hI, k⟩
abbrev clsK : List Nat := 47 :: 48 :: 49 :: solK
section Ctxs
variable {b : Bool} {σ : gSt} {N : Nat} {bk nm td yr : Nat → Nat} {fa : Nat → Int32} {most : Nat} {wt : Nat → Nat → Int32} {nv ti ap : Nat → Nat → Bool} {h : Nat → Nat}
theorem Ctx.solveC (hX : Ctx b σ N bk nm td yr fa most wt nv ti ap h) {e : Nat} (he : e < N) {p : Nat → Bool} (hp : p = rc N (fun j => decide (j < N)) (hgP wt ti) e) {Q : Int32 → gSt → Prop}
    (q2 : 10 < fa_cnt p N → ∀ t, Off clsK σ t → t.1 56 10 = nI 0 → Q (-2) t)
    (q1 : fa_cnt p N ≤ 10 → mnS (fa_cnt p N) (rmM most) (plW wt p N) (plW ap p N) (plW ti p N) 0 = none → ∀ t, Off clsK σ t → t.1 56 10 = nI 0 → Q (-1) t)
    (q0 : fa_cnt p N ≤ 10 → ∀ c, mnS (fa_cnt p N) (rmM most) (plW wt p N) (plW ap p N) (plW ti p N) 0 = some c → ∀ t, Off clsK σ t → SolC t (fa_cnt p N) most c (plW wt p N) (plW ap p N) (plW ti p N) p N → Q (nI 1) t) : W_X11_membersOfPart (nI e) (fun x s => W_X11_solve x Q s) σ := by
  obtain ⟨hI, h30, hEn, hN, hm, hh, hS, hC, hM⟩ := hX
  exact p_solvePartOf hI.1 hEn h30 hm.2.2 hm.2.1 hC hS he hI.h10 hp q2 q1 q0
/-- a part of which the class has listed the best ones -/
def LstC (t : gSt) (n most c : Nat) (W : Nat → Nat → Int32) (A T : Nat → Nat → Bool) (p : Nat → Bool) (N : Nat) : Prop := ldC t n (rmM most) W A T ∧ (∀ i, i < n → t.1 51 i = nI (memP p N i)) ∧ t.1 56 10 = nI 0 ∧ RelL n c 0 (lsA n (rmM most) W A T c) t
theorem Ctx.listC (hX : Ctx b σ N bk nm td yr fa most wt nv ti ap h) {e : Nat} (he : e < N) {p : Nat → Bool} (hp : p = rc N (fun j => decide (j < N)) (hgP wt ti) e) {Q : Int32 → gSt → Prop}
    (q2 : 10 < fa_cnt p N → ∀ t, Off clsK σ t → t.1 56 10 = nI 0 → Q (-2) t)
    (q1 : fa_cnt p N ≤ 10 → mnS (fa_cnt p N) (rmM most) (plW wt p N) (plW ap p N) (plW ti p N) 0 = none → ∀ t, Off clsK σ t → t.1 56 10 = nI 0 → Q (-1) t)
    (q0 : fa_cnt p N ≤ 10 → ∀ c, mnS (fa_cnt p N) (rmM most) (plW wt p N) (plW ap p N) (plW ti p N) 0 = some c → ∀ t, Off clsK σ t → LstC t (fa_cnt p N) most c (plW wt p N) (plW ap p N) (plW ti p N) p N → Q (nI 1) t) : W_X11_listPartOf (nI e) Q σ := by
  have hrm : rmM most < 1000 := by have := hX.2.2.2.2.1.2.2; unfold rmM; split <;> omega
  have hcnt : 1 ≤ fa_cnt p N := by rw [hp]; exact rc_cnt he
  unfold W_X11_listPartOf
  refine hX.solveC he hp (fun k t hO k10 => bq_t (by decide) (q2 k t hO k10)) (fun k k2 t hO k10 => bq_t (by decide) (q1 k k2 t hO k10)) (fun k c hc t hO hs => bq_f (by decide) ?_)
  obtain ⟨s1, s2, s3, s4, s5, s6, s7⟩ := hs
  refine p_list s1 hcnt k hrm (fun i j hj hi => plW_ok hX.2.2.2.2.2.2.1 hj hi) hc s3 s4 s5 s6 s7 (fun t2 hO2 g10 hRl => q0 k c hc t2 (hO.trans (hO2.mono (by simp))) ⟨s1.fr hO2 (by decide), fun i hi => by rw [(hO2.1 51 (by decide)).1]; exact s2 i hi, g10, hRl⟩)
/-- the reference's state in a call, the class's answer being out -/
def OutM (σ u : gSt) (v : Int64) : Prop := Fr (56 :: scrC) scrJ σ u ∧ u.1 56 10 = nI 0 ∧ u.1 65 0 = nI 0 ∧ u.2.1 115 0 = v
theorem OutM.fin {u : gSt} {v w : Int64} (hI : Inv b σ) (h : OutM σ u v) (e : v = w) : fin (nI 0) w u := ⟨h.2.2.1, fun _ => h.2.2.2.trans e, b, hI.scr5 h.1 h.2.1⟩
theorem OutM.start {t : gSt} {v : Int64} {ks : List Nat} (hO : Off ks σ t) (hk : ks.all (fun k => decide (k ∈ 56 :: scrC)) = true) (h65 : 65 ∉ ks) (h10 : t.1 56 10 = nI 0) : OutM σ (sI (sL t 115 0 v) 65 0 (nI 0)) v := by
  refine ⟨?_, h10, rfl, by rw [sI_get2]; exact sL_out⟩
  have f := (Fr.of (js := []) hO h65).mono (ks' := 56 :: scrC) (js' := scrJ) (fun k hk2 => by simpa using List.all_eq_true.mp hk k hk2) (by simp)
  exact (f.l (by decide) (by decide)).f (by decide)
theorem OutM.go {u u2 : gSt} {v : Int64} {ks js : List Nat} (h : OutM σ u v) (f : Fr ks js u u2) (h1 : ks.all (fun k => decide (k ∈ scrC) && decide (k ≠ 115)) = true) (h2 : js.all (fun k => decide (k ∈ scrJ) && decide (k ≠ 0)) = true) : OutM σ u2 v := by
  have k1 : ∀ k ∈ ks, k ∈ scrC ∧ k ≠ 115 := fun k hk => by
    have := List.all_eq_true.mp h1 k hk
    rw [Bool.and_eq_true] at this
    exact ⟨of_decide_eq_true this.1, of_decide_eq_true this.2⟩
  have k2 : ∀ k ∈ js, k ∈ scrJ ∧ k ≠ 0 := fun k hk => by
    have := List.all_eq_true.mp h2 k hk
    rw [Bool.and_eq_true] at this
    exact ⟨of_decide_eq_true this.1, of_decide_eq_true this.2⟩
  have k56 : 56 ∉ ks := fun q => absurd (k1 56 q).1 (by decide)
  refine ⟨h.1.trans (f.mono (fun k hk => List.mem_cons_of_mem _ (k1 k hk).1) (fun k hk => (k2 k hk).1)), ?_, ?_, ?_⟩
  · rw [(f.1 56 (by decide) k56).1]; exact h.2.1
  · rw [(f.2.1 0 (fun q => (k2 0 q).2 rfl)).1]; exact h.2.2.1
  · rw [(f.1 115 (by decide) (fun q => (k1 115 q).2 rfl)).2]; exact h.2.2.2
theorem Ctx.partM (hX : Ctx b σ N bk nm td yr fa most wt nv ti ap h) {e : Nat} (he : e < N) {p : Nat → Bool} (hp : p = rc N (fun j => decide (j < N)) (hgP wt ti) e) {s : gSt} {v : Int64} (hs : OutM σ s v) {Q : Int32 → gSt → Prop}
    (q2 : 10 < fa_cnt p N → ∀ u, OutM σ u v → PrtM u N p → pwM u N wt nv ti ap → Q (-2) u)
    (q1 : fa_cnt p N ≤ 10 → mnS (fa_cnt p N) (rmM most) (plW wt p N) (plW ap p N) (plW ti p N) 0 = none → ∀ u, OutM σ u v → PrtM u N p → pwM u N wt nv ti ap → u.1 65 70 = nI 0 → Q (-1) u)
    (q0 : fa_cnt p N ≤ 10 → ∀ c, mnS (fa_cnt p N) (rmM most) (plW wt p N) (plW ap p N) (plW ti p N) 0 = some c → ∀ u, OutM σ u v → PrtM u N p → pwM u N wt nv ti ap → RefB (fa_cnt p N) c (lsA (fa_cnt p N) (rmM most) (plW wt p N) (plW ap p N) (plW ti p N) c) u → Q (nI 0) u) : W_X12_partOf (nI e) Q s := by
  obtain ⟨hI, h30, hEn, hN, hm, hh, hS, hC, hM⟩ := hX
  exact p_partOf ((hs.1.2.1 1 (by decide)).1.trans hN.1) h30 hm.2.2 ((hs.1.2.1 41 (by decide)).1.trans hm.1) hS (fun Q q => hM s Q (hs.1.mono (by decide) (by decide)) q) he hp (fun k t f => q2 k t (hs.go f (by decide) (by decide))) (fun k k2 t f => q1 k k2 t (hs.go f (by decide) (by decide))) (fun k c hc t f => q0 k c hc t (hs.go f (by decide) (by decide)))
theorem Ctx.isE (hX : Ctx b σ N bk nm td yr fa most wt nv ti ap h) {s : gSt} {v : Int64} (hs : OutM σ s v) {e : Nat} (he : e < N) {Q : Int32 → gSt → Prop} (q : Q (nI 1) s) : W_X12_isEntry (nI e) Q s := p_isE ((hs.1.2.1 1 (by decide)).1.trans hX.2.2.2.1.1) hX.2.1 hs.2.2.1 he q
end Ctxs
theorem neg2_le : ¬ (0 : Int32) ≤ (-2 : Int32) := by decide
theorem neg1_le : ¬ (0 : Int32) ≤ (-1 : Int32) := by decide
theorem pos1_le : (0 : Int32) ≤ nI 1 := by decide
theorem pos0_le : (0 : Int32) ≤ nI 0 := by decide
theorem op_best {b : Bool} {σ : gSt} (hI : Inv b σ) (p : Int32) : OKL (fun Q QX s => W_X11_best p Q QX s) (W_X12_best p) cdE σ := by
  obtain ⟨N, bk, nm, td, yr, fa, most, wt, nv, ti, ap, h, hX⟩ := hI.ctx
  have h30 := hX.2.1
  have hEn := hX.2.2.1
  unfold OKL W_X11_best
  rcases ent_or p N (by omega) with ⟨e, he, rfl⟩ | ⟨hp, -⟩
  · refine q_need hEn.1 h30 he (hX.solveC he rfl (fun k t hO k10 => bq_f neg2_le ?_) (fun k k2 t hO k10 => bq_f neg1_le ?_) (fun k c hc t hO hs => bq_t pos1_le ?_))
    · rintro s2 rfl
      have hs := OutM.start (v := i2l (-2)) hO (by decide) (by decide) k10
      refine fI_i (hX.isE hs he (bq_f (by decide) (hX.partM he rfl hs (fun _ u hu _ _ => bq_f neg2_le (hu.fin hI rfl)) (fun k' => by omega) (fun k' => by omega))))
    · rintro s2 rfl
      have hs := OutM.start (v := i2l (-1)) hO (by decide) (by decide) k10
      refine fI_i (hX.isE hs he (bq_f (by decide) (hX.partM he rfl hs (fun k' => by omega) (fun _ _ u hu _ _ _ => bq_f neg1_le (hu.fin hI rfl)) (fun _ c hc => by rw [k2] at hc; cases hc))))
    · rintro s2 rfl
      have hsC := hs
      have hs := OutM.start (v := i2l (t.1 56 0)) hO (by decide) (by decide) hsC.2.2.1
      refine fI_i (hX.isE hs he (bq_f (by decide) (hX.partM he rfl hs (fun k' => by omega) (fun _ k2 => by rw [k2] at hc; cases hc) (fun _ c2 hc2 u hu _ _ hB => bq_t pos0_le (hu.fin hI ?_)))))
      rw [hc, Option.some.injEq] at hc2
      subst hc2
      rw [hsC.2.2.2.1, hB.2.2.2.2.1]
      exact nI_l (by have := hB.1; omega)
  · refine q_need_no hEn.1 h30 hp ⟨nI 1, ⟨rfl, rfl⟩, fI_i (p_isE_no hX.2.2.2.1.1 h30 rfl hp (bq_t rfl (fin.no hI (.inl rfl))))⟩
theorem op_many {b : Bool} {σ : gSt} (hI : Inv b σ) (p : Int32) : OKI (fun Q QX s => W_X11_many p Q QX s) (W_X12_many p) cdE σ := by
  obtain ⟨N, bk, nm, td, yr, fa, most, wt, nv, ti, ap, h, hX⟩ := hI.ctx
  have h30 := hX.2.1
  have hEn := hX.2.2.1
  unfold OKI W_X11_many
  rcases ent_or p N (by omega) with ⟨e, he, rfl⟩ | ⟨hp, -⟩
  · refine q_need hEn.1 h30 he (hX.listC he rfl (fun k t hO k10 => bq_t rfl ?_) (fun k k2 t hO k10 => bq_f (by decide) (bq_f neg1_le ?_)) (fun k c hc t hO hs => bq_f (by decide) (bq_t pos1_le ?_)))
    · rintro s2 rfl
      have hs := OutM.start (v := i2l (-2)) hO (by decide) (by decide) k10
      refine fI_i (hX.isE hs he (bq_f (by decide) (hX.partM he rfl hs (fun _ u hu _ _ => bq_t rfl (hu.fin hI rfl)) (fun k' => by omega) (fun k' => by omega))))
    · rintro s2 rfl
      have hs := OutM.start (v := i2l (nI 0)) hO (by decide) (by decide) k10
      refine fI_i (hX.isE hs he (bq_f (by decide) (hX.partM he rfl hs (fun k' => by omega) (fun _ _ u hu _ _ u70 => bq_f (by decide) (hu.fin hI (by rw [u70]))) (fun _ c hc => by rw [k2] at hc; cases hc))))
    · rintro s2 rfl
      have hsC := hs
      have hs := OutM.start (v := i2l (t.1 56 1)) hO (by decide) (by decide) hsC.2.2.1
      refine fI_i (hX.isE hs he (bq_f (by decide) (hX.partM he rfl hs (fun k' => by omega) (fun _ k2 => by rw [k2] at hc; cases hc) (fun _ c2 hc2 u hu _ _ hB => bq_f (by decide) (hu.fin hI ?_)))))
      rw [hc, Option.some.injEq] at hc2
      subst hc2
      rw [hsC.2.2.2.2.2.2.1, hB.2.2.2.1]
  · refine q_need_no hEn.1 h30 hp ⟨nI 1, ⟨rfl, rfl⟩, fI_i (p_isE_no hX.2.2.2.1.1 h30 rfl hp (bq_t rfl (fin.no hI (.inl rfl))))⟩
