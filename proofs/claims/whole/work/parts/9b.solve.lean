/-! an entry's part, solved by both -/
theorem pwC.off {σ t : gSt} {N : Nat} {bk yr : Nat → Nat} {wt : Nat → Nat → Int32} {nv ti ap : Nat → Nat → Bool} {ks : List Nat} (h : pwC σ N bk yr wt nv ti ap) (hO : Off ks σ t) (hk : ∀ k ∈ [24, 26, 30, 31, 32], k ∉ ks) : pwC t N bk yr wt nv ti ap := by
  intro a c ha hc hne
  have := h a c ha hc hne
  rw [(hO.1 24 (hk _ (by simp))).1, (hO.1 26 (hk _ (by simp))).1, (hO.1 31 (hk _ (by simp))).1, prtC_off hO ⟨hk _ (by simp), hk _ (by simp), hk _ (by simp)⟩]
  exact this
abbrev solK : List Nat := [50, 51, 52, 53, 54, 56, 57, 58, 59, 60, 61, 62]
/-- a part that the class has measured -/
def SolC (t : gSt) (n most c : Nat) (W : Nat → Nat → Int32) (A T : Nat → Nat → Bool) (p : Nat → Bool) (N : Nat) : Prop := ldC t n (rmM most) W A T ∧ (∀ i, i < n → t.1 51 i = nI (memP p N i)) ∧ t.1 56 10 = nI 0 ∧ t.1 56 0 = nI c ∧ t.1 56 11 = nI 0 ∧ t.1 56 2 = BIGN ∧ (∀ i, 0 < i → i ≤ n → t.1 57 i = nI (rS n (rmM most) W A T i))
theorem plW_ok {N : Nat} {wt : Nat → Nat → Int32} {nv ti ap : Nat → Nat → Bool} (hS : pwS N wt nv ti ap) {p : Nat → Bool} {i j : Nat} (hj : j < i) (hi : i < fa_cnt p N) : okW (plW wt p N i j) := (hS _ _ (memP_in (show j < fa_cnt p N by omega)).1 (memP_in hi).1 (fun h => by have := memP_inj (show j < fa_cnt p N by omega) hi h; omega)).2.2.2.2.1
theorem p_solve {b : Bool} {σ : gSt} (hR : σ.2.2 = gRf b) {N most : Nat} {bk nm td yr : Nat → Nat} {fa : Nat → Int32} (hE : entAt σ N bk nm td yr fa) (h30 : N ≤ 30) (hm30 : most ≤ 30) (hmo : σ.1 30 5 = nI most) {wt : Nat → Nat → Int32} {nv ti ap : Nat → Nat → Bool} (hC : pwC σ N bk yr wt nv ti ap) (hS : pwS N wt nv ti ap) {p : Nat → Bool} {x : Int32} (hx : ∀ k, k < 32 → bt x k = p k) (hN : ∀ k, N ≤ k → p k = false) (hn1 : 1 ≤ fa_cnt p N) (h10 : σ.1 56 10 = nI 0) {Q : Int32 → gSt → Prop}
    (q2 : 10 < fa_cnt p N → Q (-2) σ)
    (q1 : fa_cnt p N ≤ 10 → mnS (fa_cnt p N) (rmM most) (plW wt p N) (plW ap p N) (plW ti p N) 0 = none → ∀ t, Off solK σ t → t.1 56 10 = nI 0 → Q (-1) t)
    (q0 : fa_cnt p N ≤ 10 → ∀ c, mnS (fa_cnt p N) (rmM most) (plW wt p N) (plW ap p N) (plW ti p N) 0 = some c → ∀ t, Off solK σ t → SolC t (fa_cnt p N) most c (plW wt p N) (plW ap p N) (plW ti p N) p N → Q (nI 1) t) : W_X11_solve x Q σ := by
  have hrm : rmM most < 1000 := by unfold rmM; split <;> omega
  unfold W_X11_solve
  refine p_bitCount ?_
  rw [fa_cnt_cong (q := p) (fun k hk => hx k hk), fa_cnt_32 h30 hN]
  have hle := fa_cnt_le p N
  refine br_le (by omega) (by decide) (fun hn => ?_) (fun hn => q2 hn)
  refine p_load hR hE h30 hm30 hmo hC hS hx hN hn (fun t hO hL h51 => ?_)
  refine p_measureS hL (by rw [(hO.1 56 (by decide)).1]; exact h10) hn1 hn hrm (fun i j hj hi => plW_ok hS hj hi) (fun e t2 hO2 g10 => bq_t rfl (q1 hn e t2 ((hO.mono (by simp)).trans (hO2.mono (by simp))) g10)) (fun c e t2 hO2 g10 g0 g11 g2 g57 => bq_f (by decide) (q0 hn c e t2 ((hO.mono (by simp)).trans (hO2.mono (by simp))) ⟨hL.fr hO2 (by decide), fun i hi => by rw [(hO2.1 51 (by decide)).1]; exact h51 i hi, g10, g0, g11, g2, g57⟩))
theorem rc_self {N : Nat} {U : Nat → Bool} {hg : Nat → Nat → Bool} (e : Nat) : rc N U hg e e = true := rc_iff.mpr (Rch.rf e)
theorem rc_cnt {N : Nat} {U : Nat → Bool} {hg : Nat → Nat → Bool} {e : Nat} (he : e < N) : 1 ≤ fa_cnt (rc N U hg e) N := fa_cnt_pos he (rc_self e)
theorem p_solvePartOf {b : Bool} {σ : gSt} (hR : σ.2.2 = gRf b) {N most : Nat} {bk nm td yr : Nat → Nat} {fa : Nat → Int32} (hE : entAt σ N bk nm td yr fa) (h30 : N ≤ 30) (hm30 : most ≤ 30) (hmo : σ.1 30 5 = nI most) {wt : Nat → Nat → Int32} {nv ti ap : Nat → Nat → Bool} (hC : pwC σ N bk yr wt nv ti ap) (hS : pwS N wt nv ti ap) {e : Nat} (he : e < N) (h10 : σ.1 56 10 = nI 0) {p : Nat → Bool} (hp : p = rc N (fun j => decide (j < N)) (hgP wt ti) e) {Q : Int32 → gSt → Prop}
    (q2 : 10 < fa_cnt p N → ∀ t, Off (47 :: 48 :: 49 :: solK) σ t → t.1 56 10 = nI 0 → Q (-2) t)
    (q1 : fa_cnt p N ≤ 10 → mnS (fa_cnt p N) (rmM most) (plW wt p N) (plW ap p N) (plW ti p N) 0 = none → ∀ t, Off (47 :: 48 :: 49 :: solK) σ t → t.1 56 10 = nI 0 → Q (-1) t)
    (q0 : fa_cnt p N ≤ 10 → ∀ c, mnS (fa_cnt p N) (rmM most) (plW wt p N) (plW ap p N) (plW ti p N) 0 = some c → ∀ t, Off (47 :: 48 :: 49 :: solK) σ t → SolC t (fa_cnt p N) most c (plW wt p N) (plW ap p N) (plW ti p N) p N → Q (nI 1) t) : W_X11_membersOfPart (nI e) (fun x s => W_X11_solve x Q s) σ := by
  refine p_membersOf hR hC hS hE.1 h30 he (fun x t hO hx => ?_)
  rw [← hp] at hx
  have hN : ∀ k, N ≤ k → p k = false := fun k hk => by rw [hp]; exact rc_big he hk
  have hcnt : 1 ≤ fa_cnt p N := by rw [hp]; exact rc_cnt he
  have g10 : t.1 56 10 = nI 0 := by rw [(hO.1 56 (by decide)).1]; exact h10
  refine p_solve (hO.2.trans hR) (hE.off hO (by decide) (by decide)) h30 hm30 (by rw [(hO.1 30 (by decide)).1]; exact hmo) (hC.off hO (by decide)) hS (fun k _ => hx k) hN hcnt g10 (fun h => q2 h t (hO.mono (by simp)) g10) (fun h h2 t2 hO2 k => q1 h h2 t2 ((hO.mono (by simp)).trans (hO2.mono (by simp))) k) (fun h c h2 t2 hO2 hs => q0 h c h2 t2 ((hO.mono (by simp)).trans (hO2.mono (by simp))) hs)
/-- the reference's members and pairs -/
def PrtM (t : gSt) (N : Nat) (p : Nat → Bool) : Prop := t.1 65 64 = nI (fa_cnt p N) ∧ (∀ i, i < N → p i = true → t.1 105 (fa_cnt p i) = nI i) ∧ (∀ j, j < N → t.1 104 j = zI (p j))
abbrev refK : List Nat := [86, 90, 91, 92, 93, 103, 104, 105, 106, 107, 108, 109, 110]
abbrev refJ : List Nat := [64, 68, 69, 70, 71, 74, 75, 77, 78, 79, 80]
theorem PrtM.mem {t : gSt} {N : Nat} {p : Nat → Bool} (h : PrtM t N p) {i : Nat} (hi : i < fa_cnt p N) : t.1 105 i = nI (memP p N i) := by
  obtain ⟨m1, m2, m3⟩ := memP_in hi
  have := h.2.1 _ m1 m2
  rw [m3] at this
  exact this
theorem PrtM.mw {t : gSt} {N most : Nat} {p : Nat → Bool} {wt : Nat → Nat → Int32} {nv ti ap : Nat → Nat → Bool} (h : PrtM t N p) (hM : pwM t N wt nv ti ap) (h30 : N ≤ 30) (hmo : t.1 65 41 = nI most) : mwC t (fa_cnt p N) most (plW wt p N) (plW ap p N) (plW ti p N) := by
  refine ⟨h.1, hmo, fun i j hj hi => ?_⟩
  have hj2 : j < fa_cnt p N := by omega
  have mi := (memP_in hi).1
  have mj := (memP_in hj2).1
  have hne : memP p N j ≠ memP p N i := fun w => by have := memP_inj hj2 hi w; omega
  have := hM _ _ mj mi hne
  exact ⟨memP p N j, memP p N i, by omega, by omega, h.mem hj2, h.mem hi, this.1, this.2.2.2, this.2.2.1⟩
theorem p_findBests {s : gSt} {N most : Nat} {wt : Nat → Nat → Int32} {nv ti ap : Nat → Nat → Bool} (hN : s.1 65 1 = nI N) (h30 : N ≤ 30) (hm30 : most ≤ 30) (hmo : s.1 65 41 = nI most) (hS : pwS N wt nv ti ap) (hM : pwM s N wt nv ti ap) {U : Nat → Bool} (h103 : ∀ j, j < N → s.1 103 j = zI (U j)) {e : Nat} (he : e < N) {p : Nat → Bool} (hp : p = rc N U (hgP wt ti) e) {Q : Int32 → gSt → Prop}
    (q2 : 10 < fa_cnt p N → ∀ t, Fr [104, 105, 106, 107, 108, 109, 110] refJ s t → PrtM t N p → Q (-2) t)
    (q1 : fa_cnt p N ≤ 10 → mnS (fa_cnt p N) (rmM most) (plW wt p N) (plW ap p N) (plW ti p N) 0 = none → ∀ t, Fr [104, 105, 106, 107, 108, 109, 110] refJ s t → PrtM t N p → t.1 65 70 = nI 0 → Q (-1) t)
    (q0 : fa_cnt p N ≤ 10 → ∀ c, mnS (fa_cnt p N) (rmM most) (plW wt p N) (plW ap p N) (plW ti p N) 0 = some c → ∀ t, Fr [104, 105, 106, 107, 108, 109, 110] refJ s t → PrtM t N p → RefB (fa_cnt p N) c (lsA (fa_cnt p N) (rmM most) (plW wt p N) (plW ap p N) (plW ti p N) c) t → Q (nI 0) t) : W_X12_findPart (nI e) (fun t => W_X12_bests Q t) s := by
  refine p_findPart hN h30 hM h103 he (fun t f h104 h64 h105 => ?_)
  rw [← hp] at h104 h64 h105
  have hP : PrtM t N p := ⟨h64, h105, h104⟩
  have hle := fa_cnt_le p N
  have hPf : ∀ t2, Fr [106, 107, 108, 109, 110] [68, 69, 70, 71, 74, 75, 77, 78, 79, 80] t t2 → Fr [104, 105, 106, 107, 108, 109, 110] refJ s t2 ∧ PrtM t2 N p := fun t2 f2 => ⟨(f.mono (by simp) (by simp)).trans (f2.mono (by simp) (by simp)), by
    unfold PrtM
    rw [(f2.2.1 64 (by decide)).1, (f2.1 105 (by decide) (by decide)).1, (f2.1 104 (by decide) (by decide)).1]
    exact hP⟩
  refine p_bests (by omega) hm30 (hP.mw (hM.fr f (by decide)) h30 ((f.2.1 41 (by decide)).1.trans hmo)) (fun i j hj hi => plW_ok hS hj hi) (fun h => q2 h t (f.mono (by simp) (by simp)) hP) (fun h h2 t2 f2 k => q1 h h2 t2 (hPf t2 f2).1 (hPf t2 f2).2 k) (fun h c h2 t2 f2 k => q0 h c h2 t2 (hPf t2 f2).1 (hPf t2 f2).2 k)
theorem p_partOf {s : gSt} {N most : Nat} {wt : Nat → Nat → Int32} {nv ti ap : Nat → Nat → Bool} (hN : s.1 65 1 = nI N) (h30 : N ≤ 30) (hm30 : most ≤ 30) (hmo : s.1 65 41 = nI most) (hS : pwS N wt nv ti ap) (hW : ∀ Q : gSt → Prop, (∀ t, Off [86, 90, 91, 92, 93] s t → pwM t N wt nv ti ap → Q t) → W_X12_weighs Q s) {e : Nat} (he : e < N) {p : Nat → Bool} (hp : p = rc N (fun j => decide (j < N)) (hgP wt ti) e) {Q : Int32 → gSt → Prop}
    (q2 : 10 < fa_cnt p N → ∀ t, Fr refK refJ s t → PrtM t N p → pwM t N wt nv ti ap → Q (-2) t)
    (q1 : fa_cnt p N ≤ 10 → mnS (fa_cnt p N) (rmM most) (plW wt p N) (plW ap p N) (plW ti p N) 0 = none → ∀ t, Fr refK refJ s t → PrtM t N p → pwM t N wt nv ti ap → t.1 65 70 = nI 0 → Q (-1) t)
    (q0 : fa_cnt p N ≤ 10 → ∀ c, mnS (fa_cnt p N) (rmM most) (plW wt p N) (plW ap p N) (plW ti p N) 0 = some c → ∀ t, Fr refK refJ s t → PrtM t N p → pwM t N wt nv ti ap → RefB (fa_cnt p N) c (lsA (fa_cnt p N) (rmM most) (plW wt p N) (plW ap p N) (plW ti p N) c) t → Q (nI 0) t) : W_X12_partOf (nI e) Q s := by
  unfold W_X12_partOf
  refine p_everyone hN h30 hW (fun t hO hw h103 => ?_)
  have f : Fr [86, 90, 91, 92, 93, 103] [] s t := Fr.of hO (by decide)
  have g : ∀ t2, Fr [104, 105, 106, 107, 108, 109, 110] refJ t t2 → Fr refK refJ s t2 ∧ pwM t2 N wt nv ti ap := fun t2 f2 => ⟨(f.mono (by simp) (by simp)).trans (f2.mono (by simp) (by simp)), hw.fr f2 (by decide)⟩
  exact p_findBests ((f.2.1 1 (by decide)).1.trans hN) h30 hm30 ((f.2.1 41 (by decide)).1.trans hmo) hS hw (U := fun j => decide (j < N)) (fun j hj => by rw [h103 j hj, decide_eq_true hj]) he hp (fun h t2 f2 hP => q2 h t2 (g t2 f2).1 hP (g t2 f2).2) (fun h h2 t2 f2 hP k => q1 h h2 t2 (g t2 f2).1 hP (g t2 f2).2 k) (fun h c h2 t2 f2 hP k => q0 h c h2 t2 (g t2 f2).1 hP (g t2 f2).2 k)
