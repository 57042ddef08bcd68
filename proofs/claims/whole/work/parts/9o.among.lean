/-! all parts among some entries, solved by the class -/
noncomputable section
/-- one part's best cost -/
def amM (most N : Nat) (wt : Nat → Nat → Int32) (ti ap : Nat → Nat → Bool) (p : Nat → Bool) : Option Nat := mnS (fa_cnt p N) (rmM most) (plW wt p N) (plW ap p N) (plW ti p N) 0
/-- the heap of the member j in the part's first listing -/
def amH (most N : Nat) (wt : Nat → Nat → Int32) (ti ap : Nat → Nat → Bool) (p : Nat → Bool) (j : Nat) : Nat :=
  let ch := (lsA (fa_cnt p N) (rmM most) (plW wt p N) (plW ap p N) (plW ti p N) ((amM most N wt ti ap p).getD 0)).2.2.2.1
  memP p N (lp 0 ch (ch (fa_cnt p j)))
def amF (most N : Nat) (U : Nat → Bool) (wt : Nat → Nat → Int32) (ti ap : Nat → Nat → Bool) : Nat → Nat → Int64 → Bool → Option (Int64 × Bool)
  | 0, _, v, f => some (v, f)
  | m + 1, i, v, f =>
    if (U i && decide (lst1 N U (hgP wt ti) i = i)) = true then
      if 10 < fa_cnt (rc N U (hgP wt ti) i) N then amF most N U wt ti ap m (i + 1) v true
      else match amM most N wt ti ap (rc N U (hgP wt ti) i) with
        | none => none
        | some c => amF most N U wt ti ap m (i + 1) (v + i2l (nI c)) f
    else amF most N U wt ti ap m (i + 1) v f
def amV : Option (Int64 × Bool) → Int64
  | none => -1
  | some y => if y.2 = true then -2 else y.1
/-- the heaps of all whose part's first is before i -/
def amK (most N : Nat) (U : Nat → Bool) (wt : Nat → Nat → Int32) (ti ap : Nat → Nat → Bool) (k i : Nat) (f : Bool) (s : gSt) : Prop := f = false → ∀ j, j < N → U j = true → lst1 N U (hgP wt ti) j < i → s.1 k j = nI (amH most N wt ti ap (rc N U (hgP wt ti) (lst1 N U (hgP wt ti) j)) j)
theorem rc_U {N : Nat} {U : Nat → Bool} {hg : Nat → Nat → Bool} {i j : Nat} (hi : U i = true) (h : rc N U hg i j = true) : U j = true := by
  have := rc_iff.mp h (fun x => U x = true) hi (fun a c ha hc ht hu hh => hu)
  exact this
/-- who is in the part of a first -/
theorem am_in {N : Nat} {U : Nat → Bool} {hg : Nat → Nat → Bool} (hsy : ∀ a c, a < N → c < N → hg a c = hg c a) {i j : Nat} (hi : i < N) (hu : U i = true) (hl : lst1 N U hg i = i) (hj : j < N) (huj : U j = true) : rc N U hg i j = true ↔ lst1 N U hg j = i := by
  constructor
  · intro h
    rw [lst1_eq hsy h hi hu, hl]
  · intro h
    have h1 := (lst1_le (U := U) (hg := hg) hj).2.2
    rw [h] at h1
    exact rc_iff.mpr ((rc_iff.mp h1).sy hsy hj huj)
theorem amK.step {most N : Nat} {U : Nat → Bool} {wt : Nat → Nat → Int32} {ti ap : Nat → Nat → Bool} {k i : Nat} {f : Bool} {s t : gSt} (hsy : ∀ a c, a < N → c < N → hgP wt ti a c = hgP wt ti c a) (h : amK most N U wt ti ap k i f s) (hi : i < N) (hu : U i = true) (hl : lst1 N U (hgP wt ti) i = i)
    (h1 : ∀ j, j < N → rc N U (hgP wt ti) i j = true → t.1 k j = nI (amH most N wt ti ap (rc N U (hgP wt ti) i) j)) (h2 : ∀ j, j < N → rc N U (hgP wt ti) i j = false → t.1 k j = s.1 k j) : amK most N U wt ti ap k (i + 1) f t := by
  intro hf j hj huj hlj
  by_cases z : rc N U (hgP wt ti) i j = true
  · rw [(am_in hsy hi hu hl hj huj).mp z]
    exact h1 j hj z
  · have z2 := ts_nt z
    rw [h2 j hj z2]
    refine h hf j hj huj ?_
    have : ¬ lst1 N U (hgP wt ti) j = i := fun w => z ((am_in hsy hi hu hl hj huj).mpr w)
    omega
theorem amK.skip {most N : Nat} {U : Nat → Bool} {wt : Nat → Nat → Int32} {ti ap : Nat → Nat → Bool} {k i : Nat} {f : Bool} {s t : gSt} (hsy : ∀ a c, a < N → c < N → hgP wt ti a c = hgP wt ti c a) (h : amK most N U wt ti ap k i f s) (hi : i < N) (hn : (U i && decide (lst1 N U (hgP wt ti) i = i)) = false) (ht : t.1 k = s.1 k) : amK most N U wt ti ap k (i + 1) f t := by
  intro hf j hj huj hlj
  rw [ht]
  refine h hf j hj huj ?_
  by_cases z : lst1 N U (hgP wt ti) j = i
  · exfalso
    have h1 := (lst1_le (U := U) (hg := hgP wt ti) hj).2.2
    rw [z] at h1
    have hui : U i = true := rc_U huj h1
    have hle := (lst1_le (U := U) (hg := hgP wt ti) hi).1
    have : lst1 N U (hgP wt ti) i = i := by rw [lst1_eq hsy h1 hj huj, z]
    rw [hui, this, decide_eq_true rfl] at hn
    cases hn
  · omega
/-- the class copies the first listing's heaps of a part out -/
theorem p_copyFirst {s : gSt} {k1 : Nat} (hk : lay k1 = (0, 30)) (hk50 : k1 ≠ 50 ∧ k1 ≠ 51 ∧ k1 ≠ 61) {N : Nat} {p : Nat → Bool} (h30 : N ≤ 30) (hn : fa_cnt p N ≤ 10) (h0 : s.1 50 0 = nI (fa_cnt p N)) (h51 : ∀ i, i < fa_cnt p N → s.1 51 i = nI (memP p N i)) {ch : Nat → Nat} (h61 : ∀ j, j < fa_cnt p N → s.1 61 j = nI (lp 0 ch (ch j))) {Q : gSt → Prop}
    (q : ∀ t, Off [k1] s t → (∀ j, j < N → p j = true → t.1 k1 j = nI (memP p N (lp 0 ch (ch (fa_cnt p j))))) → (∀ j, j < N → p j = false → t.1 k1 j = s.1 k1 j) → Q t) : W_X10_copyFirst k1 Q s := by
  have loop : ∀ (m v : Nat) (t : gSt), v + m = fa_cnt p N → Off [k1] s t → (∀ w, w < v → t.1 k1 (memP p N w) = nI (memP p N (lp 0 ch (ch w)))) → (∀ j, (∀ w, w < v → memP p N w ≠ j) → t.1 k1 j = s.1 k1 j) → L_X10_copyFirst_2 k1 Q (fun s10 => Q s10) (m + 1) (nI v) t := by
    intro m
    induction m with
    | zero =>
      intro v t hv hO hw hr
      rw [L_X10_copyFirst_2, (hO.1 50 (by simpa using Ne.symm hk50.1)).1, h0]
      refine bq_t (nI_le (by omega) (by omega)) (q t hO (fun j hj hp => ?_) (fun j hj hp => hr j (fun w hw2 e => ?_)))
      · have := hw (fa_cnt p j) (by have := fa_cnt_ltn (n := N) hj hp; omega)
        rw [memP_of hj hp] at this
        exact this
      · have := (memP_in (p := p) (N := N) (i := w) (by omega)).2.1
        rw [e, hp] at this
        cases this
    | succ m ih =>
      intro v t hv hO hw hr
      have hvn : v < fa_cnt p N := by omega
      rw [L_X10_copyFirst_2, (hO.1 50 (by simpa using Ne.symm hk50.1)).1, h0]
      have e51 : ∀ i, i < fa_cnt p N → t.1 51 i = nI (memP p N i) := fun i hi => by rw [(hO.1 51 (by simpa using Ne.symm hk50.2.1)).1]; exact h51 i hi
      have e61 : t.1 61 v = nI (lp 0 ch (ch v)) := by rw [(hO.1 61 (by simpa using Ne.symm hk50.2.2)).1]; exact h61 v hvn
      obtain ⟨l1, l2, l3, l4⟩ := lp_ex (s := 0) (i := v + 1) (v := ch v) (a := ch) (by omega) ⟨v, Nat.zero_le _, by omega, rfl⟩
      obtain ⟨L, hL⟩ : ∃ L, L = lp 0 ch (ch v) := ⟨_, rfl⟩
      rw [← hL] at e61 l2
      have mv := (memP_in hvn).1
      refine bq_f (nI_ge (by omega) (by omega)) (rI_i (by omega) (rI_i (by omega) ?_))
      rw [e51 v hvn, e61]
      refine rI_i (by omega) ?_
      rw [e51 L (by omega), hk]
      refine wI_i (by show _ < 30; omega) ?_
      rw [nI_add]
      refine ih (v + 1) _ (by omega) (hO.i (by simp)) (fun w hw2 => ?_) (fun j hj => ?_)
      · rw [sI_get]
        by_cases z : memP p N w = memP p N v
        · have : w = v := memP_inj (by omega) hvn z
          rw [if_pos ⟨rfl, z⟩, this, hL]
        · rw [if_neg (fun x => z x.2)]
          by_cases y : w = v
          · rw [y] at z; exact absurd rfl z
          · exact hw w (by omega)
      · rw [sI_get, if_neg (fun x => hj v (by omega) x.2.symm)]
        exact hr j (fun w hw2 => hj w (by omega))
  unfold W_X10_copyFirst
  exact ⟨fa_cnt p N + 1, loop (fa_cnt p N) 0 s (by omega) Off.rf (fun w hw => by omega) (fun j _ => rfl)⟩
theorem p_solveAmong {b : Bool} {σ : gSt} (hR : σ.2.2 = gRf b) {N most : Nat} {bk nm td yr : Nat → Nat} {fa : Nat → Int32} (hE : entAt σ N bk nm td yr fa) (h30 : N ≤ 30) (hm30 : most ≤ 30) (hmo : σ.1 30 5 = nI most) {wt : Nat → Nat → Int32} {nv ti ap : Nat → Nat → Bool} (hC : pwC σ N bk yr wt nv ti ap) (hS : pwS N wt nv ti ap) (h10 : σ.1 56 10 = nI 0) {k1 : Nat} (hk : k1 = 63 ∨ k1 = 64) {U : Nat → Bool} (hU : ∀ j, U j = true → j < N) {A : Int32} (hA : ∀ k, k < 32 → bt A k = U k) {Q : Int64 → gSt → Prop}
    (q : ∀ t, Off (k1 :: clsK) σ t → t.1 56 10 = nI 0 → (∀ v, amF most N U wt ti ap N 0 (lN 0) false = some (v, false) → ∀ j, j < N → U j = true → t.1 k1 j = nI (amH most N wt ti ap (rc N U (hgP wt ti) (lst1 N U (hgP wt ti) j)) j)) → (∀ j, j < N → U j = false → t.1 k1 j = -1) → Q (amV (amF most N U wt ti ap N 0 (lN 0) false)) t) : W_X11_solveAmong A k1 Q σ := by
  have hsy := hgP_sy hS
  have hlay : lay k1 = (0, 30) := by rcases hk with rfl | rfl <;> rfl
  have hkn : k1 ∉ [1, 2, 24, 26, 30, 31, 32, 47, 49, 50, 51, 56, 61] := by rcases hk with rfl | rfl <;> decide
  have hrm : rmM most < 1000 := by unfold rmM; split <;> omega
  obtain ⟨R, hRes⟩ : ∃ R, R = amF most N U wt ti ap N 0 (lN 0) false := ⟨_, rfl⟩
  rw [← hRes] at q
  unfold W_X11_solveAmong
  refine p_find hR hC hS hE.1 h30 hU hA (fun t hO h47 h49 => ?_)
  intro t2 hO2 hfl
  have hO3 : Off (k1 :: clsK) σ t2 := (hO.mono (by simp)).trans (hO2.mono (by simp))
  have i47 : t2.1 47 = t.1 47 := (hO2.1 47 (by intro w; exact hkn (by simp at w; subst w; simp))).1
  have i49 : t2.1 49 = t.1 49 := (hO2.1 49 (by intro w; exact hkn (by simp at w; subst w; simp))).1
  have i10 : t2.1 56 10 = nI 0 := by rw [(hO2.1 56 (by intro w; exact hkn (by simp at w; subst w; simp))).1, (hO.1 56 (by decide)).1]; exact h10
  have loop : ∀ (m i : Nat) (v : Int64) (f : Bool) (s : gSt), i + m = N → Off (k1 :: clsK) σ s → s.1 56 10 = nI 0 → s.1 47 = t.1 47 → s.1 49 = t.1 49 → amK most N U wt ti ap k1 i f s → (∀ j, j < N → U j = false → s.1 k1 j = -1) → R = amF most N U wt ti ap m i v f → L_X11_solveAmong_22 k1 Q (fun y22 y23 s24 => ((y23 = 0 → (Q y22 s24)) ∧ (¬ y23 = 0 → (Q ((-2 : Int64)) s24)))) (m + 1) v (zI f) (nI i) s := by
    intro m
    induction m with
    | zero =>
      intro i v f s hi hO g10 g47 g49 hK hZ hR2
      have hq := q s hO g10
      rw [L_X11_solveAmong_22, (hO.1 1 (by rcases hk with rfl | rfl <;> decide)).1, hE.1]
      refine bq_t (nI_le (by omega) (by omega)) ?_
      rw [hR2, amF] at hq
      cases f
      · refine bq_t rfl (hq (fun v2 hv2 j hj hu => hK rfl j hj hu (by have := (lst1_le (U := U) (hg := hgP wt ti) hj).2.1; omega)) hZ)
      · refine bq_f (by decide) (hq (fun v2 hv2 => ?_) hZ)
        simp only [Option.some.injEq, Prod.mk.injEq] at hv2
        exact absurd hv2.2 (by decide)
    | succ m ih =>
      intro i v f s hi hO g10 g47 g49 hK hZ hR2
      have hiN : i < N := by omega
      rw [L_X11_solveAmong_22, (hO.1 1 (by rcases hk with rfl | rfl <;> decide)).1, hE.1]
      refine bq_f (nI_ge (by omega) (by omega)) (rI_i (by omega) ?_)
      rw [g47, h47 i (by omega), nI_add]
      by_cases hp : (U i && decide (lst1 N U (hgP wt ti) i = i)) = true
      · have hp2 := hp
        rw [Bool.and_eq_true, decide_eq_true_iff] at hp2
        obtain ⟨hu, hl⟩ := hp2
        rw [amF, if_pos hp] at hR2
        obtain ⟨p, hpd⟩ : ∃ p, p = rc N U (hgP wt ti) i := ⟨_, rfl⟩
        rw [← hpd] at hR2
        have hle := fa_cnt_le p N
        have hpN : ∀ k, N ≤ k → p k = false := fun k hk => by rw [hpd]; exact rc_big hiN hk
        have hcnt : 1 ≤ fa_cnt p N := by rw [hpd]; exact rc_cnt hiN
        unfold numP
        rw [if_pos ⟨hu, hiN, by omega⟩, hl]
        refine bq_t rfl (p_membersWith hS h30 (fun j hj => by rw [g47]; exact h47 j hj) (fun e he hl => by rw [g49]; exact h49 e he hl) hiN hu (fun x hx => ?_))
        rw [← hpd] at hx
        refine p_solve (p := p) (hO.2.trans hR) (hE.off hO (by rcases hk with rfl | rfl <;> decide) (by rcases hk with rfl | rfl <;> decide)) h30 hm30 (by rw [(hO.1 30 (by rcases hk with rfl | rfl <;> decide)).1]; exact hmo) (hC.off hO (by rcases hk with rfl | rfl <;> decide)) hS (fun k _ => hx k) hpN hcnt g10 (fun k => ?_) (fun k k2 s2 hOs k10 => ?_) (fun k c hc s2 hOs hs => ?_)
        · refine bq_f (by decide) (bq_t rfl ?_)
          rw [if_pos k] at hR2
          exact ih (i + 1) v true s (by omega) hO g10 g47 g49 (fun w => by cases w) hZ hR2
        · refine bq_t rfl ?_
          have hq := q s2 (hO.trans (hOs.mono (by simp))) k10
          rw [if_neg (by omega), show amM most N wt ti ap p = none from k2] at hR2
          rw [hR2] at hq
          exact hq (fun v hv => by cases hv) (fun j hj hj2 => by rw [(hOs.1 k1 (by rcases hk with rfl | rfl <;> decide)).1]; exact hZ j hj hj2)
        · refine bq_f (by decide) (bq_f (by decide) ?_)
          have hc2 : amM most N wt ti ap p = some c := hc
          rw [if_neg (by omega), hc2] at hR2
          obtain ⟨s1, s2a, s3, s4, s5, s6, s7⟩ := hs
          rw [s4]
          refine p_list s1 hcnt k hrm (fun i j hj hi => plW_ok hS hj hi) hc s3 s4 s5 s6 s7 (fun s3 hO3 k10 hRl => ?_)
          have e51 : ∀ i, i < fa_cnt p N → s3.1 51 i = nI (memP p N i) := fun i hi => by rw [(hO3.1 51 (by decide)).1]; exact s2a i hi
          have e50 : s3.1 50 0 = nI (fa_cnt p N) := by rw [(hO3.1 50 (by decide)).1]; exact s1.1
          refine p_copyFirst hlay (by rcases hk with rfl | rfl <;> decide) h30 k e50 e51 (hRl.2.2.2.2.2.2.1 (lsA_pos hc)) (fun s4 hO4 c1 c2 => ?_)
          have hO5 : Off (k1 :: clsK) s s4 := (hOs.mono (by simp)).trans ((hO3.mono (by simp)).trans (hO4.mono (by simp)))
          have hOk : s3.1 k1 = s.1 k1 := by rw [(hO3.1 k1 (by rcases hk with rfl | rfl <;> decide)).1, (hOs.1 k1 (by rcases hk with rfl | rfl <;> decide)).1]
          have j47 : s4.1 47 = s.1 47 := by rw [(hO4.1 47 (by rcases hk with rfl | rfl <;> decide)).1, (hO3.1 47 (by decide)).1, (hOs.1 47 (by decide)).1]
          have j49 : s4.1 49 = s.1 49 := by rw [(hO4.1 49 (by rcases hk with rfl | rfl <;> decide)).1, (hO3.1 49 (by decide)).1, (hOs.1 49 (by decide)).1]
          have hz4 : ∀ j, j < N → U j = false → s4.1 k1 j = -1 := fun j hj hj2 => by
            have hpj : p j = false := by
              cases e : p j
              · rfl
              · rw [hpd] at e; rw [rc_U hu e] at hj2; cases hj2
            rw [c2 j hj hpj, hOk]; exact hZ j hj hj2
          refine ih (i + 1) _ f s4 (by omega) (hO.trans hO5) (by rw [(hO4.1 56 (by rcases hk with rfl | rfl <;> decide)).1]; exact k10) (j47.trans g47) (j49.trans g49) ?_ hz4 hR2
          refine hK.step hsy hiN hu hl (fun j hj hpj => ?_) (fun j hj hpj => ?_)
          · rw [← hpd] at hpj ⊢
            rw [c1 j hj hpj, amH, hc2]
            rfl
          · rw [← hpd] at hpj
            rw [c2 j hj hpj, hOk]
      · have hp := ts_nt hp
        rw [amF, hp, if_neg (by decide)] at hR2
        refine bq_f ?_ (ih (i + 1) v f s (by omega) hO g10 g47 g49 (hK.skip hsy hiN hp rfl) hZ hR2)
        unfold numP
        split
        · rename_i h
          have hli := (lst1_le (U := U) (hg := hgP wt ti) hiN).2.1
          rw [h.1, Bool.true_and, decide_eq_false_iff_not] at hp
          rw [nI_eq (by omega) (by omega)]
          exact hp
        · exact fun w => m1_nI (by omega) w.symm
  exact ⟨N + 1, loop N 0 (lN 0) false t2 (by omega) hO3 i10 i47 i49 (fun _ j hj hu hl => by omega) (fun j hj _ => by rw [hfl j, hlay]; exact if_pos (by show _ < 30; omega)) hRes⟩
end
