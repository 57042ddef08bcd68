/-! all, take, without -/
theorem amF_le {most N : Nat} {U : Nat → Bool} {wt : Nat → Nat → Int32} {ti ap : Nat → Nat → Bool} {w : Int64} : ∀ (m i : Nat) (v : Int64) (f : Bool), amF most N U wt ti ap m i v f = some (w, false) → f = false ∧ ∀ q, i ≤ q → q < i + m → (U q && decide (lst1 N U (hgP wt ti) q = q)) = true → fa_cnt (rc N U (hgP wt ti) q) N ≤ 10
  | 0, i, v, f, h => by
    rw [amF, Option.some.injEq, Prod.mk.injEq] at h
    exact ⟨h.2, fun q h1 h2 => by omega⟩
  | m + 1, i, v, f, h => by
    rw [amF] at h
    by_cases hp : (U i && decide (lst1 N U (hgP wt ti) i = i)) = true
    · rw [if_pos hp] at h
      by_cases hc : 10 < fa_cnt (rc N U (hgP wt ti) i) N
      · rw [if_pos hc] at h
        have := (amF_le m (i + 1) v true h).1
        cases this
      · rw [if_neg hc] at h
        cases e : amM most N wt ti ap (rc N U (hgP wt ti) i) with
        | none => rw [e] at h; cases h
        | some c =>
          rw [e] at h
          obtain ⟨i1, i2⟩ := amF_le m (i + 1) _ f h
          refine ⟨i1, fun q h1 h2 hq => ?_⟩
          by_cases z : q = i
          · rw [z]; omega
          · exact i2 q (by omega) (by omega) hq
    · rw [if_neg hp] at h
      obtain ⟨i1, i2⟩ := amF_le m (i + 1) v f h
      refine ⟨i1, fun q h1 h2 hq => ?_⟩
      by_cases z : q = i
      · rw [z] at hq; exact absurd hq hp
      · exact i2 q (by omega) (by omega) hq
theorem amV_neg {r : Option (Int64 × Bool)} (h : ¬ amV r < lN 0) : ∃ v, r = some (v, false) := by
  cases r with
  | none => exact absurd (show ((-1 : Int64) < lN 0) by decide) h
  | some y =>
    obtain ⟨v, f⟩ := y
    cases f
    · exact ⟨v, rfl⟩
    · exact absurd (show ((-2 : Int64) < lN 0) by decide) h
/-- the whole listing's heaps: first members, and none after -/
theorem amH_ok {most N : Nat} {U : Nat → Bool} {wt : Nat → Nat → Int32} {ti ap : Nat → Nat → Bool} {w : Int64} (hsy : ∀ a c, a < N → c < N → hgP wt ti a c = hgP wt ti c a) (h : amF most N U wt ti ap N 0 (lN 0) false = some (w, false)) {j : Nat} (hj : j < N) (hu : U j = true) :
    let g := fun j => amH most N wt ti ap (rc N U (hgP wt ti) (lst1 N U (hgP wt ti) j)) j
    g j ≤ j ∧ U (g j) = true ∧ g (g j) = g j := by
  intro g
  have hl := lst1_le (U := U) (hg := hgP wt ti) hj
  have hul : U (lst1 N U (hgP wt ti) j) = true := rc_U hu hl.2.2
  have hll : lst1 N U (hgP wt ti) (lst1 N U (hgP wt ti) j) = lst1 N U (hgP wt ti) j := by rw [lst1_eq hsy hl.2.2 hj hu]
  have h10 := (amF_le N 0 _ _ h).2 (lst1 N U (hgP wt ti) j) (by omega) (by omega) (by rw [hul, hll, decide_eq_true rfl]; rfl)
  obtain ⟨p, hp⟩ : ∃ p, p = rc N U (hgP wt ti) (lst1 N U (hgP wt ti) j) := ⟨_, rfl⟩
  have hpj : p j = true := by rw [hp]; exact (am_in hsy hl.2.1 hul hll hj hu).mpr rfl
  rw [← hp] at h10
  obtain ⟨ch, hch⟩ : ∃ ch, ch = (lsA (fa_cnt p N) (rmM most) (plW wt p N) (plW ap p N) (plW ti p N) ((amM most N wt ti ap p).getD 0)).2.2.2.1 := ⟨_, rfl⟩
  have eg : ∀ k, amH most N wt ti ap p k = memP p N (lp 0 ch (ch (fa_cnt p k))) := fun k => by rw [hch]; rfl
  have hlt := fa_cnt_ltn (n := N) hj hpj
  obtain ⟨l1, l2, l3, l4⟩ := lp_ex (s := 0) (i := fa_cnt p j + 1) (v := ch (fa_cnt p j)) (a := ch) (by omega) ⟨_, Nat.zero_le _, by omega, rfl⟩
  obtain ⟨L, hL⟩ : ∃ L, L = lp 0 ch (ch (fa_cnt p j)) := ⟨_, rfl⟩
  rw [← hL] at l2 l3
  obtain ⟨m1, m2, m3⟩ := memP_in (p := p) (N := N) (i := L) (by omega)
  have gj : g j = memP p N L := by show amH most N wt ti ap (rc N U (hgP wt ti) (lst1 N U (hgP wt ti) j)) j = _; rw [← hp, eg, hL]
  have hum : U (memP p N L) = true := rc_U hul (by rw [← hp]; exact m2)
  have hlm : lst1 N U (hgP wt ti) (memP p N L) = lst1 N U (hgP wt ti) j := (am_in hsy hl.2.1 hul hll m1 hum).mp (by rw [← hp]; exact m2)
  have gg : g (memP p N L) = memP p N L := by
    show amH most N wt ti ap (rc N U (hgP wt ti) (lst1 N U (hgP wt ti) (memP p N L))) (memP p N L) = _
    rw [hlm, ← hp, eg, m3, l3, ← hL]
  refine ⟨?_, by rw [gj]; exact hum, by rw [gj, gg]⟩
  rw [gj]
  by_cases z : memP p N L ≤ j
  · exact z
  · exfalso
    have := fa_cnt_ltn (p := p) (j := j) (n := memP p N L) (by omega) hpj
    omega
theorem op_all {b : Bool} {σ : gSt} (hI : Inv b σ) : OKM (fun Q s => W_X11_all Q s) W_X12_all σ := by
  obtain ⟨N, bk, nm, td, yr, fa, most, wt, nv, ti, ap, h, hX⟩ := hI.ctx
  obtain ⟨-, h30, hEn, hN, hm, hh, hS, hC, hM⟩ := hX
  unfold OKM W_X11_all
  refine ⟨_, fun o l => s_everyone hI.1 N h30 hEn.1, ?_⟩
  refine p_solveAmong hI.1 hEn h30 hm.2.2 hm.2.1 hC hS hI.h10 (.inl rfl) (fun j hj => of_decide_eq_true hj) (bt_every N h30) (fun t hO k10 h63 _ => fI_i ?_)
  have f1 : Fr (56 :: scrC) scrJ σ (sI t 65 0 (nI 0)) := ((Fr.of (js := []) hO (by decide)).mono (ks' := 56 :: scrC) (js' := scrJ) (by decide) (by simp)).f (by decide)
  refine p_everyone (N := N) ((f1.2.1 1 (by decide)).1.trans hN.1) h30 (fun Q q => hM _ Q (f1.mono (by decide) (by decide)) q) (fun t2 hO2 hw h103 => ?_)
  have f2 : Fr (56 :: scrC) scrJ σ t2 := f1.trans ((Fr.of (js := []) hO2 (by decide)).mono (by decide) (by simp))
  refine p_findAll (U := fun j => decide (j < N)) ((f2.2.1 1 (by decide)).1.trans hN.1) h30 hm.2.2 ((f2.2.1 41 (by decide)).1.trans hm.1) hS hw (fun j hj => by rw [h103 j hj, decide_eq_true hj]) (.inl rfl) (fun t3 f3 h111 => ⟨rfl, b, ?_⟩)
  refine hI.scr5 (f2.trans (f3.mono (by decide) (by decide))) ?_
  rw [(f3.1 56 (by decide) (by decide)).1, (hO2.1 56 (by decide)).1]
  exact k10
