/-! take, without -/
theorem p_findWithout {s : gSt} {N most : Nat} {wt : Nat → Nat → Int32} {nv ti ap : Nat → Nat → Bool} (hN : s.1 65 1 = nI N) (h30 : N ≤ 30) (hm30 : most ≤ 30) (hmo : s.1 65 41 = nI most) (hS : pwS N wt nv ti ap) (hW : ∀ Q : gSt → Prop, (∀ t, Off [86, 90, 91, 92, 93] s t → pwM t N wt nv ti ap → Q t) → W_X12_weighs Q s) {bk : Nat → Nat} (h66 : ∀ i, i < N → s.1 66 i = nI (bk i) ∧ bk i < 8) {k : Nat} (hk : k < 8) {U : Nat → Bool} (hU : ∀ i, U i = (decide (i < N) && decide (¬ bk i = k))) {Q : Int64 → gSt → Prop}
    (q : ∀ t, Fr (112 :: refK) refJ s t → (∀ v, amF most N U wt ti ap N 0 (lN 0) false = some (v, false) → ∀ j, j < N → U j = true → t.1 112 j = nI (amH most N wt ti ap (rc N U (hgP wt ti) (lst1 N U (hgP wt ti) j)) j)) → Q (amV (amF most N U wt ti ap N 0 (lN 0) false)) t) : W_X12_findWithout (nI k) 112 Q s := by
  unfold W_X12_findWithout
  refine hW _ (fun t hO hw => ⟨N + 1, ?_⟩)
  have fO : Fr [86, 90, 91, 92, 93, 103] [] s t := (Fr.of (js := []) hO (by decide)).mono (by simp) (by simp)
  have loop : ∀ (m i : Nat) (u : gSt), i + m = N → Off [103] t u → (∀ j, j < i → u.1 103 j = zI (U j)) → L_X12_findWithout_6 112 Q (nI k) (fun s13 => W_X12_findAll 112 (fun x14 s15 => Q x14 s15) s13) (m + 1) (nI i) u := by
    intro m
    induction m with
    | zero =>
      intro i u hi hu h103
      obtain rfl : i = N := by omega
      have f1 : Fr [86, 90, 91, 92, 93, 103] [] s u := fO.trans ((Fr.of (js := []) hu (by decide)).mono (by simp) (by simp))
      rw [L_X12_findWithout_6, (f1.2.1 1 (by decide)).1, hN]
      refine bq_t (nI_le (Nat.le_refl _) (by omega)) (p_findAll (U := U) ((f1.2.1 1 (by decide)).1.trans hN) h30 hm30 ((f1.2.1 41 (by decide)).1.trans hmo) hS (hw.off hu (by decide)) h103 (.inr rfl) (fun t3 f3 h112 => q t3 ((f1.mono (by simp) (by simp)).trans (f3.mono (by simp) (by simp))) h112))
    | succ m ih =>
      intro i u hi hu h103
      have hiN : i < N := by omega
      have f1 : Fr [86, 90, 91, 92, 93, 103] [] s u := fO.trans ((Fr.of (js := []) hu (by decide)).mono (by simp) (by simp))
      obtain ⟨b1, b2⟩ := h66 i hiN
      rw [L_X12_findWithout_6, (f1.2.1 1 (by decide)).1, hN]
      refine bq_f (nI_ge (by omega) (by omega)) (rI_i (by omega) ?_)
      rw [(f1.1 66 (by decide) (by decide)).1, b1, nI_add]
      have nx : ∀ x, x = zI (U i) → L_X12_findWithout_6 112 Q (nI k) (fun s13 => W_X12_findAll 112 (fun x14 s15 => Q x14 s15) s13) (m + 1) (nI (i + 1)) (sI u 103 i x) := fun x hx => by
        refine ih (i + 1) _ (by omega) (hu.i (by simp)) (fun j hj => ?_)
        rw [sI_get]
        by_cases z : j = i
        · rw [if_pos ⟨rfl, z⟩, hx, z]
        · rw [if_neg (fun w => z w.2)]; exact h103 j (by omega)
      intro J hJ
      refine br_eq (by omega) (by omega) (fun z => hJ _ (wZ_e (.inl rfl) rfl (by omega) (nx _ ?_))) (fun z => hJ _ (wZ_e (.inr rfl) rfl (by omega) (nx _ ?_)))
      · rw [hU, z, decide_eq_false (fun w : ¬ k = k => w rfl), Bool.and_false]; rfl
      · rw [hU, decide_eq_true hiN, decide_eq_true z]; rfl
  exact loop N 0 t (by omega) Off.rf (fun j hj => by omega)
theorem op_take {b : Bool} {σ : gSt} (hI : Inv b σ) : OKN (fun Q s => W_X11_take Q s) W_X12_take σ := by
  obtain ⟨N, bk, nm, td, yr, fa, most, wt, nv, ti, ap, h, hX⟩ := hI.ctx
  obtain ⟨-, h30, hEn, hN, hm, hh, hS, hC, hM⟩ := hX
  have hsy := hgP_sy hS
  obtain ⟨V, hV⟩ : ∃ V, V = amF most N (fun j => decide (j < N)) wt ti ap N 0 (lN 0) false := ⟨_, rfl⟩
  have model : ∀ (t : gSt), Fr (34 :: 56 :: 71 :: scrC) scrJ σ t → ∀ Q : Int32 → gSt → Prop, (∀ s, Fr (34 :: 56 :: 71 :: scrC) scrJ σ s → Fr scrC scrJ t s → (∀ v, V = some (v, false) → ∀ j, j < N → s.1 111 j = nI (amH most N wt ti ap (rc N (fun j => decide (j < N)) (hgP wt ti) (lst1 N (fun j => decide (j < N)) (hgP wt ti) j)) j)) → ((amV V < lN 0 → Q (l2i (amV V)) s) ∧ (¬ amV V < lN 0 → ∃ m29, L_X12_take_29 Q (fun s13 => Q (nI 1) s13) m29 (nI 0) s))) → W_X12_take Q t := by
    intro t ft Q q
    refine fI_i ?_
    have g1 : Fr scrC scrJ t (sI t 65 0 (nI 0)) := Fr.rf.f (by decide)
    have f1 := ft.trans (g1.mono (ks' := 34 :: 56 :: 71 :: scrC) (js' := scrJ) (by decide) (by simp))
    refine p_everyone (N := N) ((f1.2.1 1 (by decide)).1.trans hN.1) h30 (fun Q q => hM _ Q (f1.mono (by decide) (by decide)) q) (fun t2 hO2 hw h103 => ?_)
    have g2 : Fr scrC scrJ t t2 := g1.trans ((Fr.of (js := []) hO2 (by decide)).mono (by decide) (by simp))
    have f2 := ft.trans (g2.mono (ks' := 34 :: 56 :: 71 :: scrC) (js' := scrJ) (by decide) (by simp))
    refine p_findAll (U := fun j => decide (j < N)) ((f2.2.1 1 (by decide)).1.trans hN.1) h30 hm.2.2 ((f2.2.1 41 (by decide)).1.trans hm.1) hS hw (fun j hj => by rw [h103 j hj, decide_eq_true hj]) (.inl rfl) (fun t3 f3 h111 => ?_)
    rw [← hV] at h111 ⊢
    exact q t3 (f2.trans (f3.mono (by decide) (by decide))) (g2.trans (f3.mono (by decide) (by decide))) (fun v hv j hj => h111 v hv j hj (decide_eq_true hj))
  unfold OKN W_X11_take
  refine ⟨_, fun o l => s_everyone hI.1 N h30 hEn.1, ?_⟩
  refine p_solveAmong hI.1 hEn h30 hm.2.2 hm.2.1 hC hS hI.h10 (.inl rfl) (fun j hj => of_decide_eq_true hj) (bt_every N h30) (fun t hO k10 h63 _ => ?_)
  rw [← hV] at h63 ⊢
  have ft : Fr (56 :: scrC) scrJ σ t := ((Fr.of (js := []) hO (by decide)).mono (ks' := 56 :: scrC) (js' := scrJ) (by decide) (by simp))
  have hIt : Inv b t := hI.scr5 ft k10
  refine ⟨fun z => model t (ft.mono (by decide) (by simp)) _ (fun s fs gs _ => ⟨fun _ => ⟨rfl, b, hIt.scr gs⟩, fun w => absurd z w⟩), fun z => ?_⟩
  obtain ⟨v, hv⟩ := amV_neg z
  refine ⟨_, fun o l => s_become (ft.2.2.trans hI.1) h30 (by rw [(ft.1 33 (by decide) (by decide)).1]; exact hN.2), fun r s hp => ?_⟩
  obtain ⟨rfl, hOs, hs34⟩ := hp
  refine ⟨rfl, hOs.2, ?_⟩
  have gs0 : Fr (34 :: 71 :: scrC) scrJ t s := (Fr.of (js := []) hOs (by decide)).mono (by decide) (by simp)
  have fs : Fr (34 :: 56 :: 71 :: scrC) scrJ σ s := (ft.mono (by decide) (by simp)).trans (gs0.mono (by decide) (by simp))
  refine model s fs _ (fun s3 f3 g3 h111 => ⟨fun w => absurd w z, fun _ => ⟨N + 1, ?_⟩⟩)
  obtain ⟨g, hg⟩ : ∃ g : Nat → Nat, g = fun j => amH most N wt ti ap (rc N (fun j => decide (j < N)) (hgP wt ti) (lst1 N (fun j => decide (j < N)) (hgP wt ti) j)) j := ⟨_, rfl⟩
  have e111 : ∀ j, j < N → s3.1 111 j = nI (g j) := fun j hj => by rw [hg]; exact h111 v hv j hj
  have e34 : ∀ j, j < N → s3.1 34 j = nI (g j) := fun j hj => by rw [(g3.1 34 (by decide) (by decide)).1, hs34 j, if_pos hj, hg]; exact h63 v hv j hj (decide_eq_true hj)
  have hgo : ∀ j, j < N → g j ≤ j ∧ g (g j) = g j := fun j hj => by
    have := amH_ok (U := fun j => decide (j < N)) (w := v) hsy (by rw [← hV]; exact hv) hj (decide_eq_true hj)
    rw [hg]; exact ⟨this.1, this.2.2⟩
  have loop : ∀ (m i : Nat) (u : gSt), i + m = N → Off [71] s3 u → (∀ j, j < i → u.1 71 j = nI (g j)) → L_X12_take_29 (fun w t => nI 1 = w ∧ ∃ b, Inv b t) (fun s13 => nI 1 = nI 1 ∧ ∃ b, Inv b s13) (m + 1) (nI i) u := by
    intro m
    induction m with
    | zero =>
      intro i u hi hu h71
      obtain rfl : i = N := by omega
      rw [L_X12_take_29, (hu.1 65 (by decide)).1, (f3.2.1 1 (by decide)).1, hN.1]
      have fu : Fr (34 :: 71 :: scrC) scrJ t u := gs0.trans ((g3.mono (ks' := 34 :: 71 :: scrC) (js' := scrJ) (by decide) (by simp)).trans ((Fr.of (js := []) hu (by decide)).mono (by decide) (by simp)))
      refine bq_t (nI_le (Nat.le_refl _) (by omega)) ⟨rfl, b, hIt.hand fu ((ft.2.1 1 (by decide)).1.trans hN.1) h30 (g := g) (fun j hj => ⟨?_, h71 j hj, hgo j hj⟩)⟩
      rw [(hu.1 34 (by decide)).1]; exact e34 j hj
    | succ m ih =>
      intro i u hi hu h71
      rw [L_X12_take_29, (hu.1 65 (by decide)).1, (f3.2.1 1 (by decide)).1, hN.1]
      refine bq_f (nI_ge (by omega) (by omega)) (rI_i (by omega) (wI_i (by omega) ?_))
      rw [nI_add, (hu.1 111 (by decide)).1, e111 i (by omega)]
      refine ih (i + 1) _ (by omega) (hu.i (by simp)) (fun j hj => ?_)
      rw [sI_get]
      by_cases z : j = i
      · rw [if_pos ⟨rfl, z⟩, z]
      · rw [if_neg (fun w => z w.2)]; exact h71 j (by omega)
  exact loop N 0 s3 (by omega) Off.rf (fun j hj => by omega)
theorem op_without {b : Bool} {σ : gSt} (hI : Inv b σ) (p : Int32) : OKL (fun Q QX s => W_X11_without p Q QX s) (W_X12_without p) cdA σ := by
  obtain ⟨N, bk, nm, td, yr, fa, most, wt, nv, ti, ap, h, hX⟩ := hI.ctx
  obtain ⟨-, h30, hEn, hN, hm, hh, hS, hC, hM⟩ := hX
  unfold OKL W_X11_without
  refine q_within ?_
  by_cases hv : (!decide (p < nI 0) && !decide (nI 7 < p)) = true
  · rw [hv]
    obtain ⟨k, hk, rfl⟩ := within_j (by decide) hv
    refine q_refuse (by decide) ⟨_, fun o l => s_notOfBook hI.1 hEn k hk, ?_⟩
    obtain ⟨U, hU⟩ : ∃ U : Nat → Bool, ∀ i, U i = (decide (i < N) && decide (¬ bk i = k)) := ⟨fun i => decide (i < N) && decide (¬ bk i = k), fun _ => rfl⟩
    have h66 : ∀ i, i < N → σ.1 66 i = nI (bk i) ∧ bk i < 8 := fun i hi => ⟨by rw [(hI.traits hEn.1 h30 hi).1]; exact (hEn.2.2 i hi).1, (hEn.2.2 i hi).2.2.2.2.2.1⟩
    refine p_solveAmong (U := U) hI.1 hEn h30 hm.2.2 hm.2.1 hC hS hI.h10 (.inr rfl) (fun j hj => ?_) (fun j hj => ?_) (fun t hO k10 h64 _ => ?_)
    · rw [hU, Bool.and_eq_true] at hj; exact of_decide_eq_true hj.1
    · rw [hU]; exact bt_orBits (fun i => decide (¬ bk i = k)) N (by omega) j hj
    rintro s2 rfl
    have hs := OutM.start (v := amV (amF most N U wt ti ap N 0 (lN 0) false)) hO (by decide) (by decide) k10
    refine fI_i (p_within ?_)
    rw [hv]
    refine p_may_ok (by decide) hs.2.2.1 (bq_f (by decide) ?_)
    refine p_findWithout ((hs.1.2.1 1 (by decide)).1.trans hN.1) h30 hm.2.2 ((hs.1.2.1 41 (by decide)).1.trans hm.1) hS (fun Q q => hM _ Q (hs.1.mono (by decide) (by decide)) q) (bk := bk) (fun i hi => by rw [(hs.1.1 66 (by decide) (by decide)).1]; exact h66 i hi) hk hU (fun t3 f3 _ => (hs.go f3 (by decide) (by decide)).fin hI rfl)
  · have hv := ts_nt hv
    rw [hv]
    refine q_refuse_no rfl ⟨nI 1, ⟨rfl, rfl⟩, fI_i (p_within ?_)⟩
    rw [hv]
    exact p_may_bad rfl (by decide) rfl (bq_t rfl (fin.no hI (.inl rfl)))
