theorem p_isHeapM {s : gSt} {N : Nat} (hN : s.1 65 1 = nI N) (h30 : N ≤ 30) {bk : Nat → Nat} (h66 : ∀ i, i < N → s.1 66 i = nI (bk i) ∧ bk i < 8) {k : Nat} (hk : k < 8) {U : Nat → Bool} (hU : ∀ i, U i = (decide (i < N) && decide (¬ bk i = k))) {g1 g2 : Nat → Nat} (h1 : ∀ j, j < N → g1 j ≤ j) (h2 : ∀ j, j < N → U j = true → g2 j ≤ j) (h111 : ∀ j, j < N → s.1 111 j = nI (g1 j)) (h112 : ∀ j, j < N → U j = true → s.1 112 j = nI (g2 j)) {e : Nat} (he : e < N) {Q : Int32 → Prop} (qy : (∀ k, k < N → U k = true → (g2 k = e ↔ g1 k = g1 e)) → Q (nI 1)) (qn : ∀ k, k < N → U k = true → ¬ (g2 k = e ↔ g1 k = g1 e) → Q (nI 0)) : W_X12_isHeap (nI e) (nI k) Q s := by
  have loop : ∀ (m i : Nat), i + m = N → (∀ k, k < i → U k = true → (g2 k = e ↔ g1 k = g1 e)) → L_X12_isHeap_2 Q (nI e) (nI k) s (Q (nI 1)) (m + 1) (nI i) := by
    intro m
    induction m with
    | zero =>
      intro i hi hd
      obtain rfl : i = N := by omega
      rw [L_X12_isHeap_2, hN]
      exact bq_t (nI_le (Nat.le_refl _) (by omega)) (qy hd)
    | succ m ih =>
      intro i hi hd
      have hiN : i < N := by omega
      rw [L_X12_isHeap_2, hN]
      refine bq_f (nI_ge (by omega) (by omega)) (rI_i (by omega) ?_)
      obtain ⟨b1, b2⟩ := h66 i hiN
      rw [b1, nI_add]
      have nx : (U i = true → (g2 i = e ↔ g1 i = g1 e)) → L_X12_isHeap_2 Q (nI e) (nI k) s (Q (nI 1)) (m + 1) (nI (i + 1)) := fun w => ih (i + 1) (by omega) (fun k2 hk2 hu => by
        by_cases z : k2 = i
        · rw [z] at hu ⊢; exact w hu
        · exact hd k2 (by omega) hu)
      refine br_eq (by omega) (by omega) (fun z => nx (fun w => ?_)) (fun z => rI_i (by omega) ?_)
      · rw [hU, z, decide_eq_false (fun y : ¬ k = k => y rfl), Bool.and_false] at w; cases w
      · have hu : U i = true := by rw [hU, decide_eq_true hiN, decide_eq_true z]; rfl
        have a2 := h2 i hiN hu
        have a1 := h1 i hiN
        have ae := h1 e he
        rw [h112 i hiN hu]
        intro J9 hJ9
        have step : ∀ b : Bool, (b = true ↔ g2 i = e) → J9 (zI b) := fun b hb => by
          refine hJ9 _ (rI_i (by omega) (rI_i (by omega) ?_))
          rw [h111 i hiN, h111 e he]
          intro J13 hJ13
          refine br_eq (by omega) (by omega) (fun y => hJ13 _ ?_) (fun y => hJ13 _ ?_)
          · cases b
            · refine bq_f (by decide) (qn i hiN hu (fun w => ?_))
              have := hb.mpr (w.mpr y)
              cases this
            · exact bq_t rfl (nx (fun _ => ⟨fun _ => y, fun _ => hb.mp rfl⟩))
          · cases b
            · exact bq_t rfl (nx (fun _ => ⟨fun w => (by have := hb.mpr w; cases this), fun w => absurd w y⟩))
            · exact bq_f (by decide) (qn i hiN hu (fun w => y (w.mp (hb.mp rfl))))
        exact br_eq (by omega) (by omega) (fun y => step true ⟨fun _ => y, fun _ => rfl⟩) (fun y => step false ⟨fun w => (by cases w), fun w => absurd w y⟩)
  unfold W_X12_isHeap
  exact ⟨N + 1, loop N 0 (by omega) (fun k hk => by omega)⟩
theorem p_standsM {s : gSt} {N : Nat} (hN : s.1 65 1 = nI N) (h30 : N ≤ 30) {bk : Nat → Nat} (h66 : ∀ i, i < N → s.1 66 i = nI (bk i) ∧ bk i < 8) {k : Nat} (hk : k < 8) {U : Nat → Bool} (hU : ∀ i, U i = (decide (i < N) && decide (¬ bk i = k))) {g1 g2 : Nat → Nat} (h1 : ∀ j, j < N → g1 j ≤ j) (h2 : ∀ j, j < N → U j = true → g2 j ≤ j) (h111 : ∀ j, j < N → s.1 111 j = nI (g1 j)) (h112 : ∀ j, j < N → U j = true → s.1 112 j = nI (g2 j)) {Q : Int32 → gSt → Prop} {K : Int32 → Prop} (q : K (nI (fa_cnt (sdR N U g1 g2) N))) : ∃ m, L_X12_stands_69 Q (nI k) s K m (nI 0) (nI 0) := by
  have loop : ∀ (m i : Nat), i + m = N → L_X12_stands_69 Q (nI k) s K (m + 1) (nI (fa_cnt (sdR N U g1 g2) i)) (nI i) := by
    intro m
    induction m with
    | zero =>
      intro i hi
      obtain rfl : i = N := by omega
      rw [L_X12_stands_69, hN]
      exact bq_t (nI_le (Nat.le_refl _) (by omega)) q
    | succ m ih =>
      intro i hi
      have hiN : i < N := by omega
      rw [L_X12_stands_69, hN]
      refine bq_f (nI_ge (by omega) (by omega)) (rI_i (by omega) ?_)
      obtain ⟨b1, b2⟩ := h66 i hiN
      have nx := ih (i + 1) (by omega)
      rw [cnt_s] at nx
      rw [b1, nI_add]
      have no : ¬ (U i = true ∧ g2 i = i ∧ ∀ k, k < N → U k = true → (g2 k = i ↔ g1 k = g1 i)) → L_X12_stands_69 Q (nI k) s K (m + 1) (nI (fa_cnt (sdR N U g1 g2) i)) (nI (i + 1)) := fun w => by
        rw [show sdR N U g1 g2 i = false from decide_eq_false w, if_neg (by decide)] at nx
        exact nx
      refine br_eq (by omega) (by omega) (fun z => no (fun w => ?_)) (fun z => rI_i (by omega) ?_)
      · have w := w.1
        rw [hU, z, decide_eq_false (fun y : ¬ k = k => y rfl), Bool.and_false] at w; cases w
      · have hu : U i = true := by rw [hU, decide_eq_true hiN, decide_eq_true z]; rfl
        have a2 := h2 i hiN hu
        rw [h112 i hiN hu]
        refine br_eq (by omega) (by omega) (fun y => ?_) (fun y => no (fun w => y w.2.1))
        refine p_isHeapM hN h30 h66 hk hU h1 h2 h111 h112 hiN (fun w => bq_f (by decide) ?_) (fun k2 hk2 hu2 w => bq_t rfl (no (fun x => w (x.2.2 k2 hk2 hu2))))
        rw [show sdR N U g1 g2 i = true from decide_eq_true ⟨hu, y, w⟩, if_pos rfl] at nx
        rw [nI_add]
        exact nx
  exact ⟨N + 1, loop N 0 (by omega)⟩
theorem op_stands {b : Bool} {σ : gSt} (hI : Inv b σ) (p : Int32) : OKI (fun Q QX s => W_X11_stands p Q QX s) (W_X12_stands p) cdA σ := by
  obtain ⟨N, bk, nm, td, yr, fa, most, wt, nv, ti, ap, h, hX⟩ := hI.ctx
  obtain ⟨-, h30, hEn, hN, hm, hh, hS, hC, hM⟩ := hX
  have hsy := hgP_sy hS
  unfold OKI W_X11_stands
  refine q_within ?_
  by_cases hv : (!decide (p < nI 0) && !decide (nI 7 < p)) = true
  · rw [hv]
    obtain ⟨k, hk, rfl⟩ := within_j (by decide) hv
    obtain ⟨U, hU⟩ : ∃ U : Nat → Bool, ∀ i, U i = (decide (i < N) && decide (¬ bk i = k)) := ⟨fun i => decide (i < N) && decide (¬ bk i = k), fun _ => rfl⟩
    have h66 : ∀ i, i < N → σ.1 66 i = nI (bk i) ∧ bk i < 8 := fun i hi => ⟨by rw [(hI.traits hEn.1 h30 hi).1]; exact (hEn.2.2 i hi).1, (hEn.2.2 i hi).2.2.2.2.2.1⟩
    have hUN : ∀ j, U j = true → j < N := fun j hj => by rw [hU, Bool.and_eq_true] at hj; exact of_decide_eq_true hj.1
    obtain ⟨V1, hV1⟩ : ∃ V, V = amF most N (fun j => decide (j < N)) wt ti ap N 0 (lN 0) false := ⟨_, rfl⟩
    obtain ⟨V2, hV2⟩ : ∃ V, V = amF most N U wt ti ap N 0 (lN 0) false := ⟨_, rfl⟩
    obtain ⟨g1, hg1⟩ : ∃ g : Nat → Nat, g = fun j => amH most N wt ti ap (rc N (fun j => decide (j < N)) (hgP wt ti) (lst1 N (fun j => decide (j < N)) (hgP wt ti) j)) j := ⟨_, rfl⟩
    obtain ⟨g2, hg2⟩ : ∃ g : Nat → Nat, g = fun j => amH most N wt ti ap (rc N U (hgP wt ti) (lst1 N U (hgP wt ti) j)) j := ⟨_, rfl⟩
    have o1 : ¬ amV V1 < lN 0 → ∃ v, V1 = some (v, false) ∧ ∀ j, j < N → g1 j ≤ j := fun z => by
      obtain ⟨v, hv⟩ := amV_neg z
      refine ⟨v, hv, fun j hj => ?_⟩
      rw [hg1]
      exact (amH_ok (U := fun j => decide (j < N)) (w := v) hsy (by rw [← hV1]; exact hv) hj (decide_eq_true hj)).1
    have o2 : ¬ amV V2 < lN 0 → ∃ v, V2 = some (v, false) ∧ ∀ j, j < N → U j = true → g2 j ≤ j := fun z => by
      obtain ⟨v, hv⟩ := amV_neg z
      refine ⟨v, hv, fun j hj hu => ?_⟩
      rw [hg2]
      exact (amH_ok (U := U) (w := v) hsy (by rw [← hV2]; exact hv) hj hu).1
    have model : ∀ (t : gSt) (v : Int32), Fr (56 :: scrC) scrJ σ t → t.1 56 10 = nI 0 → (amV V1 < lN 0 → v = l2i (amV V1)) → (¬ amV V1 < lN 0 → amV V2 < lN 0 → v = l2i (amV V2)) → (¬ amV V1 < lN 0 → ¬ amV V2 < lN 0 → v = nI (fa_cnt (sdR N U g1 g2) N)) → ∀ s2, s2 = sL t 115 0 (i2l v) → W_X12_stands (nI k) (fun w t => fin (nI 0) (i2l w) t) s2 := by
      rintro t v ft k10 v1 v2 v3 s2 rfl
      have hs : OutM σ (sI (sL t 115 0 (i2l v)) 65 0 (nI 0)) (i2l v) := ⟨(ft.l (by decide) (by decide)).f (by decide), k10, rfl, by rw [sI_get2]; exact sL_out⟩
      refine fI_i (p_within ?_)
      rw [hv]
      refine p_may_ok (by decide) hs.2.2.1 (bq_f (by decide) ?_)
      refine p_everyone (N := N) ((hs.1.2.1 1 (by decide)).1.trans hN.1) h30 (fun Q q => hM _ Q (hs.1.mono (by decide) (by decide)) q) (fun t2 hO2 hw h103 => ?_)
      have hs2 := hs.go (Fr.of (js := []) hO2 (by decide)) (by decide) (by decide)
      refine p_findAll (U := fun j => decide (j < N)) ((hs2.1.2.1 1 (by decide)).1.trans hN.1) h30 hm.2.2 ((hs2.1.2.1 41 (by decide)).1.trans hm.1) hS hw (fun j hj => by rw [h103 j hj, decide_eq_true hj]) (.inl rfl) (fun t3 f3 h111 => ?_)
      rw [← hV1] at h111 ⊢
      have hs3 := hs2.go f3 (by decide) (by decide)
      refine ⟨fun z => hs3.fin hI (by rw [v1 z]), fun z => ?_⟩
      obtain ⟨w1, e1, d1⟩ := o1 z
      refine p_findWithout ((hs3.1.2.1 1 (by decide)).1.trans hN.1) h30 hm.2.2 ((hs3.1.2.1 41 (by decide)).1.trans hm.1) hS (fun Q q => hM _ Q (hs3.1.mono (by decide) (by decide)) q) (bk := bk) (fun i hi => by rw [(hs3.1.1 66 (by decide) (by decide)).1]; exact h66 i hi) hk hU (fun t4 f4 h112 => ?_)
      rw [← hV2] at h112 ⊢
      have hs4 := hs3.go f4 (by decide) (by decide)
      refine ⟨fun y => hs4.fin hI (by rw [v2 z y]), fun y => ?_⟩
      obtain ⟨w2, e2, d2⟩ := o2 y
      refine p_standsM (g1 := g1) (g2 := g2) ((hs4.1.2.1 1 (by decide)).1.trans hN.1) h30 (fun i hi => by rw [(hs4.1.1 66 (by decide) (by decide)).1]; exact h66 i hi) hk hU d1 d2 (fun j hj => ?_) (fun j hj hu => ?_) (hs4.fin hI (by rw [v3 z y]))
      · rw [(f4.1 111 (by decide) (by decide)).1, h111 w1 e1 j hj (decide_eq_true hj), hg1]
      · rw [h112 w2 e2 j hj hu, hg2]
    refine q_refuse (by decide) ⟨_, fun o l => s_everyone hI.1 N h30 hEn.1, ?_⟩
    refine p_solveAmong hI.1 hEn h30 hm.2.2 hm.2.1 hC hS hI.h10 (.inl rfl) (fun j hj => of_decide_eq_true hj) (bt_every N h30) (fun t hO k10 h63 _ => ?_)
    rw [← hV1] at h63 ⊢
    have ft : Fr (56 :: scrC) scrJ σ t := ((Fr.of (js := []) hO (by decide)).mono (ks' := 56 :: scrC) (js' := scrJ) (by decide) (by simp))
    refine ⟨fun z => model t _ ft k10 (fun _ => rfl) (fun w => absurd z w) (fun w => absurd z w), fun z => ?_⟩
    obtain ⟨w1, e1, d1⟩ := o1 z
    refine ⟨_, fun o l => s_notOfBook (hO.2.trans hI.1) (hEn.off hO (by decide) (by decide)) k hk, ?_⟩
    have hA : ∀ j, j < 32 → bt (orBits (fun i => decide (¬ bk i = k)) N) j = U j := fun j hj => by rw [hU]; exact bt_orBits (fun i => decide (¬ bk i = k)) N (by omega) j hj
    refine p_solveAmong (U := U) (hO.2.trans hI.1) (hEn.off hO (by decide) (by decide)) h30 hm.2.2 (by rw [(hO.1 30 (by decide)).1]; exact hm.2.1) (hC.off hO (by decide)) hS k10 (.inr rfl) hUN hA (fun t2 hO2 k10b h64 h64n => ?_)
    rw [← hV2] at h64 ⊢
    have ft2 : Fr (56 :: scrC) scrJ σ t2 := ft.trans ((Fr.of (js := []) hO2 (by decide)).mono (ks' := 56 :: scrC) (js' := scrJ) (by decide) (by simp))
    refine ⟨fun y => model t2 _ ft2 k10b (fun w => absurd w z) (fun _ _ => rfl) (fun _ w => absurd y w), fun y => ?_⟩
    obtain ⟨w2, e2, d2⟩ := o2 y
    refine p_standsC (g1 := g1) (g2 := g2) (U := U) (by rw [(hO2.1 1 (by decide)).1, (hO.1 1 (by decide)).1]; exact hEn.1) h30 d1 d2 hUN hA (fun j hj => ?_) (fun j hj hu => ?_) h64n (model t2 _ ft2 k10b (fun w => absurd w z) (fun _ w => absurd w y) (fun _ _ => by rw [sd_same d1 d2]))
    · rw [(hO2.1 63 (by decide)).1, h63 w1 e1 j hj (decide_eq_true hj), hg1]
    · rw [h64 w2 e2 j hj hu, hg2]
  · have hv := ts_nt hv
    rw [hv]
    refine q_refuse_no rfl ⟨nI 1, ⟨rfl, rfl⟩, fI_i (p_within ?_)⟩
    rw [hv]
    exact p_may_bad rfl (by decide) rfl (bq_t rfl (fin.no hI (.inl rfl)))
