/-! marks -/
theorem Inv.newH {b : Bool} {σ t : gSt} (hI : Inv b σ) (f : Fr (33 :: 34 :: 36 :: 37 :: 71 :: 113 :: 114 :: scrC) (88 :: scrJ) σ t) {N : Nat} (hN : σ.1 65 1 = nI N) (h30 : N ≤ 30) {h2 : Nat → Nat} {m2 : Nat} {kz2 : Nat → Nat} {kh2 : Nat → Nat → Nat} (hg : invH t N h2 m2 kz2 kh2) : Inv b t := by
  have hN0 := hN
  obtain ⟨hR, N2, bk, nm, td, yr, fa, C, kind, st, cd, op, num, T, ta, tb, tw, most, ob, span, F, fx, fy, ft, h, m, kz, kh, tp, R, hs, hE, hRu, hT, hL, hP, hH, hD, hG⟩ := hI
  have e : N2 = N := by
    have := hE.1.2.1
    rw [hE.2.1.1] at hN0
    exact (nI_eq (by omega) (by omega)).mp hN0
  subst e
  exact ⟨f.2.2.trans hR, N2, bk, nm, td, yr, fa, C, kind, st, cd, op, num, T, ta, tb, tw, most, ob, span, F, fx, fy, ft, h2, m2, kz2, kh2, tp, R, hs, hE.fr f (by decide) (by decide), hRu.fr f (by cases b <;> decide) (by decide), hT.fr f (by decide) (by decide), hL.fr f (by decide) (by decide), hP.fr f (by decide) (by decide), hg, hD.fr f (by decide) (by decide), hG.fr f (by decide) (by decide)⟩

theorem nI_6 {m : Nat} (h : m ≤ 6) : nI m = nI 6 ↔ m = 6 := nI_eq (by omega) (by decide)
theorem p_mark {σ : gSt} {N m : Nat} (h30 : N ≤ 30) (hm : m < 6) (hN : σ.1 65 1 = nI N) (h88 : σ.1 65 88 = nI m) {Q : Int32 → gSt → Prop} {K : gSt → Prop} (hK : ∀ s, Off [114] σ s → (∀ j, s.1 114 j = if m * 30 ≤ j ∧ j < m * 30 + N then σ.1 71 (j - m * 30) else σ.1 114 j) → K s) : ∃ n, L_X12_mark_31 Q K n (nI 0) σ := by
  refine ⟨N + 1, ?_⟩
  have key : ∀ (q i : Nat) (s : gSt), i + q = N → Off [114] σ s → (∀ j, s.1 114 j = if m * 30 ≤ j ∧ j < m * 30 + i then σ.1 71 (j - m * 30) else σ.1 114 j) → L_X12_mark_31 Q K (q + 1) (nI i) s := by
    intro q
    induction q with
    | zero =>
      intro i s hi hO hs
      obtain rfl : i = N := by omega
      rw [L_X12_mark_31, (hO.1 65 (by decide)).1, hN]
      exact bq_t (nI_le (Nat.le_refl _) (by omega)) (hK s hO hs)
    | succ q ih =>
      intro i s hi hO hs
      rw [L_X12_mark_31, (hO.1 65 (by decide)).1, hN, h88]
      refine bq_f (nI_ge (by omega) (by omega)) (rI_i (by omega) ?_)
      rw [(hO.1 71 (by decide)).1]
      refine wI_e (a := 30 * m + i) (by rw [nI_mul, nI_add]) (by omega) ?_
      rw [nI_add]
      refine ih (i + 1) _ (by omega) (hO.i (by simp)) (fun j => ?_)
      rw [sI_get]
      by_cases e : j = 30 * m + i
      · subst e
        rw [if_pos ⟨rfl, rfl⟩, if_pos ⟨by omega, by omega⟩, show 30 * m + i - m * 30 = i by omega]
      · rw [if_neg (fun z => e z.2), hs j]
        by_cases e2 : m * 30 ≤ j ∧ j < m * 30 + i
        · rw [if_pos e2, if_pos ⟨e2.1, by omega⟩]
        · rw [if_neg e2, if_neg (by omega)]
  refine key N 0 σ (by omega) Off.rf (fun j => ?_)
  rw [if_neg (by omega)]
theorem op_mark {b : Bool} {σ : gSt} (hI : Inv b σ) : OKN (fun Q s => W_X11_mark Q s) W_X12_mark σ := by
  have hI0 := hI
  obtain ⟨hR, N, bk, nm, td, yr, fa, C, kind, st, cd, op, num, T, ta, tb, tw, most, ob, span, F, fx, fy, ft, h, m, kz, kh, tp, R, hs, hE, hRu, hT, hL, hP, hH, hD, hG⟩ := hI
  obtain ⟨g1, ⟨g2, g3, g4⟩, g5, g6⟩ := hH
  have h30 := hE.1.2.1
  have hN := hE.2.1.1
  refine ⟨_, fun o l => s_keep hR h30 g1 m g4 g2, fun r s hp => ?_⟩
  obtain ⟨x, rfl, rfl, h6, hlt⟩ := hp
  refine ⟨_, rfl, ?_⟩
  by_cases hm : m < 6
  · obtain ⟨hO, k1, k2, k3, k4⟩ := hlt hm
    refine ⟨hO.2, br_z (fun hf => absurd hm (of_decide_eq_false hf)) (fun _ => ?_)⟩
    rw [k1]
    have f0 : Fr [33, 36, 37] [0] σ (sI s 65 0 (nI 0)) := ((Fr.of (js := []) hO (by decide)).mono (fun _ h => h) (by simp)).f (by simp)
    have e88 : (sI s 65 0 (nI 0)).1 65 88 = nI m := (f0.2.1 88 (by simp)).1.trans g3
    have e1 : (sI s 65 0 (nI 0)).1 65 1 = nI N := (f0.2.1 1 (by simp)).1.trans hN
    refine fI_i (bq_f (by rw [e88, nI_6 g4]; omega) (wI_e e88 hm ?_))
    rw [e1]
    refine p_mark (N := N) (m := m) h30 hm (by exact e1) (by exact e88) (fun t hO2 ht => fI_i ?_)
    have e88t : t.1 65 88 = nI m := by rw [(hO2.1 65 (by decide)).1]; exact e88
    have f2 : Fr (33 :: 34 :: 36 :: 37 :: 71 :: 113 :: 114 :: scrC) (88 :: scrJ) σ (sI t 65 88 (t.1 65 88 + nI 1)) := (((f0.mono (ks' := 33 :: 34 :: 36 :: 37 :: 71 :: 113 :: 114 :: scrC) (js' := 88 :: scrJ) (by decide) (by decide)).i (k := 113) (by decide) (by decide)).trans ((Fr.of (js := []) hO2 (by decide)).mono (by decide) (by decide))).f (by decide)
    refine ⟨?_, b, hI0.newH f2 hN h30 (h2 := h) (m2 := m + 1) (kz2 := fun q => if q = m then N else kz q) (kh2 := fun q => if q = m then h else kh q) ?_⟩
    · rw [sI_get, if_pos ⟨rfl, rfl⟩, e88t, nI_add]
    · have c33 : ∀ j, (sI t 65 88 (t.1 65 88 + nI 1)).1 33 j = s.1 33 j := fun j => congrFun (hO2.1 33 (by decide)).1 j
      have c34 : ∀ j, (sI t 65 88 (t.1 65 88 + nI 1)).1 34 j = σ.1 34 j := fun j => congrFun ((hO2.1 34 (by decide)).1.trans (hO.1 34 (by decide)).1) j
      have c36 : ∀ j, (sI t 65 88 (t.1 65 88 + nI 1)).1 36 j = s.1 36 j := fun j => congrFun (hO2.1 36 (by decide)).1 j
      have c37 : ∀ j, (sI t 65 88 (t.1 65 88 + nI 1)).1 37 j = s.1 37 j := fun j => congrFun (hO2.1 37 (by decide)).1 j
      have c71 : ∀ j, (sI t 65 88 (t.1 65 88 + nI 1)).1 71 j = σ.1 71 j := fun j => congrFun ((hO2.1 71 (by decide)).1.trans (hO.1 71 (by decide)).1) j
      have c113 : ∀ j, (sI t 65 88 (t.1 65 88 + nI 1)).1 113 j = if j = m then nI N else σ.1 113 j := fun j => by
        have : (sI t 65 88 (t.1 65 88 + nI 1)).1 113 j = t.1 113 j := rfl
        rw [this, (hO2.1 113 (by decide)).1, sI_get]
        by_cases e : j = m
        · rw [if_pos ⟨rfl, e⟩, if_pos e]
        · rw [if_neg (fun z => e z.2), if_neg e]; exact congrFun (hO.1 113 (by decide)).1 j
      have c114 : ∀ j, (sI t 65 88 (t.1 65 88 + nI 1)).1 114 j = if m * 30 ≤ j ∧ j < m * 30 + N then σ.1 71 (j - m * 30) else σ.1 114 j := fun j => by
        have : (sI t 65 88 (t.1 65 88 + nI 1)).1 114 j = t.1 114 j := rfl
        rw [this, ht j]
        have a1 : (sI (sI s 65 0 (nI 0)) 113 m (nI N)).1 71 = σ.1 71 := (hO.1 71 (by decide)).1
        have a2 : (sI (sI s 65 0 (nI 0)) 113 m (nI N)).1 114 = σ.1 114 := (hO.1 114 (by decide)).1
        rw [a1, a2]
      refine ⟨by rw [c33, k2 1 (by decide)]; exact g1, ⟨by rw [c33]; exact k1, by rw [sI_get, if_pos ⟨rfl, rfl⟩, e88t, nI_add], by omega⟩, fun i hi => by rw [c34, c71]; exact g5 i hi, fun q hq => ?_⟩
      rw [c37, c113, k4]
      by_cases e : q = m
      · subst e
        rw [if_pos rfl, if_pos rfl]
        simp only [if_true]
        refine ⟨trivial, trivial, Nat.le_refl _, fun i hi => ?_⟩
        rw [c36, c114, k3, if_pos ⟨by omega, by omega⟩, if_pos ⟨by omega, by omega⟩, show q * 30 + i - q * 30 = i by omega]
        exact g5 i hi
      · rw [if_neg e, if_neg e]
        simp only [if_neg e]
        obtain ⟨z1, z2, z3, z4⟩ := g6 q (by omega)
        refine ⟨z1, z2, z3, fun i hi => ?_⟩
        rw [c36, c114, k3, if_neg (by omega), if_neg (by omega)]
        exact z4 i hi
  · obtain rfl : m = 6 := by omega
    obtain rfl := h6 (by omega)
    refine ⟨rfl, br_z (fun _ => ?_) (fun ht => absurd (of_decide_eq_true ht) hm)⟩
    refine fI_i (bq_t ?_ ⟨rfl, b, hI0.t0 _⟩)
    rw [sI_get, if_neg (by simp)]; exact g3
theorem p_back {σ : gSt} {N m z : Nat} (h30 : N ≤ 30) (hm : m < 6) (hN : σ.1 65 1 = nI N) (h88 : σ.1 65 88 = nI m) (hz : σ.1 113 m = nI z) (hzN : z ≤ N) {Q : Int32 → gSt → Prop} {K : gSt → Prop} (hK : ∀ s, Off [71] σ s → (∀ j, j < N → s.1 71 j = if j < z then σ.1 114 (m * 30 + j) else nI j) → K s) : ∃ n, L_X12_back_26 Q K n (nI 0) σ := by
  refine ⟨N + 1, ?_⟩
  have key : ∀ (q i : Nat) (s : gSt), i + q = N → Off [71] σ s → (∀ j, j < i → s.1 71 j = if j < z then σ.1 114 (m * 30 + j) else nI j) → L_X12_back_26 Q K (q + 1) (nI i) s := by
    intro q
    induction q with
    | zero =>
      intro i s hi hO hs
      obtain rfl : i = N := by omega
      rw [L_X12_back_26, (hO.1 65 (by decide)).1, hN]
      exact bq_t (nI_le (Nat.le_refl _) (by omega)) (hK s hO hs)
    | succ q ih =>
      intro i s hi hO hs
      rw [L_X12_back_26, (hO.1 65 (by decide)).1, hN, h88]
      refine bq_f (nI_ge (by omega) (by omega)) (rI_i hm ?_)
      rw [(hO.1 113 (by decide)).1, hz]
      have next : ∀ v, v = (if i < z then σ.1 114 (m * 30 + i) else nI i) → wI s 71 30 (nI i) v (fun s11 => L_X12_back_26 Q K (q + 1) (nI i + nI 1) s11) := by
        rintro v rfl
        refine wI_i (by omega) ?_
        rw [nI_add]
        refine ih (i + 1) _ (by omega) (hO.i (by simp)) (fun j hj => ?_)
        rw [sI_get]
        by_cases e : j = i
        · subst e; rw [if_pos ⟨rfl, rfl⟩]
        · rw [if_neg (fun z => e z.2)]; exact hs j (by omega)
      intro J hJ
      refine br_le (by omega) (by omega) (fun h1 => hJ _ (next _ (by rw [if_neg (by omega)]))) (fun h1 => rI_e (a := m * 30 + i) (by rw [nI_mul, nI_add, Nat.mul_comm]) (by omega) (hJ _ (next _ (by rw [if_pos h1, (hO.1 114 (by decide)).1]))))
  exact key N 0 σ (by omega) Off.rf (fun j hj => absurd hj (Nat.not_lt_zero j))
theorem op_back {b : Bool} {σ : gSt} (hI : Inv b σ) : OKN (fun Q s => W_X11_back Q s) W_X12_back σ := by
  have hI0 := hI
  obtain ⟨hR, N, bk, nm, td, yr, fa, C, kind, st, cd, op, num, T, ta, tb, tw, most, ob, span, F, fx, fy, ft, h, m, kz, kh, tp, R, hs, hE, hRu, hT, hL, hP, hH, hD, hG⟩ := hI
  obtain ⟨g1, ⟨g2, g3, g4⟩, g5, g6⟩ := hH
  have h30 := hE.1.2.1
  have hN := hE.2.1.1
  refine ⟨_, fun o l => s_restore hR h30 g1 m (kz (m - 1)) g4 g2 (fun h0 => (g6 (m - 1) (by omega)).1) (fun h0 => (g6 (m - 1) (by omega)).2.2.1), fun r s hp => ?_⟩
  obtain ⟨x, rfl, rfl, h6, hlt⟩ := hp
  refine ⟨_, rfl, ?_⟩
  by_cases hm : 0 < m
  · obtain ⟨hO, k1, k2, k3⟩ := hlt hm
    obtain ⟨z1, z2, z3, z4⟩ := g6 (m - 1) (by omega)
    refine ⟨hO.2, br_z (fun hf => absurd hm (of_decide_eq_false hf)) (fun _ => ?_)⟩
    rw [k1]
    have f0 : Fr [33, 34] [0] σ (sI s 65 0 (nI 0)) := ((Fr.of (js := []) hO (by decide)).mono (fun _ h => h) (by simp)).f (by simp)
    have e88 : (sI s 65 0 (nI 0)).1 65 88 = nI m := (f0.2.1 88 (by simp)).1.trans g3
    have e1 : (sI s 65 0 (nI 0)).1 65 1 = nI N := (f0.2.1 1 (by simp)).1.trans hN
    refine fI_i (bq_f (by rw [e88, nI_z (by omega)]; omega) (fI_i ?_))
    rw [e88, nI_pre (by omega)]
    have e113 : (sI (sI s 65 0 (nI 0)) 65 88 (nI (m - 1))).1 113 = σ.1 113 := (hO.1 113 (by decide)).1
    have e114 : (sI (sI s 65 0 (nI 0)) 65 88 (nI (m - 1))).1 114 = σ.1 114 := (hO.1 114 (by decide)).1
    refine p_back (N := N) (m := m - 1) (z := kz (m - 1)) h30 (by omega) (by exact e1) (by rw [sI_get, if_pos ⟨rfl, rfl⟩]) (by rw [e113]; exact z2) z3 (fun t hO2 ht => ?_)
    have e88t : t.1 65 88 = nI (m - 1) := by rw [(hO2.1 65 (by decide)).1, sI_get, if_pos ⟨rfl, rfl⟩]
    have f2 : Fr (33 :: 34 :: 36 :: 37 :: 71 :: 113 :: 114 :: scrC) (88 :: scrJ) σ t := ((f0.mono (ks' := 33 :: 34 :: 36 :: 37 :: 71 :: 113 :: 114 :: scrC) (js' := 88 :: scrJ) (by decide) (by decide)).f (j := 88) (by decide)).trans ((Fr.of (js := []) hO2 (by decide)).mono (by decide) (by decide))
    refine ⟨by rw [e88t], b, hI0.newH f2 hN h30 (h2 := fun i => if i < kz (m - 1) then kh (m - 1) i else i) (m2 := m - 1) (kz2 := kz) (kh2 := kh) ?_⟩
    have c33 : ∀ j, t.1 33 j = s.1 33 j := fun j => congrFun (hO2.1 33 (by decide)).1 j
    have c34 : ∀ j, t.1 34 j = s.1 34 j := fun j => congrFun (hO2.1 34 (by decide)).1 j
    refine ⟨by rw [c33, k2 1 (by decide)]; exact g1, ⟨by rw [c33]; exact k1, e88t, by omega⟩, fun i hi => ?_, fun q hq => ?_⟩
    · rw [c34, k3 i, ht i hi, e114]
      by_cases e : i < kz (m - 1)
      · obtain ⟨y1, y2, y3, y4⟩ := z4 i e
        rw [if_pos e, if_pos e]
        simp only [if_pos e]
        rw [if_pos (show kh (m - 1) i < kz (m - 1) by omega)]
        exact ⟨y1, y2, y3, y4⟩
      · rw [if_neg e, if_neg e, if_pos hi]
        simp only [if_neg e]
        exact ⟨trivial, trivial, Nat.le_refl _, trivial⟩
    · have c36 : t.1 36 = σ.1 36 := (hO2.1 36 (by decide)).1.trans (hO.1 36 (by decide)).1
      have c37 : t.1 37 = σ.1 37 := (hO2.1 37 (by decide)).1.trans (hO.1 37 (by decide)).1
      have c113 : t.1 113 = σ.1 113 := (hO2.1 113 (by decide)).1.trans e113
      have c114 : t.1 114 = σ.1 114 := (hO2.1 114 (by decide)).1.trans e114
      rw [c36, c37, c113, c114]
      exact g6 q (by omega)
  · obtain rfl : m = 0 := by omega
    obtain rfl := h6 rfl
    refine ⟨rfl, br_z (fun _ => ?_) (fun ht => absurd (of_decide_eq_true ht) hm)⟩
    refine fI_i (bq_t ?_ ⟨rfl, b, hI0.t0 _⟩)
    rw [sI_get, if_neg (by simp)]; exact g3
