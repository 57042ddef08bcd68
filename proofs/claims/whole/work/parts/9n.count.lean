/-! count -/
def nS (f : Nat → Nat) : Nat → Nat
  | 0 => 0
  | n + 1 => nS f n + f n
theorem nS_cong {f g : Nat → Nat} : ∀ {n : Nat}, (∀ i, i < n → f i = g i) → nS f n = nS g n
  | 0, _ => rfl
  | n + 1, h => by rw [nS, nS, nS_cong (n := n) (fun i hi => h i (by omega)), h n (by omega)]
theorem nS_add (f g : Nat → Nat) : ∀ n, nS (fun i => f i + g i) n = nS f n + nS g n
  | 0 => rfl
  | n + 1 => by rw [nS, nS, nS, nS_add f g n]; omega
theorem nS_cnt (p : Nat → Bool) : ∀ n, nS (fun i => if p i then 1 else 0) n = fa_cnt p n
  | 0 => rfl
  | n + 1 => by rw [nS, nS_cnt p n, fa_cnt]
theorem nS_le {f : Nat → Nat} {B : Nat} : ∀ {n : Nat}, (∀ i, i < n → f i ≤ B) → nS f n ≤ n * B
  | 0, _ => by simp [nS]
  | n + 1, h => by
    have h1 := nS_le (n := n) (B := B) (fun i hi => h i (by omega))
    have h2 := h n (by omega)
    rw [nS, Nat.succ_mul]
    omega
theorem cnt_s (p : Nat → Bool) (n : Nat) : fa_cnt p (n + 1) = fa_cnt p n + (if p n then 1 else 0) := by rw [fa_cnt]
theorem cnt_up {p : Nat → Bool} {N : Nat} : ∀ (m : Nat), (∀ k, N ≤ k → k < N + m → p k = false) → fa_cnt p (N + m) = fa_cnt p N
  | 0, _ => rfl
  | m + 1, h => by
    rw [show N + (m + 1) = (N + m) + 1 by omega, cnt_s, cnt_up m (fun k h1 h2 => h k h1 (by omega)), h (N + m) (by omega) (by omega)]
    rfl
theorem nS_full {q : Nat → Nat → Bool} : ∀ {N : Nat}, (∀ i j, i < N → j < N → q i j = q j i) → (∀ i, i < N → q i i = false) → nS (fun i => fa_cnt (q i) N) N = 2 * nS (fun i => fa_cnt (q i) i) N
  | 0, _, _ => rfl
  | N + 1, hs, hd => by
    have ih := nS_full (q := q) (N := N) (fun i j hi hj => hs i j (by omega) (by omega)) (fun i hi => hd i (by omega))
    rw [nS, nS, nS_cong (n := N) (f := fun i => fa_cnt (q i) (N + 1)) (g := fun i => fa_cnt (q i) N + (if q N i then 1 else 0)) (fun i hi => by rw [cnt_s, hs i N (by omega) (by omega)]), nS_add, nS_cnt, ih, cnt_s, hd N (by omega)]
    simp only [Bool.false_eq_true, if_false]
    omega
theorem nS_up {q : Nat → Nat → Bool} : ∀ {N : Nat}, (∀ i j, i < N → j < N → q i j = q j i) → nS (fun i => fa_cnt (fun t => q i (i + 1 + t)) (N - (i + 1))) N = nS (fun i => fa_cnt (q i) i) N
  | 0, _ => rfl
  | N + 1, hs => by
    have ih := nS_up (q := q) (N := N) (fun i j hi hj => hs i j (by omega) (by omega))
    rw [nS, nS, nS_cong (n := N) (f := fun i => fa_cnt (fun t => q i (i + 1 + t)) (N + 1 - (i + 1))) (g := fun i => fa_cnt (fun t => q i (i + 1 + t)) (N - (i + 1)) + (if q N i then 1 else 0)) (fun i hi => by
      rw [show N + 1 - (i + 1) = (N - (i + 1)) + 1 by omega, cnt_s, show i + 1 + (N - (i + 1)) = N by omega, hs i N (by omega) (by omega)]), nS_add, nS_cnt, ih, show N + 1 - (N + 1) = 0 by omega]
    rfl
theorem nI_half {k : Nat} (h : k < 1000) : nI (2 * k) / nI 2 = nI k := by
  have key : ∀ k, k < 1000 → nI (2 * k) / nI 2 = nI k := by decide +kernel
  exact key k h
theorem p_passedCount {σ : gSt} {N : Nat} (hN : σ.1 1 0 = nI N) (h30 : N ≤ 30) (hs : ∀ i j, i < N → j < N → bt (σ.1 27 i) j = bt (σ.1 27 j) i) (hz : padZ N σ) {Q : Int32 → Prop} (q : Q (nI (nS (fun i => fa_cnt (bt (σ.1 27 i)) i) N))) : W_X4_passedCount Q σ := by
  have h32 : ∀ i, i < N → fa_cnt (bt (σ.1 27 i)) 32 = fa_cnt (bt (σ.1 27 i)) N := fun i hi => by
    rw [show (32 : Nat) = N + (32 - N) by omega]
    exact cnt_up (32 - N) (fun k h1 h2 => hz.1 i k (by omega) (by omega) (by omega))
  have hb : ∀ n, n ≤ N → nS (fun i => fa_cnt (bt (σ.1 27 i)) N) n ≤ 900 := fun n hn => by
    have h1 := nS_le (f := fun i => fa_cnt (bt (σ.1 27 i)) N) (B := 30) (n := n) (fun i _ => Nat.le_trans (fa_cnt_le _ _) h30)
    omega
  refine ⟨N + 1, ?_⟩
  have key : ∀ (m i : Nat), i + m = N → L_X4_passedCount_4 Q σ (fun y8 => ¬ (nI 2) = 0 ∧ Q (y8 / (nI 2))) (m + 1) (nI (nS (fun i => fa_cnt (bt (σ.1 27 i)) N) i)) (nI i) := by
    intro m
    induction m with
    | zero =>
      intro i hi
      obtain rfl : i = N := by omega
      rw [L_X4_passedCount_4, hN]
      refine bq_t (nI_le (Nat.le_refl _) (by omega)) ⟨by decide, ?_⟩
      have hf := nS_full (q := fun a c => bt (σ.1 27 a) c) hs (fun a ha => hz.1 a a (by omega) (by omega) (by omega))
      have h9 := hb i (by omega)
      rw [show nS (fun a => fa_cnt (bt (σ.1 27 a)) i) i = 2 * nS (fun a => fa_cnt (bt (σ.1 27 a)) a) i from hf] at h9 ⊢
      rw [nI_half (by omega)]
      exact q
    | succ m ih =>
      intro i hi
      rw [L_X4_passedCount_4, hN]
      refine bq_f (nI_ge (by omega) (by omega)) (rI_i (by omega) (p_bitCount ?_))
      rw [nI_add, nI_add, h32 i (by omega)]
      exact ih (i + 1) (by omega)
  exact key N 0 (by omega)
theorem p_heapCountC {σ : gSt} {N : Nat} (hN : σ.1 33 1 = nI N) (h30 : N ≤ 30) {h : Nat → Nat} (hh : ∀ i, i < N → σ.1 34 i = nI (h i) ∧ h i ≤ i) {Q : Int32 → Prop} (q : Q (nI (fa_cnt (fun i => decide (h i = i)) N))) : W_X2_heapCount Q σ := by
  refine ⟨N + 1, ?_⟩
  have key : ∀ (m i : Nat), i + m = N → L_X2_heapCount_4 Q σ (fun y8 => Q y8) (m + 1) (nI (fa_cnt (fun i => decide (h i = i)) i)) (nI i) := by
    intro m
    induction m with
    | zero =>
      intro i hi
      obtain rfl : i = N := by omega
      rw [L_X2_heapCount_4, hN]
      exact bq_t (nI_le (Nat.le_refl _) (by omega)) q
    | succ m ih =>
      intro i hi
      rw [L_X2_heapCount_4, hN]
      refine bq_f (nI_ge (by omega) (by omega)) (rI_i (by omega) ?_)
      obtain ⟨e1, e2⟩ := hh i (by omega)
      have nx := ih (i + 1) (by omega)
      rw [cnt_s] at nx
      rw [e1, nI_eq (by omega) (by omega), nI_add, nI_add]
      refine ⟨fun z => ?_, fun z => ?_⟩
      · rw [decide_eq_true z, if_pos rfl] at nx; exact nx
      · rw [decide_eq_false z, if_neg (by decide)] at nx; exact nx
  exact key N 0 (by omega)
theorem op_count {b : Bool} {σ : gSt} (hI : Inv b σ) (p : Int32) : OKN (W_X11_count b p) (W_X12_count p) σ := by
  have hI0 := hI
  obtain ⟨N', bk', nm', td', yr', fa', most', wt, nv, ti, ap, hd', h30', hEn', ⟨hN', hsz'⟩, hm', hh', hS, hC, hM⟩ := hI.pw
  obtain ⟨hR, N, bk, nm, td, yr, fa, C, kind, st, cd, op, num, T, ta, tb, tw, most, ob, span, F, fx, fy, ft, h, m, kz, kh, tp, R, hs, hE, hRu, hT, hL, hP, hH, hD, hG⟩ := hI
  have h30 := hE.1.2.1
  have hNN : N' = N := by
    have : nI N' = nI N := hN'.symm.trans hE.2.1.1
    exact (nI_eq (by omega) (by omega)).mp this
  subst hNN
  have t0 : ∀ {v w : Int32}, v = w → v = w ∧ ∃ b, Inv b (sI σ 65 0 (nI 0)) := fun e => ⟨e, b, hI0.t0 _⟩
  have f1 : Fr scrC scrJ σ (sI σ 65 0 (nI 0)) := (Fr.rf (ks := []).f (js := [0]) (by simp)).scr (by decide) (by decide)
  unfold OKN W_X11_count
  refine ⟨fun z => ?_, fun n0 => ⟨fun z => ?_, fun n1 => ⟨fun z => ?_, fun n2 => ⟨fun z => ?_, fun n3 => ⟨fun z => ?_, fun n4 => ⟨fun z => ?_, fun n5 => ⟨fun z => ?_, fun n6 => ⟨fun z => ?_, fun n7 => ⟨fun z => ?_, fun n8 => ⟨fun z => ?_, fun n9 => ?_⟩⟩⟩⟩⟩⟩⟩⟩⟩⟩
  · exact fI_i (bq_t z (t0 (hE.1.1.trans hE.2.1.1.symm)))
  · exact fI_i (bq_f n0 (bq_t z (t0 (hRu.1.1.trans hRu.2.1.1.symm))))
  · exact fI_i (bq_f n0 (bq_f n1 (bq_t z (t0 (hT.2.1.trans hT.1.1.symm)))))
  · exact fI_i (bq_f n0 (bq_f n1 (bq_f n2 (bq_t z (t0 (hL.2.2.2.2.2.2.1.trans hL.1.1.symm))))))
  · refine p_heapCountC hH.1 h30 (fun i hi => ⟨(hH.2.2.1 i hi).1, (hH.2.2.1 i hi).2.2.1⟩) (fI_i (bq_f n0 (bq_f n1 (bq_f n2 (bq_f n3 (bq_t z ⟨N' + 1, ?_⟩))))))
    have key : ∀ (m i : Nat), i + m = N' → L_X12_count_86 (fun w t => nI (fa_cnt (fun i => decide (h i = i)) N') = w ∧ ∃ b, Inv b t) (sI σ 65 0 (nI 0)) (fun y16 => nI (fa_cnt (fun i => decide (h i = i)) N') = y16 ∧ ∃ b, Inv b (sI σ 65 0 (nI 0))) (m + 1) (nI (fa_cnt (fun i => decide (h i = i)) i)) (nI i) := by
      intro m
      induction m with
      | zero =>
        intro i hi
        obtain rfl : i = N' := by omega
        rw [L_X12_count_86, show (sI σ 65 0 (nI 0)).1 65 1 = nI i from hN']
        exact bq_t (nI_le (Nat.le_refl _) (by omega)) (t0 rfl)
      | succ m ih =>
        intro i hi
        rw [L_X12_count_86, show (sI σ 65 0 (nI 0)).1 65 1 = nI N' from hN']
        obtain ⟨e1, e2, e3, -⟩ := hH.2.2.1 i (by omega)
        refine bq_f (nI_ge (by omega) (by omega)) (rI_i (by omega) (fun J hJ => ?_))
        rw [show (sI σ 65 0 (nI 0)).1 71 i = nI (h i) from e2, nI_eq (by omega) (by omega)]
        have nx := ih (i + 1) (by omega)
        rw [cnt_s] at nx
        refine ⟨fun z => hJ _ ?_, fun z => hJ _ ?_⟩
        · rw [decide_eq_true z, if_pos rfl] at nx; rw [nI_add, nI_add]; exact nx
        · rw [decide_eq_false z, if_neg (by decide)] at nx; rw [nI_add, nI_add]; exact nx
    exact key N' 0 (by omega)
  · refine ⟨_, fun o l => s_everyone hR N' h30 hEn'.1, ?_⟩
    refine p_find hR hC hS hEn'.1 h30 (fun j hj => of_decide_eq_true hj) (bt_every N' h30) (fun t hOt h47 h49 => fI_i (bq_f n0 (bq_f n1 (bq_f n2 (bq_f n3 (bq_f n4 (bq_t z ?_)))))))
    have f2 : Fr scrC scrJ σ (sI t 65 0 (nI 0)) := ((Fr.of (js := []) hOt (by decide)).mono (ks' := [47, 48, 49]) (js' := [0]) (by simp) (by simp)).f (by simp) |>.scr (by decide) (by decide)
    obtain ⟨P, hPd⟩ : ∃ P : Nat → Bool, P = fun a => decide (a < N') && decide (lst1 N' (fun j => decide (j < N')) (hgP wt ti) a = a) := ⟨_, rfl⟩
    refine p_everyone (N := N') ((f2.2.1 1 (by decide)).1.trans hN') h30 (fun Q q => hM _ Q f2 q) (fun t2 hO2 hw h103 => ⟨N' + 1, ?_⟩)
    have f3 : Fr scrC scrJ σ t2 := f2.trans ((Fr.of hO2 (by decide)).scr (js := []) (by decide) (by decide))
    have key : ∀ (m i : Nat) (s : gSt), i + m = N' → Fr scrC scrJ σ s → pwM s N' wt nv ti ap → (∀ j, j < N' → s.1 103 j = zI (decide (j < N'))) → L_X12_count_126 (fun w t => nI (fa_cnt P N') = w ∧ ∃ b, Inv b t) (fun y31 s32 => nI (fa_cnt P N') = y31 ∧ ∃ b, Inv b s32) (m + 1) (nI (fa_cnt P i)) (nI i) s := by
      intro m
      induction m with
      | zero =>
        intro i s hi hf hw h103
        obtain rfl : i = N' := by omega
        rw [L_X12_count_126, (hf.2.1 1 (by decide)).1, hN']
        exact bq_t (nI_le (Nat.le_refl _) (by omega)) ⟨rfl, b, hI0.scr hf⟩
      | succ m ih =>
        intro i s hi hf hw h103
        have hiN : i < N' := by omega
        rw [L_X12_count_126, (hf.2.1 1 (by decide)).1, hN']
        refine bq_f (nI_ge (by omega) (by omega)) (p_findPart (U := fun j => decide (j < N')) ((hf.2.1 1 (by decide)).1.trans hN') h30 hw h103 hiN (fun t3 f4 h104 h64 h105 => rI_i (by decide) (fun J hJ => ?_)))
        have hl := (lst1_le (U := fun j => decide (j < N')) (hg := hgP wt ti) hiN).2.1
        rw [mem_0 hiN h105, nI_eq (by omega) (by omega)]
        have nx := ih (i + 1) t3 (by omega) (hf.trans (f4.scr (by decide) (by decide))) (hw.fr f4 (by decide)) (fun j hj => by rw [(f4.1 103 (by decide) (by decide)).1]; exact h103 j hj)
        rw [cnt_s, show P i = decide (lst1 N' (fun j => decide (j < N')) (hgP wt ti) i = i) by rw [hPd]; simp only [hiN, decide_true, Bool.true_and]] at nx
        refine ⟨fun z => hJ _ ?_, fun z => hJ _ ?_⟩
        · rw [decide_eq_true z, if_pos rfl] at nx; rw [nI_add, nI_add]; exact nx
        · rw [decide_eq_false z, if_neg (by decide)] at nx; rw [nI_add, nI_add]; exact nx
    rw [← hPd]
    exact key N' 0 t2 (by omega) f3 hw (fun j hj => by rw [h103 j hj, decide_eq_true hj])
  · exact fI_i (bq_f n0 (bq_f n1 (bq_f n2 (bq_f n3 (bq_f n4 (bq_f n5 (bq_t z (t0 (hG.1.trans hG.2.1.symm)))))))))
  · exact fI_i (bq_f n0 (bq_f n1 (bq_f n2 (bq_f n3 (bq_f n4 (bq_f n5 (bq_f n6 (bq_t z (t0 (hH.2.1.1.trans hH.2.1.2.1.symm))))))))))
  · exact fI_i (bq_f n0 (bq_f n1 (bq_f n2 (bq_f n3 (bq_f n4 (bq_f n5 (bq_f n6 (bq_f n7 (bq_t z (t0 (hD.1.trans hD.2.1.symm)))))))))))
  · refine p_passedCount hE.1.1 h30 (fun i j hi hj => ?_) hP.2 (fI_i (bq_f n0 (bq_f n1 (bq_f n2 (bq_f n3 (bq_f n4 (bq_f n5 (bq_f n6 (bq_f n7 (bq_f n8 (bq_t z ?_)))))))))))
    · by_cases z : i = j
      · rw [z]
      · obtain ⟨g, -, c1, c2, c3, c4, c5, c6, c7, c8⟩ := hP.get hE hi hj z
        exact c7.trans c8.symm
    obtain ⟨q, hq⟩ : ∃ q : Nat → Nat → Bool, q = fun a c => bt (σ.1 27 a) c := ⟨_, rfl⟩
    have hqv : ∀ i j, i < N' → j < N' → i ≠ j → q i j = (!decide (tix T ta tb i j < T) && psd (fct (σ.1 3) bk nm td yr fa i j) num kind st cd op C) := fun i j hi hj hne => by
      obtain ⟨g, -, c1, c2, c3, c4, c5, c6, c7, c8⟩ := hP.get hE hi hj hne
      rw [hq]; exact c7
    have hqs : ∀ i j, i < N' → j < N' → q i j = q j i := fun i j hi hj => by
      by_cases z : i = j
      · rw [z]
      · obtain ⟨g, -, c1, c2, c3, c4, c5, c6, c7, c8⟩ := hP.get hE hi hj z
        rw [hq]; exact c7.trans c8.symm
    rw [show (fun i => fa_cnt (bt (σ.1 27 i)) i) = fun i => fa_cnt (q i) i by rw [hq], ← nS_up hqs]
    obtain ⟨V, hV⟩ : ∃ V, V = nS (fun i => fa_cnt (fun t => q i (i + 1 + t)) (N' - (i + 1))) N' := ⟨_, rfl⟩
    rw [← hV]
    have inner : ∀ (m t i B : Nat) (s : gSt) (K : Int32 → gSt → Prop), t + m = N' - (i + 1) → i < N' → Fr (86 :: []) [0] σ s → (∀ s, Fr (86 :: []) [0] σ s → K (nI (B + fa_cnt (fun t => q i (i + 1 + t)) (N' - (i + 1)))) s) → L_X12_count_195 (fun w t => nI V = w ∧ ∃ b, Inv b t) (nI i) K (m + 1) (nI (B + fa_cnt (fun t => q i (i + 1 + t)) t)) (nI (i + 1 + t)) s := by
      intro m
      induction m with
      | zero =>
        intro t i B s K ht hi hf hK
        rw [L_X12_count_195, (hf.2.1 1 (by decide)).1, hN']
        refine bq_t (nI_le (by omega) (by omega)) ?_
        rw [show t = N' - (i + 1) by omega]
        exact hK s hf
      | succ m ih =>
        intro t i B s K ht hi hf hK
        have hj : i + 1 + t < N' := by omega
        rw [L_X12_count_195, (hf.2.1 1 (by decide)).1, hN']
        refine bq_f (nI_ge (by omega) (by omega)) ?_
        have nx : ∀ s, Fr (86 :: []) [0] σ s → L_X12_count_195 (fun w t => nI V = w ∧ ∃ b, Inv b t) (nI i) K (m + 1) (nI (B + fa_cnt (fun t => q i (i + 1 + t)) t) + zI (q i (i + 1 + t))) (nI (i + 1 + t) + nI 1) s := fun s hs => by
          have := ih (t + 1) i B s K (by omega) hi hs hK
          rw [cnt_s] at this
          rw [nI_add]
          cases hv : q i (i + 1 + t)
          · rw [hv, if_neg (by decide)] at this
            rw [show zI false = nI 0 from rfl, nI_add]; exact this
          · rw [hv, if_pos rfl] at this
            rw [show zI true = nI 1 from rfl, nI_add]; exact this
        have hv := hqv i (i + 1 + t) hi hj (by omega)
        have hT3 := hT.fr hf (by decide) (by decide)
        have hE3 := hE.fr hf (by decide) (by decide)
        have hR3 := hRu.fr hf (by cases b <;> decide) (by decide)
        refine p_toldAt hT3.1.1 hT3.1.2.1 (fun q hq => ⟨(hT3.1.2.2 q hq).1, (hT3.1.2.2 q hq).2.1, (hT3.1.2.2 q hq).2.2.1, (hT3.1.2.2 q hq).2.2.2.1⟩) (by omega) (by omega) (fun y hy hty _ => ?_) (fun hty _ => ?_)
        · intro J hJ J2 hJ2
          refine bq_f (nI_nm1 (by have := hT3.1.2.1; omega)) (hJ2 s (hJ _ s ?_))
          have := nx s hf
          rw [hv, hty, decide_eq_true hy] at this
          exact this
        · intro J hJ J2 hJ2
          refine bq_t rfl (p_isPassed hE3.2.1 hR3.2.1 hR3.2.2 hi hj (fun s4 hO4 => ?_))
          have f4 : Fr (86 :: []) [0] σ s4 := hf.trans ((Fr.of (js := []) hO4 (by decide)).mono (by simp) (by simp))
          have := nx s4 f4
          rw [hv, hty, decide_eq_false (Nat.lt_irrefl _), Bool.not_false, Bool.true_and] at this
          rw [(hf.1 3 (by decide) (by decide)).1]
          refine ⟨fun y => hJ2 s4 (hJ _ s4 ?_), fun y => hJ _ s4 ?_⟩
          · rw [zI_eq.mp y] at this; exact this
          · rw [(zI_ne _).mpr y] at this; exact this
    have outer : ∀ (m i : Nat) (s : gSt), i + m = N' → Fr (86 :: []) [0] σ s → L_X12_count_182 (fun w t => nI V = w ∧ ∃ b, Inv b t) (fun y64 s65 => nI V = y64 ∧ ∃ b, Inv b s65) (m + 1) (nI (nS (fun i => fa_cnt (fun t => q i (i + 1 + t)) (N' - (i + 1))) i)) (nI i) s := by
      intro m
      induction m with
      | zero =>
        intro i s hi hf
        rw [L_X12_count_182, (hf.2.1 1 (by decide)).1, hN']
        refine bq_t (nI_le (by omega) (by omega)) ⟨?_, b, hI0.scr (hf.scr (by decide) (by decide))⟩
        rw [hV, show i = N' by omega]
      | succ m ih =>
        intro i s hi hf
        rw [L_X12_count_182, (hf.2.1 1 (by decide)).1, hN', nI_add]
        refine bq_f (nI_ge (by omega) (by omega)) ⟨N' - (i + 1) + 1, ?_⟩
        have := inner (N' - (i + 1)) 0 i (nS (fun i => fa_cnt (fun t => q i (i + 1 + t)) (N' - (i + 1))) i) s (fun y61 s62 => L_X12_count_182 (fun w t => nI V = w ∧ ∃ b, Inv b t) (fun y64 s65 => nI V = y64 ∧ ∃ b, Inv b s65) (m + 1) y61 (nI (i + 1)) s62) (by omega) (by omega) hf (fun s2 hs2 => by
          have := ih (i + 1) s2 (by omega) hs2
          rw [nS] at this
          exact this)
        exact this
    exact ⟨N' + 1, outer N' 0 _ (by omega) ((Fr.rf (ks := [86])).f (by simp))⟩
  · exact fI_i (bq_f n0 (bq_f n1 (bq_f n2 (bq_f n3 (bq_f n4 (bq_f n5 (bq_f n6 (bq_f n7 (bq_f n8 (bq_f n9 (t0 rfl)))))))))))
