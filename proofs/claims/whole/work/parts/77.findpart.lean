/-! the reference finds a part -/
theorem fa_cnt_le2 {p : Nat → Bool} {j n : Nat} (h : j ≤ n) : fa_cnt p j ≤ fa_cnt p n := by
  induction n with
  | zero => rw [Nat.le_zero.mp h]; exact Nat.le_refl _
  | succ n ih =>
    by_cases e : j = n + 1
    · rw [e]; exact Nat.le_refl _
    · rw [fa_cnt]; have := ih (by omega); omega
theorem fa_cnt_ltn {p : Nat → Bool} {j n : Nat} (h : j < n) (hp : p j = true) : fa_cnt p j < fa_cnt p n := by
  have h1 := fa_cnt_le2 (p := p) (show j + 1 ≤ n by omega)
  rw [fa_cnt_yes hp] at h1; omega
theorem pwM.fr {s t : gSt} {N : Nat} {wt : Nat → Nat → Int32} {nv ti ap : Nat → Nat → Bool} {ks js : List Nat} (h : pwM s N wt nv ti ap) (f : Fr ks js s t) (hk : ∀ k ∈ [90, 91, 92, 93], k ∉ ks) : pwM t N wt nv ti ap := by
  unfold pwM at h ⊢
  rw [(f.1 90 (by decide) (hk _ (by simp))).1, (f.1 91 (by decide) (hk _ (by simp))).1, (f.1 92 (by decide) (hk _ (by simp))).1, (f.1 93 (by decide) (hk _ (by simp))).1]
  exact h
theorem p_everyone {s : gSt} {N : Nat} {wt : Nat → Nat → Int32} {nv ti ap : Nat → Nat → Bool} (hN : s.1 65 1 = nI N) (h30 : N ≤ 30) (hW : ∀ Q : gSt → Prop, (∀ t, Off [86, 90, 91, 92, 93] s t → pwM t N wt nv ti ap → Q t) → W_X12_weighs Q s) {Q : gSt → Prop} (q : ∀ t, Off [86, 90, 91, 92, 93, 103] s t → pwM t N wt nv ti ap → (∀ j, j < N → t.1 103 j = zI true) → Q t) : W_X12_everyone Q s := by
  refine hW _ (fun t1 hO hw => ⟨N + 1, ?_⟩)
  have loop : ∀ (m i : Nat) (t : gSt), i + m = N → Off [103] t1 t → (∀ j, j < i → t.1 103 j = zI true) → L_X12_everyone_6 Q (fun s8 => Q s8) (m + 1) (nI i) t := by
    intro m
    induction m with
    | zero =>
      intro i t hi hOt h1
      obtain rfl : i = N := by omega
      rw [L_X12_everyone_6, (hOt.1 65 (by decide)).1, (hO.1 65 (by decide)).1, hN]
      exact bq_t (nI_le (Nat.le_refl _) (by omega)) (q t ((hO.mono (by simp)).trans (hOt.mono (by simp))) (hw.off hOt (by decide)) h1)
    | succ m ih =>
      intro i t hi hOt h1
      rw [L_X12_everyone_6, (hOt.1 65 (by decide)).1, (hO.1 65 (by decide)).1, hN, nI_add]
      refine bq_f (nI_ge (by omega) (by omega)) (wZ_e (.inr rfl) rfl (by omega) (ih (i + 1) _ (by omega) (hOt.i (by simp)) (fun j hj => ?_)))
      rw [sI_get]
      by_cases e : j = i
      · rw [if_pos ⟨rfl, e⟩]; rfl
      · rw [if_neg (fun x => e x.2)]; exact h1 j (by omega)
  exact loop N 0 t1 (by omega) Off.rf (fun j hj => absurd hj (Nat.not_lt_zero j))
theorem p_hang {s : gSt} {N : Nat} {wt : Nat → Nat → Int32} {nv ti ap : Nat → Nat → Bool} (hM : pwM s N wt nv ti ap) (h30 : N ≤ 30) {a c : Nat} (ha : a < N) (hc : c < N) (hne : a ≠ c) {Q : Int32 → Prop} (q : Q (zI (hgP wt ti a c))) : W_X12_hang (nI a) (nI c) Q s := by
  obtain ⟨w1, w2, w3, w4⟩ := hM a c ha hc hne
  unfold W_X12_hang
  refine rI_e (ix30 a c) (by omega) ?_
  rw [w1]
  unfold hgP at q
  rw [decide_eq_true hne, Bool.true_and] at q
  refine ⟨fun h => ?_, fun h => rI_e (ix30 a c) (by omega) ?_⟩
  · rw [drP, decide_eq_true (show nI 0 < wt a c from h), Bool.true_or] at q
    exact q
  · rw [w3]
    rw [drP, decide_eq_false (show ¬ nI 0 < wt a c from h), Bool.false_or] at q
    refine br_z (fun e => ?_) (fun e => ?_) <;> rw [e] at q <;> exact q
theorem p_findPart {s : gSt} {N : Nat} {wt : Nat → Nat → Int32} {nv ti ap : Nat → Nat → Bool} (hN : s.1 65 1 = nI N) (h30 : N ≤ 30) (hM : pwM s N wt nv ti ap) {U : Nat → Bool} (h103 : ∀ j, j < N → s.1 103 j = zI (U j)) {e : Nat} (he : e < N) {Q : gSt → Prop} (q : ∀ t, Fr [104, 105] [64] s t → (∀ j, j < N → t.1 104 j = zI (rc N U (hgP wt ti) e j)) → t.1 65 64 = nI (fa_cnt (rc N U (hgP wt ti) e) N) → (∀ i, i < N → rc N U (hgP wt ti) e i = true → t.1 105 (fa_cnt (rc N U (hgP wt ti) e) i) = nI i) → Q t) : W_X12_findPart (nI e) Q s := by
  -- the inner loop of a pass
  have inner : ∀ (m c a : Nat) (I0 I : Nat → Bool) (f : Bool) (t : gSt) (K : Int32 → gSt → Prop), c + m = N → a < N → Fr [104] [] s t → (∀ j, j < N → t.1 104 j = zI (I j)) → (∀ j, j < N → I j = true → Rch N U (hgP wt ti) e j) → (∀ j, j < N → I0 j = true → I j = true) → (∀ x y, x < N → y < N → (x < a ∨ (x = a ∧ y < c)) → I0 x = true → U y = true → hgP wt ti x y = true → I y = true) → (f = false → ∀ j, j < N → I j = I0 j) → (f = true → fa_cnt I0 N < fa_cnt I N) →
      (∀ (I1 : Nat → Bool) (f1 : Bool) (t1 : gSt), Fr [104] [] s t1 → (∀ j, j < N → t1.1 104 j = zI (I1 j)) → (∀ j, j < N → I1 j = true → Rch N U (hgP wt ti) e j) → (∀ j, j < N → I0 j = true → I1 j = true) → (∀ x y, x < N → y < N → x < a + 1 → I0 x = true → U y = true → hgP wt ti x y = true → I1 y = true) → (f1 = false → ∀ j, j < N → I1 j = I0 j) → (f1 = true → fa_cnt I0 N < fa_cnt I1 N) → K (zI f1) t1) → L_X12_findPart_53 Q (nI a) K (m + 1) (zI f) (nI c) t := by
    intro m
    induction m with
    | zero =>
      intro c a I0 I f t K hc ha hF hI h1 h2 h3 h4 h5 hK
      obtain rfl : c = N := by omega
      rw [L_X12_findPart_53, (hF.2.1 1 (by simp)).1, hN]
      exact bq_t (nI_le (Nat.le_refl _) (by omega)) (hK I f t hF hI h1 h2 (fun x y hx hy hxa => h3 x y hx hy (by omega)) h4 h5)
    | succ m ih =>
      intro c a I0 I f t K hc ha hF hI h1 h2 h3 h4 h5 hK
      rw [L_X12_findPart_53, (hF.2.1 1 (by simp)).1, hN, nI_add]
      have skip : (∀ x, I0 a = true → U c = true → hgP wt ti a c = true → x = c → I c = true) → L_X12_findPart_53 Q (nI a) K (m + 1) (zI f) (nI (c + 1)) t := fun hs => by
        refine ih (c + 1) a I0 I f t K (by omega) ha hF hI h1 h2 (fun x y hx hy hxy hi0 hu hh => ?_) h4 h5 hK
        by_cases z : x = a ∧ y = c
        · obtain ⟨rfl, rfl⟩ := z
          exact hs y hi0 hu hh rfl
        · exact h3 x y hx hy (by omega) hi0 hu hh
      refine bq_f (nI_ge (by omega) (by omega)) (rI_i (by omega) ?_)
      rw [hI a ha]
      refine br_z (fun e0 => ?_) (fun e0 => ?_)
      · refine hK I f t hF hI h1 h2 (fun x y hx hy hxa hi0 hu hh => ?_) h4 h5
        by_cases z : x = a
        · subst z; rw [h2 x hx hi0] at e0; cases e0
        · exact h3 x y hx hy (by omega) hi0 hu hh
      · refine br_eq (by omega) (by omega) (fun z => skip (fun _ _ _ hh _ => by rw [z, hgP_n] at hh; cases hh)) (fun hac => rI_i (by omega) ?_)
        rw [hI c (by omega)]
        refine br_z (fun ec => rI_i (by omega) ?_) (fun ec => skip (fun _ _ _ _ _ => ec))
        rw [(hF.1 103 (by decide) (by decide)).1, h103 c (by omega)]
        refine br_z (fun eu => skip (fun _ _ hu _ _ => by rw [hu] at eu; cases eu)) (fun eu => p_hang (hM.fr hF (by decide)) h30 ha (by omega) hac (br_z (fun eh => skip (fun _ _ _ hh _ => by rw [hh] at eh; cases eh)) (fun eh => ?_)))
        refine wZ_e (.inr rfl) rfl (by omega) ?_
        have hlt : fa_cnt I N < fa_cnt (fun j => I j || decide (j = c)) N := fa_cnt_lt (fun k _ hk => by show (I k || decide (k = c)) = true; rw [hk, Bool.true_or]) (show c < N by omega) ec (by show (I c || decide (c = c)) = true; simp)
        have hle : fa_cnt I0 N ≤ fa_cnt I N := fa_cnt_mono h2
        refine ih (c + 1) a I0 (fun j => I j || decide (j = c)) true _ K (by omega) ha (hF.i (by simp) (by decide)) (fun j hj => ?_) (fun j hj hij => ?_) (fun j hj hj0 => ?_) (fun x y hx hy hxy hi0 hu hh => ?_) (fun h => by cases h) (fun _ => by omega) hK
        · rw [sI_get]
          by_cases z : j = c
          · subst z; rw [if_pos ⟨rfl, rfl⟩]; simp; rfl
          · rw [if_neg (fun w => z w.2), hI j hj, decide_eq_false z, Bool.or_false]
        · simp only [Bool.or_eq_true, decide_eq_true_eq] at hij
          rcases hij with hij | rfl
          · exact h1 j hj hij
          · exact (h1 a ha e0).step ha (by omega) eu eh
        · show (I j || decide (j = c)) = true
          rw [h2 j hj hj0, Bool.true_or]
        · show (I y || decide (y = c)) = true
          by_cases z : x = a ∧ y = c
          · rw [decide_eq_true z.2, Bool.or_true]
          · rw [h3 x y hx hy (by omega) hi0 hu hh, Bool.true_or]
  -- one pass
  have pass : ∀ (m a : Nat) (I0 I : Nat → Bool) (f : Bool) (t : gSt) (K : Int32 → gSt → Prop), a + m = N → Fr [104] [] s t → (∀ j, j < N → t.1 104 j = zI (I j)) → (∀ j, j < N → I j = true → Rch N U (hgP wt ti) e j) → (∀ j, j < N → I0 j = true → I j = true) → (∀ x y, x < N → y < N → x < a → I0 x = true → U y = true → hgP wt ti x y = true → I y = true) → (f = false → ∀ j, j < N → I j = I0 j) → (f = true → fa_cnt I0 N < fa_cnt I N) →
      (∀ (I1 : Nat → Bool) (f1 : Bool) (t1 : gSt), Fr [104] [] s t1 → (∀ j, j < N → t1.1 104 j = zI (I1 j)) → (∀ j, j < N → I1 j = true → Rch N U (hgP wt ti) e j) → (∀ j, j < N → I0 j = true → I1 j = true) → (∀ x y, x < N → y < N → I0 x = true → U y = true → hgP wt ti x y = true → I1 y = true) → (f1 = false → ∀ j, j < N → I1 j = I0 j) → (f1 = true → fa_cnt I0 N < fa_cnt I1 N) → K (zI f1) t1) → L_X12_findPart_42 Q K (m + 1) (zI f) (nI a) t := by
    intro m
    induction m with
    | zero =>
      intro a I0 I f t K ha hF hI h1 h2 h3 h4 h5 hK
      obtain rfl : a = N := by omega
      rw [L_X12_findPart_42, (hF.2.1 1 (by simp)).1, hN]
      exact bq_t (nI_le (Nat.le_refl _) (by omega)) (hK I f t hF hI h1 h2 (fun x y hx hy => h3 x y hx hy hx) h4 h5)
    | succ m ih =>
      intro a I0 I f t K ha hF hI h1 h2 h3 h4 h5 hK
      rw [L_X12_findPart_42, (hF.2.1 1 (by simp)).1, hN, nI_add]
      refine bq_f (nI_ge (by omega) (by omega)) ⟨N + 1, inner N 0 a I0 I f t _ (by omega) (by omega) hF hI h1 h2 (fun x y hx hy hxy => h3 x y hx hy (by omega)) h4 h5 (fun I1 f1 t1 g0 g1 g2 g3 g4 g5 g6 => ?_)⟩
      exact ih (a + 1) I0 I1 f1 t1 K (by omega) g0 g1 g2 g3 g4 g5 g6 hK
  -- all passes
  have whole : ∀ (m r : Nat) (I : Nat → Bool) (t : gSt) (K : gSt → Prop), r + m = N + 1 → Fr [104] [] s t → (∀ j, j < N → t.1 104 j = zI (I j)) → I e = true → (∀ j, j < N → I j = true → Rch N U (hgP wt ti) e j) → r ≤ fa_cnt I N → (∀ t1, Fr [104] [] s t1 → (∀ j, j < N → t1.1 104 j = zI (rc N U (hgP wt ti) e j)) → K t1) → L_X12_findPart_34 Q K (m + 1) (zI true) t := by
    intro m
    induction m with
    | zero =>
      intro r I t K hr hF hI h0 h1 hc hK
      have := fa_cnt_le I N
      omega
    | succ m ih =>
      intro r I t K hr hF hI h0 h1 hc hK
      rw [L_X12_findPart_34]
      refine bq_f (by decide) ⟨N + 1, pass N 0 I I false t _ (by omega) hF hI h1 (fun _ _ h => h) (fun _ _ _ _ h => absurd h (Nat.not_lt_zero _)) (fun _ _ _ => rfl) (fun h => by cases h) (fun I1 f1 t1 g0 g1 g2 g3 g4 g5 g6 => ?_)⟩
      cases f1
      · rw [L_X12_findPart_34]
        refine bq_t rfl (hK t1 g0 (fun j hj => ?_))
        rw [g1 j hj]
        have g5 := g5 rfl
        have hS : (fun x => decide (x < N) && I1 x) = rc N U (hgP wt ti) e := rc_is (by simp [he, g3 e he h0]) (fun a c ha hcN hva hu hh => by
          simp only [Bool.and_eq_true, decide_eq_true_eq] at hva ⊢
          exact ⟨hcN, g4 a c ha hcN (by rw [← g5 a ha]; exact hva.2) hu hh⟩) (fun j hj => by
          simp only [Bool.and_eq_true, decide_eq_true_eq] at hj
          exact g2 j hj.1 hj.2)
        have := congrFun hS j
        simp only [decide_eq_true hj, Bool.true_and] at this
        rw [this]
      · have := g6 rfl
        exact ih (r + 1) I1 t1 K (by omega) g0 g1 (g3 e he h0) g2 (by omega) hK
  -- the first loop
  have first : ∀ (m i : Nat) (t : gSt) (K : gSt → Prop), i + m = N → Fr [104] [] s t → (∀ j, j < i → t.1 104 j = zI (decide (j = e))) → (∀ t1, Fr [104] [] s t1 → (∀ j, j < N → t1.1 104 j = zI (decide (j = e))) → K t1) → L_X12_findPart_2 Q (nI e) K (m + 1) (nI i) t := by
    intro m
    induction m with
    | zero =>
      intro i t K hi hF hI hK
      obtain rfl : i = N := by omega
      rw [L_X12_findPart_2, (hF.2.1 1 (by simp)).1, hN]
      exact bq_t (nI_le (Nat.le_refl _) (by omega)) (hK t hF hI)
    | succ m ih =>
      intro i t K hi hF hI hK
      rw [L_X12_findPart_2, (hF.2.1 1 (by simp)).1, hN, nI_add]
      refine bq_f (nI_ge (by omega) (by omega)) ?_
      refine jn_z (decide (i = e)) (by rw [decide_eq_true_iff, nI_eq (by omega) (by omega)]) ?_
      refine wZ_e (zI_01 _) rfl (by omega) (ih (i + 1) _ K (by omega) (hF.i (by simp) (by decide)) (fun j hj => ?_) hK)
      rw [sI_get]
      by_cases z : j = i
      · subst z; rw [if_pos ⟨rfl, rfl⟩]
      · rw [if_neg (fun w => z w.2)]; exact hI j (by omega)
  -- the last
  have last : ∀ (m i : Nat) (I : Nat → Bool) (s1 t : gSt), i + m = N → s1.1 65 1 = nI N → Fr [105] [64] s1 t → (∀ j, j < N → s1.1 104 j = zI (I j)) → t.1 65 64 = nI (fa_cnt I i) → (∀ j, j < i → I j = true → t.1 105 (fa_cnt I j) = nI j) → (∀ t1, Fr [105] [64] s1 t1 → t1.1 65 64 = nI (fa_cnt I N) → (∀ j, j < N → I j = true → t1.1 105 (fa_cnt I j) = nI j) → Q t1) → L_X12_findPart_142 Q (fun s57 => Q s57) (m + 1) (nI i) t := by
    intro m
    induction m with
    | zero =>
      intro i I s1 t hi hN1 hF hI h64 h105 hK
      obtain rfl : i = N := by omega
      rw [L_X12_findPart_142, (hF.2.1 1 (by decide)).1, hN1]
      exact bq_t (nI_le (Nat.le_refl _) (by omega)) (hK t hF h64 h105)
    | succ m ih =>
      intro i I s1 t hi hN1 hF hI h64 h105 hK
      rw [L_X12_findPart_142, (hF.2.1 1 (by decide)).1, hN1, nI_add]
      refine bq_f (nI_ge (by omega) (by omega)) (rI_i (by omega) ?_)
      rw [(hF.1 104 (by decide) (by decide)).1, hI i (by omega)]
      have hcl := fa_cnt_le I i
      refine br_z (fun e0 => ?_) (fun e0 => ?_)
      · refine ih (i + 1) I s1 t (by omega) hN1 hF hI (by rw [fa_cnt_no e0]; exact h64) (fun j hj hij => ?_) hK
        by_cases z : j = i
        · subst z; rw [e0] at hij; cases hij
        · exact h105 j (by omega) hij
      · rw [h64]
        refine wI_i (by omega) (fI_i ?_)
        rw [sI_get, if_neg (fun z => absurd z.1 (by decide)), h64, nI_add]
        refine ih (i + 1) I s1 _ (by omega) hN1 ((hF.i (by simp) (by decide)).f (by simp)) hI (by rw [sI_get, if_pos ⟨rfl, rfl⟩, fa_cnt_yes e0]) (fun j hj hij => ?_) hK
        rw [sI_get, if_neg (fun z => absurd z.1 (by decide)), sI_get]
        by_cases z : j = i
        · subst z; rw [if_pos ⟨rfl, rfl⟩]
        · have hlt : fa_cnt I j < fa_cnt I i := fa_cnt_ltn (by omega) hij
          rw [if_neg (by omega)]
          exact h105 j (by omega) hij
  unfold W_X12_findPart
  refine ⟨N + 1, first N 0 s _ (by omega) Fr.rf (fun j hj => absurd hj (Nat.not_lt_zero j)) (fun t1 f1 hI1 => ⟨N + 2, ?_⟩)⟩
  refine whole (N + 1) 0 (fun j => decide (j = e)) t1 _ (by omega) f1 hI1 (decide_eq_true rfl) (fun j hj hij => by rw [of_decide_eq_true hij]; exact Rch.rf e) (Nat.zero_le _) (fun t2 f2 hI2 => fI_i ⟨N + 1, ?_⟩)
  refine last N 0 (rc N U (hgP wt ti) e) (sI t2 65 64 (nI 0)) _ (by omega) ?_ Fr.rf hI2 (by rw [sI_get, if_pos ⟨rfl, rfl⟩]; rfl) (fun j hj => absurd hj (Nat.not_lt_zero j)) (fun t3 f3 h64 h105 => q t3 ?_ (fun j hj => ?_) h64 h105)
  · rw [sI_get, if_neg (by decide), (f2.2.1 1 (by simp)).1]; exact hN
  · exact ((f2.mono (ks' := [104, 105]) (js' := [64]) (by simp) (by simp)).f (by simp)).trans (f3.mono (by simp) (by simp))
  · rw [(f3.1 104 (by decide) (by decide)).1]; exact hI2 j hj
