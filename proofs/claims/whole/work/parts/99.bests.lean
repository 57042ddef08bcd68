/-! the reference: the best ones of a part -/
abbrev BBs := Option Nat × BLs
def stB (n rm : Nat) (W : Nat → Nat → Int32) (A T : Nat → Nat → Bool) (x : BBs) (a : Nat → Nat) : BBs := if lwB 0 rm A T a n then (match x.1 with
  | none => (some (cSum W 0 a n), upL n ls0 a)
  | some c => if cSum W 0 a n < c then (some (cSum W 0 a n), upL n ls0 a) else if cSum W 0 a n = c then (some c, upL n x.2 a) else x) else x
def drB (x : BBs) (v : Nat) : Bool := match x.1 with
  | none => false
  | some c => decide (c < v)
def RelB (n : Nat) (B : Nat) (x : BBs) (t : gSt) : Prop := t.1 65 68 = nI 0 ∧ t.1 65 70 = nI x.2.1 ∧ x.2.1 + B ≤ 200000 ∧ (x.1 = none → t.2.1 65 75 = -1 ∧ x.2 = ls0) ∧ (∀ c, x.1 = some c → c ≤ 90000000 ∧ 1 ≤ x.2.1 ∧ t.2.1 65 75 = lN c ∧ t.1 65 71 = nI x.2.1 ∧ t.2.1 65 79 = x.2.2.1 ∧ t.2.1 65 80 = x.2.2.2.1 ∧ (∀ j, j < n → t.1 108 j = nI (x.2.2.2.2.1 j) ∧ x.2.2.2.2.1 j < 10) ∧ (∀ k, k < 200 → k < x.2.1 → t.2.1 110 k = x.2.2.2.2.2 k))
theorem stB_no {n rm : Nat} {W : Nat → Nat → Int32} {A T : Nat → Nat → Bool} {x : BBs} {a : Nat → Nat} (h : lwB 0 rm A T a n = false) : stB n rm W A T x a = x := by unfold stB; rw [h]; rfl
theorem m1_ltL : (-1 : Int64) < lN 0 := by decide
theorem lN_nlt0 {c : Nat} (h : c < 2147483648) : ¬ lN c < lN 0 := by rw [lN_lt h (by decide)]; omega
theorem okB {n most : Nat} {W : Nat → Nat → Int32} {A T : Nat → Nat → Bool} (hn : n ≤ 10) (hW : ∀ i j, j < i → i < n → okW (W i j)) : mwOK (RelB n) (stB n (rmM most) W A T) drB n most W A T := by
  have hb : ∀ (a : Nat → Nat) (i : Nat), i ≤ n → cSum W 0 a i ≤ 90000000 := fun a i hi => cSum_le (by omega) (fun i2 j h1 h2 => hW i2 j h1 (by omega))
  refine ⟨?_, ?_, ?_, ?_, ?_⟩
  · rintro B x t c Q ⟨h1, h2, h3, h4, h5⟩ hc q
    unfold W_X12_isTooDear
    rw [h1]
    refine bq_t rfl ?_
    unfold drB at q
    cases e : x.1 with
    | none =>
      rw [e] at q
      rw [(h4 e).1]
      exact bq_t m1_ltL q
    | some b =>
      rw [e] at q
      obtain ⟨k1, k2, k3, _⟩ := h5 b e
      rw [k3]
      refine bq_f (lN_nlt0 (by omega)) ?_
      rw [lN_lt (by omega) (by omega)]
      by_cases z : b < c
      · rw [show zI (decide (b < c)) = nI 1 by rw [decide_eq_true z]; rfl] at q
        exact bq_t z q
      · rw [show zI (decide (b < c)) = nI 0 by rw [decide_eq_false z]; rfl] at q
        exact bq_f z q
  · rintro B x t t2 ⟨h1, h2, h3, h4, h5⟩ f
    refine ⟨(f.2.1 68 (by decide)).1.trans h1, (f.2.1 70 (by decide)).1.trans h2, h3, fun e => ⟨(f.2.1 75 (by decide)).2.trans (h4 e).1, (h4 e).2⟩, fun c e => ?_⟩
    rw [(f.2.1 75 (by decide)).2, (f.2.1 71 (by decide)).1, (f.2.1 79 (by decide)).2, (f.2.1 80 (by decide)).2, (f.1 108 (by decide) (by decide)).1, (f.1 110 (by decide) (by decide)).2]
    exact h5 c e
  · rintro B x t i a ⟨h1, h2, h3, h4, h5⟩ hin hd b hb1 hlw
    have hsame : stB n (rmM most) W A T x b = x := by
      unfold drB at hd
      cases e : x.1 with
      | none => rw [e] at hd; cases hd
      | some c =>
        rw [e] at hd
        have hd := of_decide_eq_true hd
        have e1 : cSum W 0 b i = cSum W 0 a i := cSum_cong (fun j _ j2 => hb1 j j2)
        have e2 := cSum_pre (W := W) (s := 0) (a := b) hin
        unfold stB
        rw [if_pos hlw, e]
        have k1 : ¬ cSum W 0 b n < c := by omega
        have k2 : ¬ cSum W 0 b n = c := by omega
        simp only [k1, k2, if_false]
    rw [hsame]
    exact ⟨⟨h1, h2, by omega, h4, h5⟩, hd⟩
  · rintro B x t b ⟨h1, h2, h3, h4, h5⟩ hlw
    rw [stB_no hlw]
    exact ⟨⟨h1, h2, by omega, h4, h5⟩, fun _ => rfl⟩
  · rintro B x t a Q ⟨h1, h2, h3, h4, h5⟩ hC hlw hd h106 hQ
    have ec := hb a n (Nat.le_refl _)
    unfold W_X12_leaf
    rw [h1]
    refine bq_t rfl ?_
    intro J61 hJ61
    -- behind the setting anew
    have tail : ∀ (s : gSt) (y : BLs), Fr [108] [70, 71, 75, 79, 80] t s → s.2.1 65 75 = lN (cSum W 0 a n) → s.1 65 70 = nI y.1 → s.1 65 71 = nI y.1 → s.2.1 65 79 = y.2.1 → s.2.1 65 80 = y.2.2.1 → (∀ j, j < n → s.1 108 j = nI ((upL n y a).2.2.2.1 j) ∧ (upL n y a).2.2.2.1 j < 10) → (∀ k, k < 200 → k < y.1 → s.2.1 110 k = y.2.2.2.2 k) → y.1 + 1 + B ≤ 200000 → stB n (rmM most) W A T x a = (some (cSum W 0 a n), upL n y a) → J61 s := by
      intro s y fs s75 s70 s71 s79 s80 s108 s110 hy est
      refine hJ61 s (p_maskNow hn ((fs.2.1 64 (by decide)).1.trans hC.1) (fun j hj => ⟨by rw [(fs.1 106 (by decide) (by decide)).1]; exact (h106 j hj).1, (h106 j hj).2⟩) (fI_i (fL_i (fL_i ?_))))
      generalize hu : sL (sL (sI s 65 70 (s.1 65 70 + nI 1)) 65 79 ((sI s 65 70 (s.1 65 70 + nI 1)).2.1 65 79 &&& pmL 0 a n)) 65 80 ((sL (sI s 65 70 (s.1 65 70 + nI 1)) 65 79 ((sI s 65 70 (s.1 65 70 + nI 1)).2.1 65 79 &&& pmL 0 a n)).2.1 65 80 ||| pmL 0 a n) = u
      have fu : Fr [] [70, 79, 80] s u := by rw [← hu]; exact ((Fr.rf.f (by simp)).g (by simp)).g (by simp)
      have u70 : u.1 65 70 = nI (y.1 + 1) := by rw [← hu, sL_get1, sL_get1, sI_get, if_pos ⟨rfl, rfl⟩, s70, nI_add]
      have u79 : u.2.1 65 79 = y.2.1 &&& pmL 0 a n := by rw [← hu, sL_get, if_neg (by omega), sL_get, if_pos ⟨rfl, rfl⟩, sI_get2, s79]
      have u80 : u.2.1 65 80 = y.2.2.1 ||| pmL 0 a n := by rw [← hu, sL_get, if_pos ⟨rfl, rfl⟩, sL_get, if_neg (by omega), sI_get2, s80]
      have u71 : u.1 65 71 = nI y.1 := (fu.2.1 71 (by decide)).1.trans s71
      intro J67 hJ67
      have last : ∀ v : gSt, Fr [110] [] u v → (∀ k, k < 200 → k < y.1 + 1 → v.2.1 110 k = (upL n y a).2.2.2.2 k) → J67 v := by
        intro v fv v110
        refine hJ67 v (fI_i ?_)
        have fw : Fr [] [71] v (sI v 65 71 (v.1 65 71 + nI 1)) := Fr.rf.f (by simp)
        refine hQ _ (((fs.mono (by simp) (by simp)).trans (fu.mono (by simp) (by simp))).trans ((fv.mono (by simp) (by simp)).trans (fw.mono (by simp) (by simp)))) ?_
        rw [est]
        refine ⟨?_, ?_, hy, fun e => (by cases e), fun c e => ?_⟩
        · rw [(fw.2.1 68 (by decide)).1, (fv.2.1 68 (by decide)).1, (fu.2.1 68 (by decide)).1, (fs.2.1 68 (by decide)).1]; exact h1
        · rw [(fw.2.1 70 (by decide)).1, (fv.2.1 70 (by decide)).1]; exact u70
        · have ec2 : cSum W 0 a n = c := by simpa using e
          subst ec2
          refine ⟨ec, Nat.le_add_left _ _, ?_, ?_, ?_, ?_, fun j hj => ?_, fun k k1 k2 => ?_⟩
          · rw [(fw.2.1 75 (by decide)).2, (fv.2.1 75 (by decide)).2, (fu.2.1 75 (by decide)).2]; exact s75
          · rw [sI_get, if_pos ⟨rfl, rfl⟩, (fv.2.1 71 (by decide)).1, u71, nI_add]; rfl
          · rw [(fw.2.1 79 (by decide)).2, (fv.2.1 79 (by decide)).2]; exact u79
          · rw [(fw.2.1 80 (by decide)).2, (fv.2.1 80 (by decide)).2]; exact u80
          · rw [(fw.1 108 (by decide) (by decide)).1, (fv.1 108 (by decide) (by decide)).1, (fu.1 108 (by decide) (by decide)).1]; exact s108 j hj
          · rw [(fw.1 110 (by decide) (by decide)).2]; exact v110 k k1 k2
      have u110 : u.2.1 110 = s.2.1 110 := (fu.1 110 (by decide) (by decide)).2
      rw [u71]
      refine br_le (by decide) (by omega) (fun hle => last u Fr.rf (fun k k1 k2 => ?_)) (fun hlt => wL_e rfl hlt (last _ (Fr.rf.l (by simp) (by decide)) (fun k k1 k2 => ?_)))
      · rw [u110, s110 k k1 (by omega)]
        exact (if_neg (show ¬ k = y.1 by omega)).symm
      · rw [sL_get]
        by_cases q : k = y.1
        · rw [if_pos ⟨rfl, q⟩]; exact (if_pos q).symm
        · rw [if_neg (fun w => q w.2), u110, s110 k k1 (by omega)]
          exact (if_neg q).symm
    intro J71 hJ71
    have anew : stB n (rmM most) W A T x a = (some (cSum W 0 a n), upL n ls0 a) → 1 + B ≤ 200000 → J71 := by
      intro est hB1
      refine hJ71 (fL_i (fI_i (fI_i (fL_i (fL_i ?_)))))
      generalize hu : sL (sL (sI (sI (sL t 65 75 (lN (cSum W 0 a n))) 65 70 (nI 0)) 65 71 (nI 0)) 65 79 (-1)) 65 80 (lN 0) = u
      have fu : Fr [] [70, 71, 75, 79, 80] t u := by rw [← hu]; exact ((((Fr.rf.g (by simp)).f (by simp)).f (by simp)).g (by simp)).g (by simp)
      have u75 : u.2.1 65 75 = lN (cSum W 0 a n) := by rw [← hu, sL_get, if_neg (by omega), sL_get, if_neg (by omega), sI_get2, sI_get2, sL_get, if_pos ⟨rfl, rfl⟩]
      have u70 : u.1 65 70 = nI 0 := by rw [← hu, sL_get1, sL_get1, sI_get, if_neg (by omega), sI_get, if_pos ⟨rfl, rfl⟩]
      have u71 : u.1 65 71 = nI 0 := by rw [← hu, sL_get1, sL_get1, sI_get, if_pos ⟨rfl, rfl⟩]
      have u79 : u.2.1 65 79 = -1 := by rw [← hu, sL_get, if_neg (by omega), sL_get, if_pos ⟨rfl, rfl⟩]
      have u80 : u.2.1 65 80 = lN 0 := by rw [← hu, sL_get, if_pos ⟨rfl, rfl⟩]
      have lp1 : ∀ (m j : Nat) (v : gSt), j + m = n → Fr [108] [] u v → (∀ y, y < j → v.1 108 y = nI (a y)) → L_X12_leaf_54 Q (fun s84 => J61 s84) (m + 1) (nI j) v := by
        intro m
        induction m with
        | zero =>
          intro j v hj fv hv
          obtain rfl : j = n := by omega
          rw [L_X12_leaf_54, (fv.2.1 64 (by decide)).1, (fu.2.1 64 (by decide)).1, hC.1]
          refine bq_t (nI_le (Nat.le_refl _) (by omega)) (tail v ls0 ((fu.mono (by simp) (by simp)).trans (fv.mono (by simp) (by simp))) ?_ ?_ ?_ ?_ ?_ (fun y hy => ?_) (fun k _ q => absurd q (Nat.not_lt_zero _)) (by show 0 + 1 + B ≤ 200000; omega) est)
          · rw [(fv.2.1 75 (by decide)).2]; exact u75
          · rw [(fv.2.1 70 (by decide)).1]; exact u70
          · rw [(fv.2.1 71 (by decide)).1]; exact u71
          · rw [(fv.2.1 79 (by decide)).2]; exact u79
          · rw [(fv.2.1 80 (by decide)).2]; exact u80
          · have e1 : (upL j ls0 a).2.2.2.1 = a := rfl
            rw [e1]
            exact ⟨hv y hy, (h106 y hy).2⟩
        | succ m ih =>
          intro j v hj fv hv
          rw [L_X12_leaf_54, (fv.2.1 64 (by decide)).1, (fu.2.1 64 (by decide)).1, hC.1]
          refine bq_f (nI_ge (by omega) (by omega)) (rI_i (by omega) (wI_i (by omega) ?_))
          rw [nI_add]
          refine ih (j + 1) _ (by omega) (fv.i (by simp) (by decide)) (fun y hy => ?_)
          rw [sI_get]
          by_cases q : y = j
          · subst q
            rw [if_pos ⟨rfl, rfl⟩, (fv.1 106 (by decide) (by decide)).1, (fu.1 106 (by decide) (by decide)).1]
            exact (h106 y (by omega)).1
          · rw [if_neg (fun w => q w.2)]; exact hv y (by omega)
      exact ⟨n + 1, lp1 n 0 u (by omega) Fr.rf (fun y hy => absurd hy (Nat.not_lt_zero y))⟩
    cases e : x.1 with
    | none =>
      obtain ⟨k1, k2⟩ := h4 e
      rw [k1]
      refine bq_t m1_ltL (anew ?_ (by rw [k2] at h3; simp only [ls0] at h3; omega))
      unfold stB
      rw [if_pos hlw, e]
    | some c =>
      obtain ⟨k1, k2, k3, k4, k5, k6, k7, k8⟩ := h5 c e
      rw [k3]
      refine bq_f (lN_nlt0 (by omega)) ?_
      rw [lN_lt (by omega) (by omega)]
      refine ⟨fun z => anew ?_ (by omega), fun z => ?_⟩
      · unfold stB
        rw [if_pos hlw, e]
        simp only [z, if_true]
      · have hd2 : ¬ c < cSum W 0 a n := by
          unfold drB at hd
          rw [e] at hd
          exact of_decide_eq_false hd
        have ecc : cSum W 0 a n = c := by omega
        refine tail t x.2 Fr.rf (by rw [ecc]; exact k3) h2 k4 k5 k6 (fun j hj => ?_) k8 (by omega) ?_
        · have e1 : (upL n x.2 a).2.2.2.1 = x.2.2.2.2.1 := if_neg (by omega)
          rw [e1]
          exact k7 j hj
        · unfold stB
          rw [if_pos hlw, e]
          have k9 : ¬ cSum W 0 a n < c := z
          simp only [ecc, Nat.lt_irrefl, if_false, if_true]
/-- what the reference keeps is what the class lists -/
theorem stB_fold {n rm : Nat} {W : Nat → Nat → Int32} {A T : Nat → Nat → Bool} : ∀ (l p : List (Nat → Nat)) (c : Option Nat), p.foldl (stM 0 n rm W A T) none = c → p.foldl (stB n rm W A T) (none, ls0) = (c, match c with
  | none => ls0
  | some d => p.foldl (stL n rm W A T d) ls0) → (p ++ l).foldl (stB n rm W A T) (none, ls0) = ((p ++ l).foldl (stM 0 n rm W A T) none, match (p ++ l).foldl (stM 0 n rm W A T) none with
  | none => ls0
  | some d => (p ++ l).foldl (stL n rm W A T d) ls0)
  | [], p, c, h1, h2 => by rw [List.append_nil, h2, h1]
  | a :: l, p, c, h1, h2 => by
    rw [show p ++ a :: l = (p ++ [a]) ++ l by simp]
    have hM : (p ++ [a]).foldl (stM 0 n rm W A T) none = stM 0 n rm W A T c a := by rw [List.foldl_append, h1]; rfl
    refine stB_fold l (p ++ [a]) (stM 0 n rm W A T c a) hM ?_
    rw [List.foldl_append, h2, List.foldl_cons, List.foldl_nil]
    have hL : ∀ d, (p ++ [a]).foldl (stL n rm W A T d) ls0 = stL n rm W A T d (p.foldl (stL n rm W A T d) ls0) a := fun d => by rw [List.foldl_append]; rfl
    by_cases z : lwB 0 rm A T a n = true
    · have hlow : ∀ d, (∀ e, c = some e → d < e) → p.foldl (stL n rm W A T d) ls0 = ls0 := fun d hd => fold_no (fun b hb => if_neg (fun w => by
        obtain ⟨e, e1, e2⟩ := (stM_fold (s := 0) (n := n) (rm := rm) (W := W) (A := A) (T := T) p none).2.1 b hb w.1
        have := hd e (by rw [← h1]; exact e1)
        omega))
      cases c with
      | none =>
        have e1 : stM 0 n rm W A T none a = some (cSum W 0 a n) := by unfold stM; rw [if_pos z]
        rw [e1]
        simp only [hL]
        rw [hlow (cSum W 0 a n) (fun e he => by cases he)]
        unfold stB stL
        rw [if_pos z, if_pos ⟨z, rfl⟩]
      | some c =>
        by_cases y : cSum W 0 a n < c
        · have e1 : stM 0 n rm W A T (some c) a = some (cSum W 0 a n) := by unfold stM; rw [if_pos z]; simp only [y, if_true]
          rw [e1]
          simp only [hL]
          rw [hlow (cSum W 0 a n) (fun e he => by rw [Option.some.injEq] at he; omega)]
          unfold stB stL
          rw [if_pos z, if_pos ⟨z, rfl⟩]
          simp only [y, if_true]
        · have e1 : stM 0 n rm W A T (some c) a = some c := by unfold stM; rw [if_pos z]; simp only [y, if_false]
          rw [e1]
          simp only [hL]
          unfold stB
          rw [if_pos z]
          simp only [y, if_false]
          by_cases x : cSum W 0 a n = c
          · simp only [x, if_true]
            rw [show stL n rm W A T c (p.foldl (stL n rm W A T c) ls0) a = upL n (p.foldl (stL n rm W A T c) ls0) a from if_pos ⟨z, x⟩]
          · simp only [x, if_false]
            rw [show stL n rm W A T c (p.foldl (stL n rm W A T c) ls0) a = p.foldl (stL n rm W A T c) ls0 from if_neg (fun w => x w.2)]
    · have z := ts_nt z
      rw [stB_no z, stM_no z]
      cases c with
      | none => rfl
      | some c =>
        simp only [hL]
        rw [show stL n rm W A T c (p.foldl (stL n rm W A T c) ls0) a = p.foldl (stL n rm W A T c) ls0 from if_neg (fun w => by rw [z] at w; exact absurd w.1 (by decide))]
theorem stB_all {n rm : Nat} {W : Nat → Nat → Int32} {A T : Nat → Nat → Bool} : (lvs n 0 0 (fun _ => 0)).foldl (stB n rm W A T) (none, ls0) = (mnS n rm W A T 0, match mnS n rm W A T 0 with
  | none => ls0
  | some d => lsA n rm W A T d) := stB_fold (lvs n 0 0 (fun _ => 0)) [] none rfl rfl
/-- what bests() leaves behind -/
def RefB (n c : Nat) (x : BLs) (t : gSt) : Prop := c ≤ 90000000 ∧ 1 ≤ x.1 ∧ x.1 ≤ 200000 ∧ t.1 65 70 = nI x.1 ∧ t.2.1 65 75 = lN c ∧ t.1 65 71 = nI x.1 ∧ t.2.1 65 79 = x.2.1 ∧ t.2.1 65 80 = x.2.2.1 ∧ (∀ j, j < n → t.1 108 j = nI (x.2.2.2.1 j) ∧ x.2.2.2.1 j < 10) ∧ (∀ k, k < 200 → k < x.1 → t.2.1 110 k = x.2.2.2.2 k)
theorem p_bests {t : gSt} {n most : Nat} {W : Nat → Nat → Int32} {A T : Nat → Nat → Bool} (h30 : n ≤ 30) (hm30 : most ≤ 30) (hC : mwC t n most W A T) (hW : ∀ i j, j < i → i < n → okW (W i j)) {Q : Int32 → gSt → Prop}
    (q2 : 10 < n → Q (-2) t)
    (q1 : n ≤ 10 → mnS n (rmM most) W A T 0 = none → ∀ t2, Fr [106, 107, 108, 109, 110] [68, 69, 70, 71, 74, 75, 77, 78, 79, 80] t t2 → t2.1 65 70 = nI 0 → Q (-1) t2)
    (q0 : n ≤ 10 → ∀ c, mnS n (rmM most) W A T 0 = some c → ∀ t2, Fr [106, 107, 108, 109, 110] [68, 69, 70, 71, 74, 75, 77, 78, 79, 80] t t2 → RefB n c (lsA n (rmM most) W A T c) t2 → Q (nI 0) t2) : W_X12_bests Q t := by
  unfold W_X12_bests
  rw [hC.1]
  refine br_le (by omega) (by decide) (fun hn => ?_) (fun hn => q2 hn)
  refine fL_i (fI_i ?_)
  unfold W_X12_walks
  refine fI_i (fI_i ?_)
  generalize hu : sI (sI (sI (sL t 65 75 (-1)) 65 70 (nI 0)) 65 68 (nI 0)) 65 69 (nI 0) = u
  have fu : Fr [] [68, 69, 70, 75] t u := by rw [← hu]; exact (((Fr.rf.g (by simp)).f (by simp)).f (by simp)).f (by simp)
  have hCu : mwC u n most W A T := by
    unfold mwC at hC ⊢
    rw [(fu.2.1 64 (by decide)).1, (fu.2.1 41 (by decide)).1, (fu.1 105 (by decide) (by decide)).1, (fu.1 90 (by decide) (by decide)).1, (fu.1 92 (by decide) (by decide)).1, (fu.1 93 (by decide) (by decide)).1]
    exact hC
  have hR : RelB n (0 + (lvs n 0 0 (fun _ => 0)).length) (none, ls0) u := by
    refine ⟨?_, ?_, ?_, fun _ => ⟨?_, rfl⟩, fun c e => (by cases e)⟩
    · rw [← hu, sI_get, if_neg (by omega), sI_get, if_pos ⟨rfl, rfl⟩]
    · rw [← hu, sI_get, if_neg (by omega), sI_get, if_neg (by omega), sI_get, if_pos ⟨rfl, rfl⟩]; rfl
    · have := lvs_cap hn
      show 0 + _ ≤ _
      omega
    · rw [← hu, sI_get2, sI_get2, sI_get2, sL_get, if_pos ⟨rfl, rfl⟩]
  have hp := p_walk (okB (most := most) (A := A) (T := T) hn hW) hn hm30 hW n 12 0 0 (fun _ => 0) 0 (none, ls0) u (fun s4 => (((s4.1 65 70) = 0 → (Q ((-1 : Int32)) s4)) ∧ (¬ (s4.1 65 70) = 0 → (Q (nI 0) s4)))) (by omega) (by omega) hCu ⟨by rw [← hu, sI_get, if_pos ⟨rfl, rfl⟩], fun j hj => by omega, fun k hk => by omega⟩ hR (canA_0 0 _) lwB_0 (fun t2 f2 hN2 hx2 => ?_)
  · rw [cSum_0] at hp
    exact hp
  · rw [stB_all] at hx2
    have fall : Fr [106, 107, 108, 109, 110] [68, 69, 70, 71, 74, 75, 77, 78, 79, 80] t t2 := (fu.mono (by simp) (by simp)).trans (f2.mono (by simp) (by simp))
    obtain ⟨h1, h2, h3, h4, h5⟩ := hx2
    cases e : mnS n (rmM most) W A T 0 with
    | none =>
      rw [e] at h2
      exact bq_t h2 (q1 hn e t2 fall h2)
    | some c =>
      rw [e] at h2 h3
      simp only [] at h2 h3
      obtain ⟨k1, k2, k3, k4, k5, k6, k7, k8⟩ := h5 c e
      rw [e] at k2 k4 k5 k6 k7 k8
      simp only [] at k2 k4 k5 k6 k7 k8
      refine bq_f (by rw [h2, show (0 : Int32) = nI 0 from rfl, nI_eq (by omega) (by decide)]; omega) (q0 hn c e t2 fall ⟨k1, k2, by omega, h2, k3, k4, k5, k6, k7, k8⟩)
