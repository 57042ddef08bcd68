/-! the reference walks through the heapings of a part -/
def rmM (most : Nat) : Nat := if most = 0 then 30 else most
def mwC (t : gSt) (n most : Nat) (W : Nat → Nat → Int32) (A T : Nat → Nat → Bool) : Prop := t.1 65 64 = nI n ∧ t.1 65 41 = nI most ∧ (∀ i j, j < i → i < n → ∃ x y, x < 30 ∧ y < 30 ∧ t.1 105 j = nI x ∧ t.1 105 i = nI y ∧ t.1 90 (30 * x + y) = W i j ∧ t.1 92 (30 * x + y) = zI (A i j) ∧ t.1 93 (30 * x + y) = zI (T i j))
abbrev FW (t t2 : gSt) : Prop := Fr [106, 107, 108, 109, 110] [69, 70, 71, 74, 75, 77, 78, 79, 80] t t2
theorem mwC.fr {t t2 : gSt} {n most : Nat} {W : Nat → Nat → Int32} {A T : Nat → Nat → Bool} (h : mwC t n most W A T) (f : FW t t2) : mwC t2 n most W A T := by
  unfold mwC at h ⊢
  rw [(f.2.1 64 (by decide)).1, (f.2.1 41 (by decide)).1, (f.1 105 (by decide) (by decide)).1, (f.1 90 (by decide) (by decide)).1, (f.1 92 (by decide) (by decide)).1, (f.1 93 (by decide) (by decide)).1]
  exact h
def mwN (t : gSt) (i h : Nat) (a : Nat → Nat) : Prop := t.1 65 69 = nI h ∧ (∀ j, j < i → t.1 106 j = nI (a j)) ∧ (∀ k, k < h → t.1 107 k = nI (fb_ct (fun j => decide (0 ≤ j) && decide (a j = k)) i))
def mwOK {α : Type} (Rel : Nat → α → gSt → Prop) (step : α → (Nat → Nat) → α) (dear : α → Nat → Bool) (n most : Nat) (W : Nat → Nat → Int32) (A T : Nat → Nat → Bool) : Prop :=
  (∀ B x t c (Q : Int32 → Prop), Rel B x t → c < 1000000000 → Q (zI (dear x c)) → W_X12_isTooDear (lN c) Q t) ∧
  (∀ B x t t2, Rel B x t → Fr [106, 107] [69] t t2 → Rel B x t2) ∧
  (∀ B x t i a, Rel (B + 1) x t → i ≤ n → dear x (cSum W 0 a i) = true → ∀ b, (∀ j, j < i → b j = a j) → lwB 0 (rmM most) A T b n = true → Rel B (step x b) t ∧ dear (step x b) (cSum W 0 a i) = true) ∧
  (∀ B x t b, Rel (B + 1) x t → lwB 0 (rmM most) A T b n = false → Rel B (step x b) t ∧ ∀ c, dear (step x b) c = dear x c) ∧
  (∀ B x t a (Q : gSt → Prop), Rel (B + 1) x t → mwC t n most W A T → lwB 0 (rmM most) A T a n = true → dear x (cSum W 0 a n) = false → (∀ j, j < n → t.1 106 j = nI (a j) ∧ a j < 10) → (∀ t2, Fr [108, 109, 110] [70, 71, 74, 75, 77, 78, 79, 80] t t2 → Rel B (step x a) t2 → Q t2) → W_X12_leaf (lN (cSum W 0 a n)) Q t)
theorem p_mayCome {t : gSt} {n most : Nat} {W : Nat → Nat → Int32} {A T : Nat → Nat → Bool} (hn : n ≤ 10) (hm : most ≤ 30) (hC : mwC t n most W A T) {i h k : Nat} {a : Nat → Nat} (hi : i < n) (hN : mwN t i h a) (hc : canA 0 i h a) (hk : k ≤ h) {Q : Int32 → Prop} (q : Q (zI (mayB 0 (rmM most) A T a i k))) : W_X12_mayCome (nI i) (nI k) Q t := by
  have hle := hc.le (Nat.zero_le _)
  have loop : ∀ (m j : Nat), j + m = i → (∀ x, x < j → (if a x = k then A i x else T i x) = false) → fb_ct (fun j => decide (0 ≤ j) && decide (a j = k)) i < rmM most → L_X12_mayCome_32 Q (nI i) (nI k) t (Q (nI 1)) (m + 1) (nI j) := by
    intro m
    induction m with
    | zero =>
      intro j hj hb hct
      obtain rfl : j = i := by omega
      rw [L_X12_mayCome_32]
      refine bq_t (nI_le (Nat.le_refl _) (by omega)) ?_
      rw [mayB_iff.mpr ⟨fun x _ hx => hb x hx, hct⟩] at q
      exact q
    | succ m ih =>
      intro j hj hb hct
      rw [L_X12_mayCome_32]
      obtain ⟨x, y, hx, hy, e1, e2, e3, e4, e5⟩ := hC.2.2 i j (by omega) hi
      have haj := hc.1 j (Nat.zero_le _) (by omega)
      refine bq_f (nI_ge (by omega) (by omega)) (rI_i (by omega) ?_)
      rw [hN.2.1 j (by omega), nI_add]
      intro J8 hJ8
      have no : (if a j = k then A i j else T i j) = true → Q (nI 0) := fun w => by
        have e : mayB 0 (rmM most) A T a i k = false := by
          cases e : mayB 0 (rmM most) A T a i k
          · rfl
          · rw [(mayB_iff.mp e).1 j (Nat.zero_le _) (by omega)] at w
            cases w
        rw [e] at q
        exact q
      have yes : (if a j = k then A i j else T i j) = false → L_X12_mayCome_32 Q (nI i) (nI k) t (Q (nI 1)) (m + 1) (nI (j + 1)) := fun w => ih (j + 1) (by omega) (fun x hx => by
        by_cases z : x = j
        · subst z; exact w
        · exact hb x (by omega)) hct
      refine br_eq (by omega) (by omega) (fun z => hJ8 _ (bq_f (by decide) ?_)) (fun z => hJ8 _ (bq_t rfl ?_))
      · refine rI_i (by omega) (rI_i (by omega) ?_)
        rw [e1, e2, ix30]
        refine rI_i (by omega) ?_
        rw [e4]
        rw [if_pos z] at no yes
        exact br_z yes no
      · refine rI_i (by omega) (rI_i (by omega) ?_)
        rw [e1, e2, ix30]
        refine rI_i (by omega) ?_
        rw [e5]
        rw [if_neg z] at no yes
        exact br_z yes no
  unfold W_X12_mayCome
  intro J1 hJ1
  have good : fb_ct (fun j => decide (0 ≤ j) && decide (a j = k)) i < rmM most → J1 := fun hct => hJ1 ⟨i + 1, loop i 0 (by omega) (fun x hx => absurd hx (Nat.not_lt_zero x)) hct⟩
  have hcle := fb_ct_le (fun j => decide (0 ≤ j) && decide (a j = k)) i
  have hrm : most = 0 → rmM most = 30 := fun z => by rw [rmM, if_pos z]
  have hrm2 : ¬ most = 0 → rmM most = most := fun z => by rw [rmM, if_neg z]
  rw [hN.1, hC.2.1]
  refine br_le (by omega) (by omega) (fun hge => good ?_) (fun hlt => ⟨fun z => ?_, fun z => rI_i (by omega) ?_⟩)
  · have : fb_ct (fun j => decide (0 ≤ j) && decide (a j = k)) i = 0 := fb_ct_zero.mpr (fun j hj => by
      have := hc.1 j (Nat.zero_le _) hj
      rw [decide_eq_false (show ¬ a j = k by omega), Bool.and_false])
    by_cases z : most = 0
    · have := hrm z; omega
    · have := hrm2 z; omega
  · have : most = 0 := by
      by_cases y : most = 0
      · exact y
      · exact absurd z (nI_nle (by omega) (by omega))
    have := hrm this
    exact good (by omega)
  · have hmo : ¬ most = 0 := fun y => z (by rw [y]; decide)
    have := hrm2 hmo
    rw [hN.2.2 k hlt]
    refine br_lt (by omega) (by omega) (fun w => good (by omega)) (fun w => ?_)
    have e : mayB 0 (rmM most) A T a i k = false := by
      cases e : mayB 0 (rmM most) A T a i k
      · rfl
      · have := (mayB_iff.mp e).2
        omega
    rw [e] at q
    exact q
theorem cpr_N {w : Int32} (h : okW w) (same : Bool) : cpr w same = lN (cwN w same) := by
  obtain ⟨h1, h2⟩ := h
  have n0 : (nI 0 : Int32).toInt = 0 := by decide
  have hneg : (-w).toInt = -w.toInt := fb_negI (by omega)
  rw [fa_eq64]
  unfold cpr cwN
  rw [Int32.toInt_toInt64]
  cases same
  · show (if w < nI 0 then nI 0 else w).toInt = (lN w.toInt.toNat).toInt
    rw [lN_toInt (by omega)]
    by_cases z : w < nI 0
    · rw [if_pos z, n0]; rw [fa_lt, n0] at z; omega
    · rw [if_neg z]; rw [fa_lt, n0] at z; omega
  · show (if -w < nI 0 then nI 0 else -w).toInt = (lN (-w.toInt).toNat).toInt
    rw [lN_toInt (by omega)]
    by_cases z : -w < nI 0
    · rw [if_pos z, n0]; rw [fa_lt, hneg, n0] at z; omega
    · rw [if_neg z, hneg]; rw [fa_lt, hneg, n0] at z; omega
theorem p_adds {t : gSt} {n most : Nat} {W : Nat → Nat → Int32} {A T : Nat → Nat → Bool} (hn : n ≤ 10) (hW : ∀ i j, j < i → i < n → okW (W i j)) (hC : mwC t n most W A T) {i h k : Nat} {a : Nat → Nat} (hi : i < n) (hN : mwN t i h a) (hc : canA 0 i h a) (hk : k ≤ h) {Q : Int64 → Prop} (q : Q (lN (cRow W 0 a i k))) : W_X12_adds (nI i) (nI k) Q t := by
  have hle := hc.le (Nat.zero_le _)
  have loop : ∀ (m j : Nat), j + m = i → L_X12_adds_5 Q (nI i) (nI k) t (fun y => Q y) (m + 1) (lN (fb_sm (fun j => if 0 ≤ j then cwN (W i j) (decide (a j = k)) else 0) j)) (nI j) := by
    intro m
    induction m with
    | zero =>
      intro j hj
      obtain rfl : j = i := by omega
      rw [L_X12_adds_5]
      exact bq_t (nI_le (Nat.le_refl _) (by omega)) q
    | succ m ih =>
      intro j hj
      rw [L_X12_adds_5]
      obtain ⟨x, y, hx, hy, e1, e2, e3, e4, e5⟩ := hC.2.2 i j (by omega) hi
      have haj := hc.1 j (Nat.zero_le _) (by omega)
      refine bq_f (nI_ge (by omega) (by omega)) (rI_i (by omega) (rI_i (by omega) ?_))
      rw [e1, e2, ix30]
      refine rI_i (by omega) (rI_i (by omega) ?_)
      rw [e3, hN.2.1 j (by omega), nI_add]
      intro J12 hJ12
      refine cpr_m (hW i j (by omega) hi) (decide (a j = k)) (hJ12 _ ?_) (by rw [decide_eq_true_iff, nI_eq (by omega) (by omega)])
      rw [cpr_N (hW i j (by omega) hi), lN_add]
      have := ih (j + 1) (by omega)
      rw [fb_sm_succ, if_pos (Nat.zero_le _)] at this
      exact this
  unfold W_X12_adds
  exact ⟨i + 1, loop i 0 (by omega)⟩
