/-! what the best of a part costs: the class measures its ends -/
def stM (s n rm : Nat) (W : Nat → Nat → Int32) (A T : Nat → Nat → Bool) (x : Option Nat) (a : Nat → Nat) : Option Nat := if lwB s rm A T a n then (match x with
  | none => some (cSum W s a n)
  | some c => if cSum W s a n < c then some (cSum W s a n) else some c) else x
def mnS (n rm : Nat) (W : Nat → Nat → Int32) (A T : Nat → Nat → Bool) (s : Nat) : Option Nat := (lvs (n - s) s 0 (fun _ => 0)).foldl (stM s n rm W A T) none
def rS (n rm : Nat) (W : Nat → Nat → Int32) (A T : Nat → Nat → Bool) (s : Nat) : Nat := (mnS n rm W A T s).getD 0
theorem stM_no {s n rm : Nat} {W : Nat → Nat → Int32} {A T : Nat → Nat → Bool} {x : Option Nat} {a : Nat → Nat} (h : lwB s rm A T a n = false) : stM s n rm W A T x a = x := by unfold stM; rw [h]; rfl
theorem stM_fold {s n rm : Nat} {W : Nat → Nat → Int32} {A T : Nat → Nat → Bool} : ∀ (l : List (Nat → Nat)) (x : Option Nat), (∀ c, x = some c → ∃ d, l.foldl (stM s n rm W A T) x = some d ∧ d ≤ c) ∧ (∀ b ∈ l, lwB s rm A T b n = true → ∃ d, l.foldl (stM s n rm W A T) x = some d ∧ d ≤ cSum W s b n) ∧ (∀ d, l.foldl (stM s n rm W A T) x = some d → x = some d ∨ ∃ b, lwB s rm A T b n = true ∧ cSum W s b n = d)
  | [], x => ⟨fun c h => ⟨c, h, Nat.le_refl _⟩, fun b hb => (by cases hb), fun d h => .inl h⟩
  | a :: l, x => by
    obtain ⟨i1, i2, i3⟩ := stM_fold l (stM s n rm W A T x a)
    rw [List.foldl_cons]
    have hx : ∀ c, x = some c → ∃ d, stM s n rm W A T x a = some d ∧ d ≤ c := by
      rintro c rfl
      unfold stM
      by_cases z : lwB s rm A T a n = true
      · rw [if_pos z]
        by_cases y : cSum W s a n < c
        · exact ⟨cSum W s a n, by simp only [y, if_true], by omega⟩
        · exact ⟨c, by simp only [y, if_false], Nat.le_refl _⟩
      · rw [if_neg z]; exact ⟨c, rfl, Nat.le_refl _⟩
    have ha : lwB s rm A T a n = true → ∃ d, stM s n rm W A T x a = some d ∧ d ≤ cSum W s a n := by
      intro z
      unfold stM
      rw [if_pos z]
      cases x with
      | none => exact ⟨_, rfl, Nat.le_refl _⟩
      | some c =>
        by_cases y : cSum W s a n < c
        · exact ⟨cSum W s a n, by simp only [y, if_true], Nat.le_refl _⟩
        · exact ⟨c, by simp only [y, if_false], by omega⟩
    refine ⟨fun c h => ?_, fun b hb hl => ?_, fun d h => ?_⟩
    · obtain ⟨d, h1, h2⟩ := hx c h
      obtain ⟨e, h3, h4⟩ := i1 d h1
      exact ⟨e, h3, by omega⟩
    · rw [List.mem_cons] at hb
      rcases hb with rfl | hb
      · obtain ⟨d, h1, h2⟩ := ha hl
        obtain ⟨e, h3, h4⟩ := i1 d h1
        exact ⟨e, h3, by omega⟩
      · exact i2 b hb hl
    · rcases i3 d h with h | h
      · unfold stM at h
        by_cases z : lwB s rm A T a n = true
        · rw [if_pos z] at h
          cases x with
          | none =>
            simp only [Option.some.injEq] at h
            exact .inr ⟨a, z, h⟩
          | some c =>
            by_cases y : cSum W s a n < c
            · simp only [y, if_true, Option.some.injEq] at h
              exact .inr ⟨a, z, h⟩
            · simp only [y, if_false] at h
              exact .inl h
        · rw [if_neg z] at h
          exact .inl h
      · exact .inr h
theorem canA_0 (s : Nat) (a : Nat → Nat) : canA s s 0 a := ⟨fun j h1 h2 => by omega, fun k hk => by omega⟩
theorem mnS_none {n rm s : Nat} {W : Nat → Nat → Int32} {A T : Nat → Nat → Bool} (hs : s ≤ n) (h : mnS n rm W A T s = none) (b : Nat → Nat) : lwB s rm A T b n = false := by
  cases e : lwB s rm A T b n
  · rfl
  · obtain ⟨c, hc, hk⟩ := lvs_full (b := b) (n - s) s 0 (fun _ => 0) (Nat.le_refl _) (canA_0 s _) (fun i j h1 h2 => by omega)
    rw [show s + (n - s) = n by omega] at hk
    obtain ⟨d, h1, -⟩ := (stM_fold (s := s) (n := n) (rm := rm) (W := W) (A := A) (T := T) (lvs (n - s) s 0 (fun _ => 0)) none).2.1 c hc (by rw [lwB_ker hk]; exact e)
    unfold mnS at h
    rw [h] at h1
    cases h1
theorem mnS_some {n rm s c : Nat} {W : Nat → Nat → Int32} {A T : Nat → Nat → Bool} (hs : s ≤ n) (h : mnS n rm W A T s = some c) : (∀ b, lwB s rm A T b n = true → c ≤ cSum W s b n) ∧ ∃ b, lwB s rm A T b n = true ∧ cSum W s b n = c := by
  have hf := stM_fold (s := s) (n := n) (rm := rm) (W := W) (A := A) (T := T) (lvs (n - s) s 0 (fun _ => 0)) none
  unfold mnS at h
  refine ⟨fun b hb => ?_, ?_⟩
  · obtain ⟨c2, hc, hk⟩ := lvs_full (b := b) (n - s) s 0 (fun _ => 0) (Nat.le_refl _) (canA_0 s _) (fun i j h1 h2 => by omega)
    rw [show s + (n - s) = n by omega] at hk
    obtain ⟨d, h1, h2⟩ := hf.2.1 c2 hc (by rw [lwB_ker hk]; exact hb)
    rw [h, Option.some.injEq] at h1
    rw [← cSum_ker hk, h1]
    exact h2
  · rcases hf.2.2 c h with h | h
    · cases h
    · exact h
theorem cSum_0 {W : Nat → Nat → Int32} {s : Nat} {a : Nat → Nat} : cSum W s a s = 0 := by
  unfold cSum
  rw [fb_sm_cong (g := fun _ => 0) (fun k hk => if_neg (by omega)), fb_sm_const]
  omega
theorem pmL_0 {s : Nat} {a : Nat → Nat} : pmL s a s = lN 0 := by
  cases s with
  | zero => rfl
  | succ s => rw [pmL, if_neg (by omega)]
theorem odN_0 {z s : Nat} {H : Nat → Nat → Bool} {a : Nat → Nat} : odN z H s a s = 0 := by
  unfold odN
  by_cases q : z = 2
  · rw [if_pos q, fb_sm_cong (g := fun _ => 0) (fun k hk => if_neg (by omega)), fb_sm_const]; omega
  · rw [if_neg q]
theorem lwB_0 {s rm : Nat} {A T : Nat → Nat → Bool} {a : Nat → Nat} : lwB s rm A T a s = true := lwB_iff.mpr (fun i h1 h2 => by omega)
theorem mnS_end {n rm : Nat} {W : Nat → Nat → Int32} {A T : Nat → Nat → Bool} : mnS n rm W A T n = some 0 := by
  unfold mnS
  rw [Nat.sub_self, lvs, List.foldl_cons, List.foldl_nil]
  unfold stM
  rw [if_pos lwB_0, cSum_0]
/-- what the rests are: no end of a lawful heaping costs less -/
theorem rS_le {n rm s : Nat} {W : Nat → Nat → Int32} {A T : Nat → Nat → Bool} (hs : s ≤ n) {b : Nat → Nat} (hb : lwB s rm A T b n = true) : rS n rm W A T s ≤ cSum W s b n := by
  unfold rS
  cases e : mnS n rm W A T s with
  | none => rw [mnS_none hs e b] at hb; cases hb
  | some c => exact (mnS_some hs e).1 b hb
theorem rS_big {n rm s : Nat} {W : Nat → Nat → Int32} {A T : Nat → Nat → Bool} (hs : s ≤ n) (hn : n ≤ 10) (hW : ∀ i j, j < i → i < n → okW (W i j)) : rS n rm W A T s ≤ 90000000 := by
  unfold rS
  cases e : mnS n rm W A T s with
  | none => exact Nat.zero_le _
  | some c =>
    obtain ⟨b, _, h⟩ := (mnS_some hs e).2
    show c ≤ 90000000
    rw [← h]
    exact cSum_le hn hW
/-- a part that is loaded -/
def ldC (t : gSt) (n rm : Nat) (W : Nat → Nat → Int32) (A T : Nat → Nat → Bool) : Prop := t.1 50 0 = nI n ∧ t.1 50 1 = nI rm ∧ (∀ i j, j < i → i < n → t.1 52 (i * 10 + j) = W i j) ∧ (∀ i k, i < n → k < 32 → bt (t.1 53 i) k = (decide (k < n) && decide (k ≠ i) && A i k)) ∧ (∀ i k, i < n → k < 32 → bt (t.1 54 i) k = (decide (k < n) && decide (k ≠ i) && T i k))
theorem ldC.fr {t t2 : gSt} {n rm : Nat} {W : Nat → Nat → Int32} {A T : Nat → Nat → Bool} {ks : List Nat} (h : ldC t n rm W A T) (f : Off ks t t2) (hk : 50 ∉ ks ∧ 52 ∉ ks ∧ 53 ∉ ks ∧ 54 ∉ ks) : ldC t2 n rm W A T := by
  unfold ldC at h ⊢
  rw [(f.1 50 hk.1).1, (f.1 52 hk.2.1).1, (f.1 53 hk.2.2.1).1, (f.1 54 hk.2.2.2).1]
  exact h
def BIGN : Int32 := 1073741823
def limM : Option Nat → Int32
  | none => BIGN
  | some c => nI c - nI 1
def valM : Option Nat → Int32
  | none => BIGN
  | some c => nI c
def RelM (_ : Nat) (x : Option Nat) (t : gSt) : Prop := t.1 56 12 = limM x ∧ t.1 56 2 = BIGN ∧ t.1 56 0 = valM x ∧ ∀ c, x = some c → c ≤ 90000000
theorem BIGN_nI : BIGN = nI 1073741823 := fa_lit 1073741823
theorem nI_pre_lt {c v : Nat} (hc : c < 2147483648) (hv : v < 2147483648) : nI c - nI 1 < nI v ↔ c < v + 1 := by
  rw [fa_lt, nI_toInt hv]
  by_cases z : c = 0
  · subst z
    rw [show (nI 0 - nI 1 : Int32).toInt = -1 by decide]
    omega
  · rw [nI_sub (by omega), nI_toInt (by omega)]
    omega
theorem okM {s n rm : Nat} {W : Nat → Nat → Int32} {A T H : Nat → Nat → Bool} (hn : n ≤ 10) (hsn : s < n) (hW : ∀ i j, j < i → i < n → okW (W i j)) : dfOK RelM (stM s n rm W A T) s n rm 0 W A T H (rS n rm W A T) := by
  have hb : ∀ (a : Nat → Nat) (i : Nat), i ≤ n → cSum W s a i ≤ 90000000 := fun a i hi => cSum_le (by omega) (fun i2 j h1 h2 => hW i2 j h1 (by omega))
  refine ⟨?_, ?_, ?_, ?_⟩
  · rintro B x t t2 ⟨h1, h2, h3, h4⟩ hO hk hl
    exact ⟨(hk 12 (by decide)).trans h1, (hk 2 (by decide)).trans h2, (hk 0 (by decide)).trans h3, h4⟩
  · rintro B x t i a ⟨h1, h2, h3, h4⟩ hsi hin hcond b hb1 hlw
    have hsame : stM s n rm W A T x b = x := by
      have e1 : cSum W s b i = cSum W s a i := cSum_cong (fun j j1 j2 => hb1 j j1 j2)
      have e2 := cSum_end (W := W) (s := s) (i := i) (n := n) (a := b) (by omega) hin
      have e3 := rS_le (W := W) hin (lwB_end (show s ≤ i by omega) hlw)
      have e4 := rS_big (rm := rm) (A := A) (T := T) hin hn hW
      have e5 := hb a i hin
      rcases hcond with hc | hc
      · rw [h1, nI_add] at hc
        cases x with
        | none =>
          exfalso
          rw [limM, BIGN_nI, nI_ltI (by omega) (by omega)] at hc
          omega
        | some c =>
          have := h4 c rfl
          rw [limM, nI_pre_lt (by omega) (by omega)] at hc
          unfold stM
          rw [if_pos hlw]
          have : ¬ cSum W s b n < c := by omega
          simp only [this, if_false]
      · exfalso
        rw [h2, BIGN_nI] at hc
        have : odN 0 H s a i = 0 := rfl
        rw [this, nI_leI (by omega) (by omega)] at hc
        omega
    rw [hsame]
    exact ⟨h1, h2, h3, h4⟩
  · rintro B x t b ⟨h1, h2, h3, h4⟩ hlw
    rw [stM_no hlw]
    exact ⟨h1, h2, h3, h4⟩
  · rintro B x t a Q ⟨h1, h2, h3, h4⟩ hC hlw hp1 hp2 h60 hQ
    unfold W_X10_record
    rw [hC.2.2.2.2.2.2.2.1]
    refine bq_t rfl (fI_i (fI_i ?_))
    have e0 : rS n rm W A T n = 0 := by unfold rS; rw [mnS_end]; rfl
    have e5 := hb a n (Nat.le_refl _)
    have est : stM s n rm W A T x a = some (cSum W s a n) := by
      unfold stM
      rw [if_pos hlw]
      cases x with
      | none => rfl
      | some c =>
        rw [h1, e0, nI_add, Nat.add_zero] at hp1
        have := h4 c rfl
        rw [limM, nI_pre_lt (by omega) (by omega)] at hp1
        have : cSum W s a n < c := by omega
        simp only [this, if_true]
    have fu : Off [56] t (sI (sI t 56 0 (nI (cSum W s a n))) 56 12 (nI (cSum W s a n) - nI 1)) := (Off.rf.i (by simp)).i (by simp)
    refine hQ _ (fu.mono (by simp)) (fun j hj => ?_) ?_
    · simp only [List.mem_cons, List.not_mem_nil, or_false] at hj
      rw [sI_get, if_neg (by omega), sI_get, if_neg (by omega)]
    · rw [est]
      refine ⟨?_, ?_, ?_, fun c hc => ?_⟩
      · rw [sI_get, if_pos ⟨rfl, rfl⟩]; rfl
      · rw [sI_get, if_neg (by omega), sI_get, if_neg (by omega)]; exact h2
      · rw [sI_get, if_neg (by omega), sI_get, if_pos ⟨rfl, rfl⟩]; rfl
      · rw [Option.some.injEq] at hc; omega
theorem p_measureS {σ : gSt} {n rm : Nat} {W : Nat → Nat → Int32} {A T : Nat → Nat → Bool} (hL : ldC σ n rm W A T) (h10 : σ.1 56 10 = nI 0) (hn1 : 1 ≤ n) (hn : n ≤ 10) (hrm : rm < 1000) (hW : ∀ i j, j < i → i < n → okW (W i j)) {Q : Int32 → gSt → Prop}
    (q0 : mnS n rm W A T 0 = none → ∀ t, Off [56, 57, 58, 59, 60, 61, 62] σ t → t.1 56 10 = nI 0 → Q (nI 0) t)
    (q1 : ∀ c, mnS n rm W A T 0 = some c → ∀ t, Off [56, 57, 58, 59, 60, 61, 62] σ t → t.1 56 10 = nI 0 → t.1 56 0 = nI c → t.1 56 11 = nI 0 → t.1 56 2 = BIGN → (∀ i, 0 < i → i ≤ n → t.1 57 i = nI (rS n rm W A T i)) → Q (nI 1) t) : W_X10_measure Q σ := by
  have loop : ∀ (m : Nat) (t : gSt), m ≤ n → Off [56, 57, 58, 59, 60, 61, 62] σ t → t.1 56 10 = nI 0 → t.1 56 13 = nI 0 → t.1 56 2 = BIGN → (∀ i, m ≤ i → i ≤ n → t.1 57 i = nI (rS n rm W A T i)) → (m < n → mnS n rm W A T m ≠ none ∧ t.1 56 0 = valM (mnS n rm W A T m) ∧ t.1 56 11 = nI m) → L_X10_measure_39 Q (fun s16 => Q (nI 1) s16) (m + 1) (nI m + (-1 : Int32)) t := by
    intro m
    induction m with
    | zero =>
      intro t hm hO t10 t13 t2 t57 tl
      rw [L_X10_measure_39]
      refine bq_t m1_neg ?_
      obtain ⟨k1, k2, k3⟩ := tl (by omega)
      cases e : mnS n rm W A T 0 with
      | none => exact absurd e k1
      | some c =>
        rw [e] at k2
        exact q1 c e t hO t10 k2 k3 t2 (fun i h1 h2 => t57 i (by omega) h2)
    | succ m ih =>
      intro t hm hO t10 t13 t2 t57 tl
      rw [L_X10_measure_39, nI_m1]
      refine bq_f (nI_pos (by omega)) (fI_i (fI_i (fI_i ?_)))
      generalize hu : sI (sI (sI t 56 0 1073741823) 56 12 1073741823) 56 11 (nI m) = u
      have fu : Off [56] t u := by rw [← hu]; exact ((Off.rf.i (by simp)).i (by simp)).i (by simp)
      have u56 : ∀ j, u.1 56 j = if j = 11 then nI m else if j = 12 then BIGN else if j = 0 then BIGN else t.1 56 j := fun j => by
        rw [← hu, sI_get]
        by_cases q : j = 11
        · rw [if_pos ⟨rfl, q⟩, if_pos q]
        · rw [if_neg (fun w => q w.2), if_neg q, sI_get]
          by_cases q2 : j = 12
          · rw [if_pos ⟨rfl, q2⟩, if_pos q2]; rfl
          · rw [if_neg (fun w => q2 w.2), if_neg q2, sI_get]
            by_cases q3 : j = 0
            · rw [if_pos ⟨rfl, q3⟩, if_pos q3]; rfl
            · rw [if_neg (fun w => q3 w.2), if_neg q3]
      have hOu : Off [56, 57, 58, 59, 60, 61, 62] σ u := hO.trans (fu.mono (by simp))
      have hLu := hL.fr hOu (by decide)
      have hC : dfC u m n rm 0 W A T (fun _ _ => false) (rS n rm W A T) := ⟨hLu.1, hLu.2.1, hLu.2.2.1, hLu.2.2.2.1, hLu.2.2.2.2, fun q => (by cases q), by rw [u56]; rfl, by rw [u56]; exact t13, fun i h1 h2 => by rw [(fu.1 57 (by decide)).1]; exact t57 i (by omega) h2⟩
      have hN : dfN u m m 0 (fun _ => 0) := ⟨by rw [u56]; exact t10, fun k hk => by omega, fun k hk => by omega, fun j h1 h2 => by omega⟩
      have hp := df_place (okM (H := fun _ _ => false) hn (show m < n by omega) hW) hn (by omega) hrm (by decide) hW (n - m) 24 m 0 (fun _ => 0) 0 none u (fun s12 => ((s12.1 56 0) = ((1073741823 : Int32)) → (Q (nI 0) s12)) ∧ (¬ (s12.1 56 0) = ((1073741823 : Int32)) → (wI s12 57 11 (nI m) (s12.1 56 0) (fun s14 => L_X10_measure_39 Q (fun s16 => Q (nI 1) s16) (m + 1) (nI m + (-1 : Int32)) s14)))) (by omega) (by omega) (Nat.le_refl _) hC hN ⟨by rw [u56]; rfl, by rw [u56]; exact t2, by rw [u56]; rfl, fun c hc => by cases hc⟩ (canA_0 m _) lwB_0 (fun q => absurd q (Nat.lt_irrefl _)) (fun t3 f3 hN3 hx3 => ?_)
      · rw [cSum_0, odN_0, pmL_0] at hp
        exact hp
      · have hx3 : RelM 0 (mnS n rm W A T m) t3 := hx3
        have hO3 : Off [56, 57, 58, 59, 60, 61, 62] σ t3 := hOu.trans (f3.1.mono (by simp))
        cases e : mnS n rm W A T m with
        | none =>
          rw [e] at hx3
          refine bq_t hx3.2.2.1 (q0 ?_ t3 hO3 hN3.1)
          cases e0 : mnS n rm W A T 0 with
          | none => rfl
          | some c =>
            obtain ⟨b, hb, _⟩ := (mnS_some (Nat.zero_le _) e0).2
            have := lwB_end (Nat.zero_le m) hb
            rw [mnS_none (by omega) e b] at this
            cases this
        | some c =>
          rw [e] at hx3
          have hc90 := hx3.2.2.2 c rfl
          have e30 : t3.1 56 0 = nI c := hx3.2.2.1
          refine bq_f (by rw [e30, show (1073741823 : Int32) = nI 1073741823 from fa_lit 1073741823, nI_eq (by omega) (by decide)]; omega) (wI_i (by omega) ?_)
          have fv : Off [57] t3 (sI t3 57 m (t3.1 56 0)) := Off.rf.i (by simp)
          refine ih _ (by omega) (hO3.trans (fv.mono (by simp))) ?_ ?_ ?_ (fun i h1 h2 => ?_) (fun _ => ⟨(by rw [e]; exact fun w => by cases w), ?_, ?_⟩)
          · rw [(fv.1 56 (by decide)).1]; exact hN3.1
          · rw [(fv.1 56 (by decide)).1, f3.2.2, u56]; exact t13
          · rw [(fv.1 56 (by decide)).1]; exact hx3.2.1
          · rw [sI_get]
            by_cases q : i = m
            · subst q
              rw [if_pos ⟨rfl, rfl⟩, e30, rS, e]; rfl
            · rw [if_neg (fun w => q w.2), (f3.1.1 57 (by decide)).1, (fu.1 57 (by decide)).1]
              exact t57 i (by omega) h2
          · rw [(fv.1 56 (by decide)).1, e]; exact e30
          · rw [(fv.1 56 (by decide)).1, f3.2.1, u56]; rfl
  unfold W_X10_measure
  refine fI_i (fI_i (fI_i ?_))
  generalize hu : sI (sI (sI σ 56 13 (nI 0)) 56 2 1073741823) 56 0 (nI 0) = u
  have fu : Off [56] σ u := by rw [← hu]; exact ((Off.rf.i (by simp)).i (by simp)).i (by simp)
  rw [(fu.1 50 (by decide)).1, hL.1]
  refine wI_i (by omega) ?_
  have fv : Off [57] u (sI u 57 n (nI 0)) := Off.rf.i (by simp)
  rw [(fv.1 50 (by decide)).1, (fu.1 50 (by decide)).1, hL.1, nI_sub1]
  refine ⟨n + 1, loop n _ (Nat.le_refl _) ((fu.mono (by simp)).trans (fv.mono (by simp))) ?_ ?_ ?_ (fun i h1 h2 => ?_) (fun q => absurd q (Nat.lt_irrefl _))⟩
  · rw [(fv.1 56 (by decide)).1, ← hu, sI_get, if_neg (by omega), sI_get, if_neg (by omega), sI_get, if_neg (by omega)]; exact h10
  · rw [(fv.1 56 (by decide)).1, ← hu, sI_get, if_neg (by omega), sI_get, if_neg (by omega), sI_get, if_pos ⟨rfl, rfl⟩]
  · rw [(fv.1 56 (by decide)).1, ← hu, sI_get, if_neg (by omega), sI_get, if_pos ⟨rfl, rfl⟩]; rfl
  · obtain rfl : i = n := by omega
    rw [sI_get, if_pos ⟨rfl, rfl⟩, rS, mnS_end]; rfl
