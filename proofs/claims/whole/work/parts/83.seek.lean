/-! the best change: one fold for both; the class's going -/
abbrev BS := Int64 × Int32 × Int32 × Int32 × (Nat → Nat) × Bool
def bTry (N most : Nat) (wt : Nat → Nat → Int32) (ap ti : Nat → Nat → Bool) (so x y : Int32) (f : Nat → Nat) (s : BS) : BS := if fa_first (fun e => offM ap ti f most e) N = N ∧ cst wt N f < s.1 then (cst wt N f, so, x, y, f, true) else s
def bGoK (N most : Nat) (wt : Nat → Nat → Int32) (ap ti : Nat → Nat → Bool) (h : Nat → Nat) (e : Nat) : Nat → Nat → BS → BS
  | 0, _, s => s
  | m + 1, v, s => bGoK N most wt ap ti h e m (v + 1) (if h v = v ∧ ¬ v = h e then bTry N most wt ap ti (nI 0) (nI e) (nI v) (upN h e v) s else s)
def bAl (N most : Nat) (wt : Nat → Nat → Int32) (ap ti : Nat → Nat → Bool) (h : Nat → Nat) (e : Nat) (s : BS) : BS := if fa_cnt (fun i => decide (h i = h e)) N = 1 then s else bTry N most wt ap ti (nI 0) (nI e) (-1) (upN h e (100 + e)) s
def bGo (N most : Nat) (wt : Nat → Nat → Int32) (ap ti : Nat → Nat → Bool) (h : Nat → Nat) : Nat → Nat → BS → BS
  | 0, _, s => s
  | m + 1, e, s => bGo N most wt ap ti h m (e + 1) (bAl N most wt ap ti h e (bGoK N most wt ap ti h e N 0 s))
def bJoK (N most : Nat) (wt : Nat → Nat → Int32) (ap ti : Nat → Nat → Bool) (h : Nat → Nat) (a : Nat) : Nat → Nat → BS → BS
  | 0, _, s => s
  | m + 1, c, s => bJoK N most wt ap ti h a m (c + 1) (if h a = a ∧ h c = c then bTry N most wt ap ti (nI 1) (nI a) (nI c) (fun k => if h k = c then a else h k) s else s)
def bJo (N most : Nat) (wt : Nat → Nat → Int32) (ap ti : Nat → Nat → Bool) (h : Nat → Nat) : Nat → Nat → BS → BS
  | 0, _, s => s
  | m + 1, a, s => bJo N most wt ap ti h m (a + 1) (bJoK N most wt ap ti h a (N - (a + 1)) (a + 1) s)
def bSwK (N most : Nat) (wt : Nat → Nat → Int32) (ap ti : Nat → Nat → Bool) (h : Nat → Nat) (a : Nat) : Nat → Nat → BS → BS
  | 0, _, s => s
  | m + 1, c, s => bSwK N most wt ap ti h a m (c + 1) (if h a = h c then s else bTry N most wt ap ti (nI 2) (nI a) (nI c) (upN (upN h a (h c)) c (h a)) s)
def bSw (N most : Nat) (wt : Nat → Nat → Int32) (ap ti : Nat → Nat → Bool) (h : Nat → Nat) : Nat → Nat → BS → BS
  | 0, _, s => s
  | m + 1, a, s => bSw N most wt ap ti h m (a + 1) (bSwK N most wt ap ti h a (N - (a + 1)) (a + 1) s)
def bAll (N most : Nat) (wt : Nat → Nat → Int32) (ap ti : Nat → Nat → Bool) (h : Nat → Nat) : BS := bSw N most wt ap ti h N 0 (bJo N most wt ap ti h N 0 (bGo N most wt ap ti h N 0 (cst wt N h, -1, 0, 0, h, false)))
theorem bTry_no {N most : Nat} {wt : Nat → Nat → Int32} {ap ti : Nat → Nat → Bool} {so x y : Int32} {f : Nat → Nat} {s : BS} (h : ¬ lawP N most ap ti f) : bTry N most wt ap ti so x y f s = s := if_neg (fun q => h (law_iff.mp q.1))
theorem bTry_yes {N most : Nat} {wt : Nat → Nat → Int32} {ap ti : Nat → Nat → Bool} {so x y : Int32} {f : Nat → Nat} {s : BS} (h : lawP N most ap ti f) : bTry N most wt ap ti so x y f s = if cst wt N f < s.1 then (cst wt N f, so, x, y, f, true) else s := by
  unfold bTry
  by_cases z : cst wt N f < s.1
  · rw [if_pos ⟨law_iff.mpr h, z⟩, if_pos z]
  · rw [if_neg (fun q => z q.2), if_neg z]
/-- the class's state of seeking -/
def skC (t : gSt) (N most : Nat) (h : Nat → Nat) (wt : Nat → Nat → Int32) (ti ap : Nat → Nat → Bool) : Prop := t.1 33 1 = nI N ∧ (∀ i, i < N → t.1 34 i = nI (h i)) ∧ (∀ a c, a < N → c < N → a ≠ c → bt (t.1 31 a) c = ti a c) ∧ (∀ a, a < N → bt (t.1 31 a) a = false) ∧ (∀ a c, a < N → c < 32 → bt (t.1 39 a) c = (decide (c < N) && decide (a ≠ c) && ap a c)) ∧ (∀ v k, v < 30 → k < 32 → bt (t.1 40 v) k = (decide (k < N) && decide (h k = v))) ∧ (∀ e v, e < N → v < 30 → t.1 41 (e * 30 + v) = rowI (fun i => if h i = v then wt e i else nI 0) N) ∧ t.2.1 38 7 = cst wt N h ∧ (∀ a c, a < N → c < N → t.1 24 (a * 30 + c) = wt a c) ∧ t.1 30 5 = nI most
def Fs (t t2 : gSt) : Prop := Off [38] t t2 ∧ t2.2.1 38 7 = t.2.1 38 7
theorem Fs.rf {t : gSt} : Fs t t := ⟨Off.rf, rfl⟩
theorem Fs.trans {t t2 t3 : gSt} (h1 : Fs t t2) (h2 : Fs t2 t3) : Fs t t3 := ⟨h1.1.trans h2.1, h2.2.trans h1.2⟩
theorem skC.fr {t t2 : gSt} {N most : Nat} {h : Nat → Nat} {wt : Nat → Nat → Int32} {ti ap : Nat → Nat → Bool} (hX : skC t N most h wt ti ap) (f : Fs t t2) : skC t2 N most h wt ti ap := by
  unfold skC at hX ⊢
  rw [(f.1.1 33 (by decide)).1, (f.1.1 34 (by decide)).1, (f.1.1 31 (by decide)).1, (f.1.1 39 (by decide)).1, (f.1.1 40 (by decide)).1, (f.1.1 41 (by decide)).1, f.2, (f.1.1 24 (by decide)).1, (f.1.1 30 (by decide)).1]
  exact hX
def skB (t : gSt) (s : BS) : Prop := t.2.1 38 3 = s.1 ∧ t.1 38 0 = (if s.2.2.2.2.2 then s.2.1 else -1) ∧ (s.2.2.2.2.2 = true → t.1 38 1 = s.2.2.1 ∧ t.1 38 2 = s.2.2.2.1)
theorem p_offer {t : gSt} {s : BS} (hB : skB t s) {c : Int64} {so x y : Int32} (f : Nat → Nat) {Q : gSt → Prop} (q : ∀ t2, Fs t t2 → skB t2 (if c < s.1 then (c, so, x, y, f, true) else s) → Q t2) : W_X0_offer c so x y Q t := by
  unfold W_X0_offer
  rw [hB.1]
  refine ⟨fun h => fL_i (fI_i (fI_i (fI_i (q _ ⟨(((Off.rf.l (by simp)).i (by simp)).i (by simp)).i (by simp), by simp [sL_get, sI_get2]⟩ ?_)))), fun h => q t Fs.rf (by rw [if_neg h]; exact hB)⟩
  rw [if_pos h]
  refine ⟨by simp [sL_get, sI_get2], by simp [sI_get], fun _ => by simp [sI_get]⟩
theorem and_bits {x y : Int32} : x &&& y = 0 ↔ ∀ k, k < 32 → (bt x k && bt y k) = false := by
  constructor
  · intro h k _
    rw [← b_and, h, b_0]
  · intro h
    exact b_ext (fun i hi => by rw [b_and, h i hi, b_0])
theorem p_held {t : gSt} {N most : Nat} {h : Nat → Nat} {wt : Nat → Nat → Int32} {ti ap : Nat → Nat → Bool} (hX : skC t N most h wt ti ap) (h30 : N ≤ 30) (hh : ∀ i, i < N → h i ≤ i ∧ h (h i) = h i) {e : Nat} (he : e < N) {Q : Int32 → Prop} (q1 : (∀ k, k < N → k ≠ e → h k = h e → ti e k = false) → Q (nI 0)) (q2 : ¬ (∀ k, k < N → k ≠ e → h k = h e → ti e k = false) → Q (nI 1)) : W_X0_isHeldBack (nI e) Q t := by
  obtain ⟨hsz, h34, h31, h31d, h39, h40, h41, h387, h24, h30m⟩ := hX
  unfold W_X0_isHeldBack
  refine rI_i (by omega) (rI_i (by omega) ?_)
  rw [h34 e he]
  refine rI_i (by have := (hh e he).1; omega) ⟨fun z => q1 ?_, fun z => q2 (fun w => z ?_)⟩
  · intro k hk hne hke
    have := and_bits.mp z k (by omega)
    rw [h31 e k he hk (Ne.symm hne), h40 _ k (by have := (hh e he).1; omega) (by omega), decide_eq_true hk, decide_eq_true hke] at this
    simpa using this
  · refine and_bits.mpr (fun k hk => ?_)
    rw [h40 _ k (by have := (hh e he).1; omega) hk]
    by_cases hkN : k < N
    · by_cases hke : h k = h e
      · by_cases hne : k = e
        · subst hne
          rw [h31d k hkN, Bool.false_and]
        · rw [h31 e k he hkN (Ne.symm hne), w k hkN hne hke, Bool.false_and]
      · rw [decide_eq_false hke, Bool.and_false, Bool.and_false]
    · rw [decide_eq_false hkN, Bool.false_and, Bool.and_false]
theorem skC.ct {t : gSt} {N most : Nat} {h : Nat → Nat} {wt : Nat → Nat → Int32} {ti ap : Nat → Nat → Bool} (hX : skC t N most h wt ti ap) (h30 : N ≤ 30) {v : Nat} (hv : v < 30) : fa_cnt (bt (t.1 40 v)) 32 = fb_ct (fun i => decide (h i = v)) N := by
  rw [fa_cnt_cong (q := fun k => decide (k < N) && decide (h k = v)) (fun k hk => hX.2.2.2.2.2.1 v k hv hk), fa_cnt_32 h30 (fun k hk => by rw [decide_eq_false (by omega), Bool.false_and]), ← fa_fb]
  exact fa_cnt_cong (fun k hk => by rw [decide_eq_true hk, Bool.true_and])
theorem skC.pt {t : gSt} {N most : Nat} {h : Nat → Nat} {wt : Nat → Nat → Int32} {ti ap : Nat → Nat → Bool} (hX : skC t N most h wt ti ap) (h30 : N ≤ 30) (hok : ∀ i j, i < N → j < N → okW (wt i j)) {e v : Nat} (he : e < N) (hv : v < 30) {Q : Int32 → Prop} (q : ∀ x, i2l x = PT wt N h e v → Q x) : W_X0_pullTo (nI e) (nI v) Q t := by
  unfold W_X0_pullTo
  rw [nI_mul, nI_add]
  refine rI_i (by omega) (q _ ?_)
  rw [hX.2.2.2.2.2.2.1 e v he hv]
  exact rowI_PT h30 (fun j hj => hok e j he hj)
theorem skC.m0 {t : gSt} {N most : Nat} {h : Nat → Nat} {wt : Nat → Nat → Int32} {ti ap : Nat → Nat → Bool} (hX : skC t N most h wt ti ap) (h30 : N ≤ 30) (hh : ∀ i, i < N → h i ≤ i ∧ h (h i) = h i) {v : Nat} (hv : v < N) : t.1 40 v = 0 ↔ ¬ h v = v := by
  constructor
  · intro z q
    have := hX.2.2.2.2.2.1 v v (by omega) (by omega)
    rw [z, b_0, decide_eq_true hv, decide_eq_true q] at this
    cases this
  · intro z
    refine b_ext (fun k hk => ?_)
    rw [hX.2.2.2.2.2.1 v k (by omega) hk, b_0]
    by_cases hkN : k < N
    · rw [decide_eq_false (show ¬ h k = v from fun q => z (by rw [← q]; exact (hh k hkN).2)), Bool.and_false]
    · rw [decide_eq_false hkN, Bool.false_and]
theorem skC.pa {t : gSt} {N most : Nat} {h : Nat → Nat} {wt : Nat → Nat → Int32} {ti ap : Nat → Nat → Bool} (hX : skC t N most h wt ti ap) (h30 : N ≤ 30) {e v : Nat} (he : e < N) (hv : v < 30) : (t.1 39 e) &&& (t.1 40 v) = 0 ↔ ∀ k, k < N → k ≠ e → h k = v → ap e k = false := by
  rw [and_bits]
  constructor
  · intro z k hk hne hkv
    have := z k (by omega)
    rw [hX.2.2.2.2.1 e k he (by omega), hX.2.2.2.2.2.1 v k hv (by omega), decide_eq_true hk, decide_eq_true (Ne.symm hne), decide_eq_true hkv] at this
    simpa using this
  · intro z k hk
    rw [hX.2.2.2.2.1 e k he hk, hX.2.2.2.2.2.1 v k hv hk]
    by_cases hkN : k < N
    · by_cases hne : k = e
      · subst hne; simp
      · by_cases hkv : h k = v
        · rw [z k hkN hne hkv]; simp
        · rw [decide_eq_false hkv]; simp
    · rw [decide_eq_false hkN]; simp
theorem p_goK {b : Bool} {N most : Nat} {h : Nat → Nat} {wt : Nat → Nat → Int32} {ti ap : Nat → Nat → Bool} (h30 : N ≤ 30) (hm30 : most ≤ 30) (hh : ∀ i, i < N → h i ≤ i ∧ h (h i) = h i) (hsy : ∀ i j, i < N → j < N → wt i j = wt j i) (hok : ∀ i j, i < N → j < N → okW (wt i j)) (h0 : ∀ i, wt i i = nI 0) (hap : symB N ap) (hti : symB N ti) (hl : lawP N most ap ti h) {e : Nat} (he : e < N) (hn : ∀ k, k < N → k ≠ e → h k = h e → ti e k = false) {Q : gSt → Prop} {K : gSt → Prop} : ∀ (m v : Nat) (s : BS) (t : gSt), v + m = N → t.2.2 = gRf b → skC t N most h wt ti ap → skB t s → (∀ t2, Fs t t2 → skB t2 (bGoK N most wt ap ti h e m v s) → K t2) → L_X0_seekGoing_35 Q (nI e) (nI (h e)) (cst wt N h + PT wt N h e (h e)) K (m + 1) (nI v) t := by
  intro m
  induction m with
  | zero =>
    intro v s t hv hR hX hB hK
    obtain rfl : v = N := by omega
    rw [L_X0_seekGoing_35, hX.1]
    exact bq_t (nI_le (Nat.le_refl _) (by omega)) (hK t Fs.rf hB)
  | succ m ih =>
    intro v s t hv hR hX hB hK
    have hvN : v < N := by omega
    rw [L_X0_seekGoing_35, hX.1]
    refine bq_f (nI_ge hvN (by omega)) ?_
    rw [nI_add]
    rw [bGoK] at hK
    have skip : (if h v = v ∧ ¬ v = h e then bTry N most wt ap ti (nI 0) (nI e) (nI v) (upN h e v) s else s) = s → L_X0_seekGoing_35 Q (nI e) (nI (h e)) (cst wt N h + PT wt N h e (h e)) K (m + 1) (nI (v + 1)) t := by
      intro e1
      rw [e1] at hK
      exact ih (v + 1) s t (by omega) hR hX hB hK
    intro J13 hJ13 J21 hJ21
    have no : (if h v = v ∧ ¬ v = h e then bTry N most wt ap ti (nI 0) (nI e) (nI v) (upN h e v) s else s) = s → J21 := fun e1 => hJ21 (hJ13 _ (bq_t rfl (skip e1)))
    refine br_eq (by omega) (by have := (hh e he).1; omega) (fun z => no (if_neg (fun q => q.2 z))) (fun z => ?_)
    refine rI_i (by omega) ?_
    by_cases hm0 : h v = v
    · refine bq_f (by rw [hX.m0 h30 hh hvN]; exact fun q => q hm0) (rI_i (by omega) (rI_i (by omega) ?_))
      by_cases hpa : ∀ k, k < N → k ≠ e → h k = v → ap e k = false
      · refine bq_t ((hX.pa h30 he (by omega)).mpr hpa) (hJ13 _ (bq_f (by decide) (rI_i (by omega) (p_bitCount ?_))))
        rw [hX.ct h30 (by omega)]
        refine ⟨_, fun o l => s_room hR most hm30 hX.2.2.2.2.2.2.2.2.2, ?_⟩
        have hcl : fb_ct (fun i => decide (h i = v)) N < 30 := by
          have h1 := fb_ct_upd (fun i => decide (h i = v)) true he
          have h2 := fb_ct_le (fun k => if k = e then true else decide (h k = v)) N
          have h3 : decide (h e = v) = false := decide_eq_false (fun q => z q.symm)
          rw [h3] at h1
          simp only [if_true, Bool.false_eq_true, if_false] at h1
          omega
        have hlg := law_go hl hap hti he z
        refine br_le (by by_cases q : most = 0 <;> simp only [q, if_true, if_false] <;> omega) (by omega) (fun hle => skip ?_) (fun hlt => ?_)
        · rw [if_pos ⟨hm0, z⟩]
          refine bTry_no (fun q => ?_)
          have h3 := (hlg.mp q).2.2
          by_cases qm : most = 0
          · rw [if_pos qm] at hle; omega
          · rw [if_neg qm] at hle
            have := h3 (by omega)
            omega
        · refine hX.pt h30 hok he (by omega) (fun x hx => ?_)
          rw [hx]
          have hlaw : lawP N most ap ti (upN h e v) := hlg.mpr ⟨hn, fun k hk hkv => hpa k hk (fun q => z (by rw [← hkv, q])) hkv, fun hmp => by rw [if_neg (by omega)] at hlt; omega⟩
          refine p_offer hB (upN h e v) (fun t2 f2 hB2 => ?_)
          rw [if_pos ⟨hm0, z⟩, bTry_yes hlaw, cst_go hsy hok h0 he z] at hK
          exact ih (v + 1) _ t2 (by omega) (f2.1.2.trans hR) (hX.fr f2) hB2 (fun t3 f3 => hK t3 (f2.trans f3))
      · refine bq_f (by rw [hX.pa h30 he (by omega)]; exact hpa) (no ?_)
        rw [if_pos ⟨hm0, z⟩]
        exact bTry_no (fun q => hpa (fun k hk _ hkv => ((law_go hl hap hti he z).mp q).2.1 k hk hkv))
    · exact bq_t ((hX.m0 h30 hh hvN).mpr hm0) (no (if_neg (fun q => hm0 q.1)))
