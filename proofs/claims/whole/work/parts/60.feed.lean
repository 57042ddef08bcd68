/-! feed -/
def byt (x : Int32) (k : Nat) : Int32 := ushr x (nI (24 - 8 * k)) &&& nI 255
theorem b_255n (i : Nat) : bt (nI 255) i = decide (i < 8) := b_255 i
theorem byt_s (x : Int32) (k : Nat) : (x >>> (nI (24 - 8 * k) &&& 31)) &&& nI 255 = byt x k := by
  refine b_ext (fun i hi => ?_)
  unfold byt ushr
  rw [b_and, b_and, b_255n, b_sshr _ (by omega) _ hi, b_ushr _ (by omega)]
  by_cases h : i < 8
  · rw [if_pos (by omega)]
  · rw [decide_eq_false h, Bool.and_false, Bool.and_false]
theorem byt_r (x : Int32) (k : Nat) : ∃ v, v < 256 ∧ byt x k = nI v := by
  refine ⟨(byt x k).toBitVec.toNat, ?_, Int32.toBitVec_inj.mp (by show _ = BitVec.ofNat 32 _; simp)⟩
  unfold byt
  rw [Int32.toBitVec_and, BitVec.toNat_and]
  have : (nI 255).toBitVec.toNat = 255 := by decide
  rw [this]
  have := @Nat.and_le_right (ushr x (nI (24 - 8 * k))).toBitVec.toNat 255
  omega
def tkv : Nat → Int32
  | 0 => nI 24
  | 1 => nI 16
  | 2 => nI 8
  | 3 => nI 0
  | _ => -8
theorem tkv_s : ∀ k, k < 4 → tkv k = nI (24 - 8 * k) ∧ ¬ tkv k < 0 ∧ tkv k + (-8 : Int32) = tkv (k + 1) := by decide
theorem take_step {x : Int32} {Q K : gSt → Prop} {z k n : Nat} {s : gSt} (hk : k < 4) (hz : z + 4 ≤ 400) (h0 : s.1 4 0 = nI (z + k)) (q : L_X7_takeIn_3 Q x K n (tkv (k + 1)) (sI (sI s 12 (z + k) (byt x k)) 4 0 (nI (z + k + 1)))) : L_X7_takeIn_3 Q x K (n + 1) (tkv k) s := by
  obtain ⟨t1, t2, t3⟩ := tkv_s k hk
  rw [L_X7_takeIn_3]
  refine bq_f t2 (bq_f (by rw [h0]; exact nI_ge (by omega) (by omega)) (wI_e h0 (by omega) (fI_i ?_)))
  rw [t3, t1]
  have e : (sI s 12 (z + k) (byt x k)).1 4 0 = nI (z + k) := h0
  show L_X7_takeIn_3 Q x K n (tkv (k + 1)) (sI (sI s 12 (z + k) (byt x k)) 4 0 ((sI s 12 (z + k) (byt x k)).1 4 0 + nI 1))
  rw [e, nI_add]
  exact q
theorem p_takeIn {x : Int32} {Q : gSt → Prop} {z : Nat} {σ : gSt} (hz : z + 4 ≤ 400) (h0 : σ.1 4 0 = nI z) (q : ∀ s : gSt, Off [4, 12] σ s → s.1 4 0 = nI (z + 4) → (∀ j, j ≠ 0 → s.1 4 j = σ.1 4 j) → (∀ j, s.1 12 j = if z ≤ j ∧ j < z + 4 then byt x (j - z) else σ.1 12 j) → Q s) : W_X7_takeIn x Q σ := by
  refine ⟨5, ?_⟩
  refine take_step (k := 0) (by decide) hz h0 (take_step (k := 1) (by decide) hz (by rw [sI_get, if_pos ⟨rfl, rfl⟩]) (take_step (k := 2) (by decide) hz (by rw [sI_get, if_pos ⟨rfl, rfl⟩]) (take_step (k := 3) (by decide) hz (by rw [sI_get, if_pos ⟨rfl, rfl⟩]) ?_)))
  rw [L_X7_takeIn_3]
  refine bq_t (by decide) (q _ ?_ ?_ ?_ ?_)
  · exact (((((((Off.rf.i (by simp)).i (by simp)).i (by simp)).i (by simp)).i (by simp)).i (by simp)).i (by simp)).i (by simp)
  · rw [sI_get, if_pos ⟨rfl, rfl⟩]
  · intro j hj
    simp [sI_get, hj]
  · intro j
    simp only [sI_get]
    by_cases h3 : j = z + 3
    · subst h3; simp
    · by_cases h2 : j = z + 2
      · subst h2; simp
      · by_cases h1 : j = z + 1
        · subst h1; simp
        · by_cases h0 : j = z
          · subst h0; simp
          · rw [if_neg (by omega : ¬ (z ≤ j ∧ j < z + 4))]
            simp [h0, h1, h2, h3]
def ws (p q r u v : Int32) : Nat → Int32
  | 0 => p
  | 1 => q
  | 2 => r
  | 3 => u
  | _ => v
def tb20 (p q r u v : Int32) (j : Nat) : Int32 := byt (ws p q r u v (j / 4)) (j % 4)
theorem feed_ix : ∀ i, i < 20 → (((nI 24) - ((nI 8) * (nI i - nI i / (nI 4) * (nI 4)))) &&& 31) = (nI (24 - 8 * (i % 4)) &&& 31) := by decide
theorem feed_loop {p q r u v : Int32} {Q : Int32 → gSt → Prop} {K : gSt → Prop} {z : Nat} {σ : gSt} (hz : z + 20 ≤ 400) (fin : ∀ s : gSt, Fr [73] [9] σ s → s.1 65 9 = nI (z + 20) → (∀ j, s.1 73 j = if z ≤ j ∧ j < z + 20 then tb20 p q r u v (j - z) else σ.1 73 j) → K s) : ∀ (m i : Nat) (s : gSt), i + m = 20 → Fr [73] [9] σ s → s.1 65 9 = nI (z + i) → (∀ j, s.1 73 j = if z ≤ j ∧ j < z + i then tb20 p q r u v (j - z) else σ.1 73 j) → L_X12_feed_23 Q p q r u v K (m + 1) (nI i) s := by
  intro m
  induction m with
  | zero =>
    intro i s hi f h9 h73
    obtain rfl : i = 20 := by omega
    rw [L_X12_feed_23]
    exact bq_t (by decide) (fin s f h9 h73)
  | succ m ih =>
    intro i s hi f h9 h73
    rw [L_X12_feed_23]
    refine bq_f (nI_ge (by omega) (by omega)) ?_
    intro J hJ
    have go : ∀ w, w = ws p q r u v (i / 4) → J w := by
      rintro w rfl
      refine hJ _ ⟨by decide, wI_e h9 (by omega) (fI_i ?_)⟩
      rw [feed_ix i (by omega), byt_s]
      have e9 : (sI s 73 (z + i) (byt (ws p q r u v (i / 4)) (i % 4))).1 65 9 = nI (z + i) := h9
      show L_X12_feed_23 Q p q r u v K (m + 1) (nI i + nI 1) (sI (sI s 73 (z + i) (byt (ws p q r u v (i / 4)) (i % 4))) 65 9 ((sI s 73 (z + i) (byt (ws p q r u v (i / 4)) (i % 4))).1 65 9 + nI 1))
      rw [e9, nI_add, nI_add]
      refine ih (i + 1) _ (by omega) ((f.i (by simp) (by decide)).f (by simp)) (by rw [sI_get, if_pos ⟨rfl, rfl⟩]; rfl) (fun j => ?_)
      have e : (sI (sI s 73 (z + i) (byt (ws p q r u v (i / 4)) (i % 4))) 65 9 (nI (z + i + 1))).1 73 j = (sI s 73 (z + i) (byt (ws p q r u v (i / 4)) (i % 4))).1 73 j := rfl
      rw [e, sI_get, h73]
      by_cases hj : j = z + i
      · subst hj
        rw [if_pos ⟨rfl, rfl⟩, if_pos (by omega), tb20, show z + i - z = i by omega]
      · rw [if_neg (fun q => hj q.2)]
        by_cases hj2 : z ≤ j ∧ j < z + i
        · rw [if_pos hj2, if_pos (by omega)]
        · rw [if_neg hj2, if_neg (by omega)]
    have d : ∀ q2, q2 < 2147483648 → (nI q2 ≤ nI i ↔ q2 ≤ i) := fun q2 h => nI_leI h (by omega)
    refine br_le (by decide) (by omega) (fun h1 => br_le (by decide) (by omega) (fun h2 => br_le (by decide) (by omega) (fun h3 => br_le (by decide) (by omega) (fun h4 => go _ ?_) (fun h4 => go _ ?_)) (fun h3 => go _ ?_)) (fun h2 => go _ ?_)) (fun h1 => go _ ?_)
    · rw [show i / 4 = 4 by omega]; rfl
    · rw [show i / 4 = 3 by omega]; rfl
    · rw [show i / 4 = 2 by omega]; rfl
    · rw [show i / 4 = 1 by omega]; rfl
    · rw [show i / 4 = 0 by omega]; rfl
theorem op_feed {b : Bool} {σ : gSt} (hI : Inv b σ) (p q r u v : Int32) : OKN (fun Q s => W_X11_feed p q r u v Q s) (W_X12_feed p q r u v) σ := by
  have hI0 := hI
  obtain ⟨hR, N, bk, nm, td, yr, fa, C, kind, st, cd, op, num, T, ta, tb, tw, most, ob, span, F, fx, fy, ft, h, m, kz, kh, tp, R, hs, hE, hRu, hT, hL, hP, hH, hD, hG⟩ := hI
  obtain ⟨d1, d2, d3, d4, d5, d6⟩ := hD
  unfold OKN W_X11_feed
  dsimp only
  rw [d1, nI_add]
  refine br_le (by omega) (by decide) (fun hle => ?_) (fun hgt => ?_)
  · refine p_takeIn (by omega) d1 (fun s2 o2 a2 b2 c2 => p_takeIn (by omega) a2 (fun s3 o3 a3 b3 c3 => p_takeIn (by omega) a3 (fun s4 o4 a4 b4 c4 => p_takeIn (by omega) a4 (fun s5 o5 a5 b5 c5 => p_takeIn (by omega) a5 (fun s6 o6 a6 b6 c6 => ?_)))))
    have hO := (((o2.trans o3).trans o4).trans o5).trans o6
    have f0 : Fr [4, 12] [0] σ (sI s6 65 0 (nI 0)) := ((Fr.of (js := []) hO (by decide)).mono (by simp) (by simp)).f (by simp)
    have e9 : (sI s6 65 0 (nI 0)).1 65 9 = nI tp := (f0.2.1 9 (by simp)).1.trans d2
    refine fI_i ?_
    rw [e9, nI_add]
    refine bq_t (nI_le hle (by decide)) ⟨21, ?_⟩
    refine feed_loop (z := tp) hle (fun t f h9 h73 => ?_) 20 0 _ (by omega) Fr.rf e9 (fun j => by rw [if_neg (by omega)])
    have fT : Fr [4, 12, 73] [0, 9] σ t := (f0.mono (by simp) (by simp)).trans (f.mono (by simp) (by simp))
    have t4 : t.1 4 = s6.1 4 := (f.1 4 (by decide) (by decide)).1
    have t12 : t.1 12 = s6.1 12 := (f.1 12 (by decide) (by decide)).1
    refine ⟨by rw [a6, h9], b, fT.2.2.trans hR, N, bk, nm, td, yr, fa, C, kind, st, cd, op, num, T, ta, tb, tw, most, ob, span, F, fx, fy, ft, h, m, kz, kh, tp + 20, R, hs, hE.fr fT (by decide) (by decide), hRu.fr fT (by cases b <;> decide) (by decide), hT.fr fT (by decide) (by decide), hL.fr fT (by decide) (by decide), hP.fr fT (by decide) (by decide), hH.fr fT (by decide) (by decide), ⟨by rw [t4]; exact a6, h9, hle, fun i hi => ?_, ?_, by rw [(f.1 56 (by decide) (by decide)).1, show (sI s6 65 0 (nI 0)).1 56 10 = σ.1 56 10 from congrFun (f0.1 56 (by decide) (by decide)).1 10]; exact d6⟩, hG.fr fT (by decide) (by decide)⟩
    · have z73 : (sI s6 65 0 (nI 0)).1 73 i = σ.1 73 i := congrFun (f0.1 73 (by decide) (by decide)).1 i
      have z12 : s6.1 12 i = if tp ≤ i then tb20 p q r u v (i - tp) else σ.1 12 i := by
        rw [c6, c5, c4, c3, c2]
        by_cases h : tp ≤ i
        · rw [if_pos h]
          rcases (show i < tp + 4 ∨ (tp + 4 ≤ i ∧ i < tp + 8) ∨ (tp + 8 ≤ i ∧ i < tp + 12) ∨ (tp + 12 ≤ i ∧ i < tp + 16) ∨ tp + 16 ≤ i by omega) with k | k | k | k | k
          · rw [if_neg (by omega), if_neg (by omega), if_neg (by omega), if_neg (by omega), if_pos (by omega), tb20, show (i - tp) / 4 = 0 by omega, show (i - tp) % 4 = i - tp by omega]; rfl
          · rw [if_neg (by omega), if_neg (by omega), if_neg (by omega), if_pos (by omega), tb20, show (i - tp) / 4 = 1 by omega, show (i - tp) % 4 = i - (tp + 4) by omega]; rfl
          · rw [if_neg (by omega), if_neg (by omega), if_pos (by omega), tb20, show (i - tp) / 4 = 2 by omega, show (i - tp) % 4 = i - (tp + 4 + 4) by omega]; rfl
          · rw [if_neg (by omega), if_pos (by omega), tb20, show (i - tp) / 4 = 3 by omega, show (i - tp) % 4 = i - (tp + 4 + 4 + 4) by omega]; rfl
          · rw [if_pos (by omega), tb20, show (i - tp) / 4 = 4 by omega, show (i - tp) % 4 = i - (tp + 4 + 4 + 4 + 4) by omega]; rfl
        · rw [if_neg h, if_neg (by omega), if_neg (by omega), if_neg (by omega), if_neg (by omega), if_neg (by omega)]
      rw [t12, z12, h73, z73]
      by_cases h : tp ≤ i
      · rw [if_pos h, if_pos (by omega)]
        exact ⟨rfl, byt_r _ _⟩
      · rw [if_neg h, if_neg (by omega)]
        exact d4 i (by omega)
    · rw [t4, b6 2 (by decide), b5 2 (by decide), b4 2 (by decide), b3 2 (by decide), b2 2 (by decide), (fT.2.1 18 (by decide)).1]
      exact d5
  · refine fI_i ?_
    have e9 : (sI σ 65 0 (nI 0)).1 65 9 = nI tp := d2
    rw [e9, nI_add]
    exact bq_f (nI_ge hgt (by omega)) ⟨rfl, b, hI0.t0 _⟩
