/-! all heapings of a part, first ones first -/
def nxh (h k : Nat) : Nat := if k = h then h + 1 else h
def lvk (f : Nat → List (Nat → Nat)) : Nat → Nat → List (Nat → Nat)
  | 0, _ => []
  | c + 1, k => f k ++ lvk f c (k + 1)
def lvs : Nat → Nat → Nat → (Nat → Nat) → List (Nat → Nat)
  | 0, _, _, a => [a]
  | m + 1, i, h, a => lvk (fun k => lvs m (i + 1) (nxh h k) (upN a i k)) (h + 1) 0
theorem lvk_mem {f : Nat → List (Nat → Nat)} {b : Nat → Nat} : ∀ (c k : Nat), b ∈ lvk f c k ↔ ∃ j, k ≤ j ∧ j < k + c ∧ b ∈ f j
  | 0, k => by
    rw [lvk]
    constructor
    · intro h; cases h
    · rintro ⟨j, h1, h2, _⟩; omega
  | c + 1, k => by
    rw [lvk, List.mem_append, lvk_mem c (k + 1)]
    constructor
    · rintro (h | ⟨j, h1, h2, h3⟩)
      · exact ⟨k, Nat.le_refl _, by omega, h⟩
      · exact ⟨j, by omega, by omega, h3⟩
    · rintro ⟨j, h1, h2, h3⟩
      by_cases e : j = k
      · subst e; exact .inl h3
      · exact .inr ⟨j, by omega, by omega, h3⟩
theorem upN_at {a : Nat → Nat} {i k : Nat} : upN a i k i = k := if_pos rfl
theorem upN_ne {a : Nat → Nat} {i k j : Nat} (h : j ≠ i) : upN a i k j = a j := if_neg h
/-- a leaf keeps what was placed -/
theorem lvs_keep {b : Nat → Nat} : ∀ (m i h : Nat) (a : Nat → Nat), b ∈ lvs m i h a → ∀ j, (j < i ∨ i + m ≤ j) → b j = a j
  | 0, i, h, a, hb, j, _ => by rw [lvs, List.mem_singleton] at hb; rw [hb]
  | m + 1, i, h, a, hb, j, hj => by
    rw [lvs, lvk_mem] at hb
    obtain ⟨k, _, _, hb⟩ := hb
    rw [lvs_keep m (i + 1) (nxh h k) (upN a i k) hb j (by omega), upN_ne (by omega)]
/-- each place has an old heap or the next one -/
def canA (s i h : Nat) (a : Nat → Nat) : Prop := (∀ j, s ≤ j → j < i → a j < h) ∧ (∀ k, k < h → ∃ j, s ≤ j ∧ j < i ∧ a j = k)
theorem canA.up {s i h k : Nat} {a : Nat → Nat} (hc : canA s i h a) (hs : s ≤ i) (hk : k ≤ h) : canA s (i + 1) (nxh h k) (upN a i k) := by
  have hn : h ≤ nxh h k ∧ k < nxh h k ∧ nxh h k ≤ h + 1 := by unfold nxh; split <;> omega
  refine ⟨fun j h1 h2 => ?_, fun x hx => ?_⟩
  · by_cases e : j = i
    · subst e; rw [upN_at]; exact hn.2.1
    · rw [upN_ne e]
      have := hc.1 j h1 (by omega)
      omega
  · by_cases e : x = k
    · subst e; exact ⟨i, hs, by omega, upN_at⟩
    · have hx2 : x < h := by unfold nxh at hx; split at hx <;> omega
      obtain ⟨j, j1, j2, j3⟩ := hc.2 x hx2
      exact ⟨j, j1, by omega, by rw [upN_ne (by omega), j3]⟩
theorem canA.le {s i h : Nat} {a : Nat → Nat} : canA s i h a → s ≤ i → h ≤ i - s := by
  induction i generalizing h a with
  | zero =>
    intro hc _
    by_cases z : h = 0
    · omega
    · obtain ⟨j, _, h2, _⟩ := hc.2 0 (by omega)
      omega
  | succ i ih =>
    intro hc hs
    by_cases z : s = i + 1
    · by_cases y : h = 0
      · omega
      · obtain ⟨j, h1, h2, _⟩ := hc.2 0 (by omega)
        omega
    · -- rename the heap of the last place away
      have key : fb_ct (fun _ => true) h ≤ (i + 1) - s := by
        have hf : ∀ k, ∃ j, k < h → s ≤ j ∧ j < i + 1 ∧ a j = k := fun k => by
          by_cases hk : k < h
          · obtain ⟨j, hj⟩ := hc.2 k hk
            exact ⟨j, fun _ => hj⟩
          · exact ⟨0, fun q => absurd q hk⟩
        have hg := fun k => Classical.choose_spec (hf k)
        have hh := fb_holes ((i + 1) - s) h (fun k => Classical.choose (hf k) - s) (fun k hk => by have := hg k hk; omega) (fun x y hxy hy => by
          have h1 := hg x (by omega)
          have h2 := hg y hy
          intro e
          have e2 : Classical.choose (hf x) = Classical.choose (hf y) := by omega
          have h3 := h1.2.2
          have h4 := h2.2.2
          rw [e2] at h3
          omega)
        rw [fb_ct_all.mpr (fun _ _ => rfl)]
        exact hh
      rw [fb_ct_all.mpr (fun _ _ => rfl)] at key
      exact key
/-- the same heaping, whatever the heaps' names -/
def kerE (s n : Nat) (a b : Nat → Nat) : Prop := ∀ i j, s ≤ i → i < n → s ≤ j → j < n → (a i = a j ↔ b i = b j)
theorem lvs_full {s : Nat} {b : Nat → Nat} : ∀ (m i h : Nat) (a : Nat → Nat), s ≤ i → canA s i h a → kerE s i a b → ∃ c, c ∈ lvs m i h a ∧ kerE s (i + m) c b
  | 0, i, h, a, _, _, hk => ⟨a, by rw [lvs]; exact List.mem_singleton.mpr rfl, hk⟩
  | m + 1, i, h, a, hs, hc, hk => by
    have step : ∀ k, k ≤ h → kerE s (i + 1) (upN a i k) b → ∃ c, c ∈ lvs (m + 1) i h a ∧ kerE s (i + (m + 1)) c b := by
      intro k hkh hke
      obtain ⟨c, hc1, hc2⟩ := lvs_full m (i + 1) (nxh h k) (upN a i k) (by omega) (hc.up hs hkh) hke
      refine ⟨c, ?_, by rw [show i + (m + 1) = i + 1 + m by omega]; exact hc2⟩
      rw [lvs, lvk_mem]
      exact ⟨k, Nat.zero_le _, by omega, hc1⟩
    by_cases z : ∃ j, s ≤ j ∧ j < i ∧ b j = b i
    · obtain ⟨j, j1, j2, j3⟩ := z
      refine step (a j) (Nat.le_of_lt (hc.1 j j1 j2)) (fun x y x1 x2 y1 y2 => ?_)
      by_cases ex : x = i
      · by_cases ey : y = i
        · subst ex; subst ey; simp
        · subst ex
          rw [upN_at, upN_ne ey, hk j y j1 j2 y1 (by omega), j3]
      · by_cases ey : y = i
        · subst ey
          rw [upN_at, upN_ne ex, hk x j x1 (by omega) j1 j2, j3]
        · rw [upN_ne ex, upN_ne ey]
          exact hk x y x1 (by omega) y1 (by omega)
    · refine step h (Nat.le_refl _) (fun x y x1 x2 y1 y2 => ?_)
      by_cases ex : x = i
      · by_cases ey : y = i
        · subst ex; subst ey; simp
        · subst ex
          rw [upN_at, upN_ne ey]
          have := hc.1 y y1 (by omega)
          exact ⟨fun q => by omega, fun q => absurd ⟨y, y1, by omega, q.symm⟩ z⟩
      · by_cases ey : y = i
        · subst ey
          rw [upN_at, upN_ne ex]
          have := hc.1 x x1 (by omega)
          exact ⟨fun q => by omega, fun q => absurd ⟨x, x1, by omega, q⟩ z⟩
        · rw [upN_ne ex, upN_ne ey]
          exact hk x y x1 (by omega) y1 (by omega)
/-! what a heaping costs, and whether it is lawful -/
def cwN (w : Int32) (same : Bool) : Nat := if same then (-w.toInt).toNat else w.toInt.toNat
def cRow (W : Nat → Nat → Int32) (s : Nat) (a : Nat → Nat) (i k : Nat) : Nat := fb_sm (fun j => if s ≤ j then cwN (W i j) (decide (a j = k)) else 0) i
def cSum (W : Nat → Nat → Int32) (s : Nat) (a : Nat → Nat) (n : Nat) : Nat := fb_sm (fun i => if s ≤ i then cRow W s a i (a i) else 0) n
def mayB (s rm : Nat) (A T : Nat → Nat → Bool) (a : Nat → Nat) (i k : Nat) : Bool := !anyB (fun j => decide (s ≤ j) && (if a j = k then A i j else T i j)) i && decide (fb_ct (fun j => decide (s ≤ j) && decide (a j = k)) i < rm)
def lwB (s rm : Nat) (A T : Nat → Nat → Bool) (a : Nat → Nat) (n : Nat) : Bool := !anyB (fun i => decide (s ≤ i) && !mayB s rm A T a i (a i)) n
theorem anyB_cong {p q : Nat → Bool} : ∀ {n : Nat}, (∀ i, i < n → p i = q i) → anyB p n = anyB q n
  | 0, _ => rfl
  | n + 1, h => by rw [anyB, anyB, anyB_cong (n := n) (fun i hi => h i (by omega)), h n (by omega)]
theorem cRow_cong {W : Nat → Nat → Int32} {s i k : Nat} {a b : Nat → Nat} (h : ∀ j, s ≤ j → j < i → a j = b j) : cRow W s a i k = cRow W s b i k := by
  refine fb_sm_cong (fun j hj => ?_)
  by_cases z : s ≤ j
  · rw [if_pos z, if_pos z, h j z hj]
  · rw [if_neg z, if_neg z]
theorem cSum_cong {W : Nat → Nat → Int32} {s n : Nat} {a b : Nat → Nat} (h : ∀ j, s ≤ j → j < n → a j = b j) : cSum W s a n = cSum W s b n := by
  refine fb_sm_cong (fun i hi => ?_)
  by_cases z : s ≤ i
  · rw [if_pos z, if_pos z, h i z hi]
    exact cRow_cong (fun j h1 h2 => h j h1 (by omega))
  · rw [if_neg z, if_neg z]
theorem mayB_cong {s rm i k : Nat} {A T : Nat → Nat → Bool} {a b : Nat → Nat} (h : ∀ j, s ≤ j → j < i → a j = b j) : mayB s rm A T a i k = mayB s rm A T b i k := by
  unfold mayB
  congr 2
  · refine anyB_cong (fun j hj => ?_)
    by_cases z : s ≤ j
    · rw [h j z hj]
    · rw [decide_eq_false z, Bool.false_and, Bool.false_and]
  · rw [fb_ct_cong (q := fun j => decide (s ≤ j) && decide (b j = k)) (fun j hj => by
      by_cases z : s ≤ j
      · rw [h j z hj]
      · rw [decide_eq_false z, Bool.false_and, Bool.false_and])]
theorem lwB_iff {s rm n : Nat} {A T : Nat → Nat → Bool} {a : Nat → Nat} : lwB s rm A T a n = true ↔ ∀ i, s ≤ i → i < n → mayB s rm A T a i (a i) = true := by
  unfold lwB
  rw [Bool.not_eq_true', ← Bool.not_eq_true, anyB_iff]
  constructor
  · intro h i h1 h2
    cases e : mayB s rm A T a i (a i)
    · exact absurd ⟨i, h2, by rw [e, decide_eq_true h1]; rfl⟩ h
    · rfl
  · rintro h ⟨i, h2, h3⟩
    rw [Bool.and_eq_true] at h3
    rw [h i (of_decide_eq_true h3.1) h2] at h3
    simp at h3
theorem lwB_cong {s rm n : Nat} {A T : Nat → Nat → Bool} {a b : Nat → Nat} (h : ∀ j, s ≤ j → j < n → a j = b j) : lwB s rm A T a n = lwB s rm A T b n := by
  unfold lwB
  congr 1
  refine anyB_cong (fun i hi => ?_)
  by_cases z : s ≤ i
  · rw [h i z hi, mayB_cong (fun j h1 h2 => h j h1 (by omega))]
  · rw [decide_eq_false z, Bool.false_and, Bool.false_and]
theorem mayB_iff {s rm i k : Nat} {A T : Nat → Nat → Bool} {a : Nat → Nat} : mayB s rm A T a i k = true ↔ (∀ j, s ≤ j → j < i → (if a j = k then A i j else T i j) = false) ∧ fb_ct (fun j => decide (s ≤ j) && decide (a j = k)) i < rm := by
  unfold mayB
  rw [Bool.and_eq_true, Bool.not_eq_true', ← Bool.not_eq_true, anyB_iff, decide_eq_true_iff]
  constructor
  · rintro ⟨h1, h2⟩
    refine ⟨fun j h3 h4 => ?_, h2⟩
    cases e : (if a j = k then A i j else T i j)
    · rfl
    · exact absurd ⟨j, h4, by rw [e, decide_eq_true h3]; rfl⟩ h1
  · rintro ⟨h1, h2⟩
    refine ⟨?_, h2⟩
    rintro ⟨j, h4, h5⟩
    rw [Bool.and_eq_true] at h5
    rw [h1 j (of_decide_eq_true h5.1) h4] at h5
    exact absurd h5.2 (by decide)
/-- .. and that the names of the heaps don't matter -/
theorem lwB_ker {s rm n : Nat} {A T : Nat → Nat → Bool} {a b : Nat → Nat} (h : kerE s n a b) : lwB s rm A T a n = lwB s rm A T b n := by
  have half : ∀ {a b : Nat → Nat}, kerE s n a b → lwB s rm A T a n = true → lwB s rm A T b n = true := by
    intro a b h ha
    rw [lwB_iff] at ha ⊢
    intro i h1 h2
    have := ha i h1 h2
    rw [mayB_iff] at this ⊢
    refine ⟨fun j j1 j2 => ?_, ?_⟩
    · have hj := this.1 j j1 j2
      have hk := h j i j1 (by omega) h1 h2
      by_cases z : b j = b i
      · rw [if_pos z]; rw [if_pos (hk.mpr z)] at hj; exact hj
      · rw [if_neg z]; rw [if_neg (fun q => z (hk.mp q))] at hj; exact hj
    · rw [fb_ct_cong (q := fun j => decide (s ≤ j) && decide (a j = a i)) (fun j hj => ?_)]
      · exact this.2
      · by_cases z : s ≤ j
        · rw [decide_eq_true z, Bool.true_and, Bool.true_and, decide_eq_decide]
          exact (h j i z (by omega) h1 h2).symm
        · rw [decide_eq_false z, Bool.false_and, Bool.false_and]
  cases e : lwB s rm A T b n
  · cases e2 : lwB s rm A T a n
    · rfl
    · rw [half h e2] at e; cases e
  · exact half (fun i j h1 h2 h3 h4 => (h i j h1 h2 h3 h4).symm) e
theorem cSum_ker {W : Nat → Nat → Int32} {s n : Nat} {a b : Nat → Nat} (h : kerE s n a b) : cSum W s a n = cSum W s b n := by
  refine fb_sm_cong (fun i hi => ?_)
  by_cases z : s ≤ i
  · rw [if_pos z, if_pos z]
    refine fb_sm_cong (fun j hj => ?_)
    by_cases y : s ≤ j
    · rw [if_pos y, if_pos y]
      congr 1
      rw [decide_eq_decide]
      exact h j i y (by omega) z hi
    · rw [if_neg y, if_neg y]
  · rw [if_neg z, if_neg z]
/-- the end of a lawful heaping is lawful -/
theorem lwB_end {s s2 rm n : Nat} {A T : Nat → Nat → Bool} {a : Nat → Nat} (hs : s ≤ s2) (h : lwB s rm A T a n = true) : lwB s2 rm A T a n = true := by
  rw [lwB_iff] at h ⊢
  intro i h1 h2
  have := h i (by omega) h2
  rw [mayB_iff] at this ⊢
  refine ⟨fun j j1 j2 => this.1 j (by omega) j2, Nat.lt_of_le_of_lt (fb_ct_sub (fun j _ q => ?_)) this.2⟩
  rw [Bool.and_eq_true] at q ⊢
  exact ⟨decide_eq_true (by have := of_decide_eq_true q.1; omega), q.2⟩
theorem lwB_pre {s rm n i : Nat} {A T : Nat → Nat → Bool} {a : Nat → Nat} (hi : i ≤ n) (h : lwB s rm A T a n = true) : lwB s rm A T a i = true := by
  rw [lwB_iff] at h ⊢
  exact fun j h1 h2 => h j h1 (by omega)
theorem cRow_end {W : Nat → Nat → Int32} {s s2 i k : Nat} {a : Nat → Nat} (hs : s ≤ s2) : cRow W s2 a i k ≤ cRow W s a i k := by
  refine fb_sm_le (fun j _ => ?_)
  by_cases z : s2 ≤ j
  · rw [if_pos z, if_pos (by omega)]; exact Nat.le_refl _
  · rw [if_neg z]; exact Nat.zero_le _
/-- what was placed, and the end alone, cost no more than the whole -/
theorem cSum_end {W : Nat → Nat → Int32} {s i n : Nat} {a : Nat → Nat} (hs : s ≤ i) (hi : i ≤ n) : cSum W s a i + cSum W i a n ≤ cSum W s a n := by
  have h1 := fb_sm_split (fun x => if s ≤ x then cRow W s a x (a x) else 0) i (n - i)
  have h2 := fb_sm_split (fun x => if i ≤ x then cRow W i a x (a x) else 0) i (n - i)
  rw [show i + (n - i) = n by omega] at h1 h2
  have h3 : fb_sm (fun x => if i ≤ x then cRow W i a x (a x) else 0) i = 0 := by
    rw [fb_sm_cong (g := fun _ => 0) (fun k hk => if_neg (by omega)), fb_sm_const]
    omega
  have h4 : fb_sm (fun x => if i ≤ i + x then cRow W i a (i + x) (a (i + x)) else 0) (n - i) ≤ fb_sm (fun x => if s ≤ i + x then cRow W s a (i + x) (a (i + x)) else 0) (n - i) := by
    refine fb_sm_le (fun x _ => ?_)
    rw [if_pos (by omega), if_pos (by omega)]
    exact cRow_end hs
  have e1 : cSum W s a n = fb_sm (fun x => if s ≤ x then cRow W s a x (a x) else 0) n := rfl
  have e2 : cSum W s a i = fb_sm (fun x => if s ≤ x then cRow W s a x (a x) else 0) i := rfl
  have e3 : cSum W i a n = fb_sm (fun x => if i ≤ x then cRow W i a x (a x) else 0) n := rfl
  omega
theorem cSum_pre {W : Nat → Nat → Int32} {s i n : Nat} {a : Nat → Nat} (hi : i ≤ n) : cSum W s a i ≤ cSum W s a n := by
  have := fb_sm_mono (fun x => if s ≤ x then cRow W s a x (a x) else 0) i (n - i)
  rw [show i + (n - i) = n by omega] at this
  exact this
theorem cSum_succ {W : Nat → Nat → Int32} {s i : Nat} {a : Nat → Nat} (hs : s ≤ i) : cSum W s a (i + 1) = cSum W s a i + cRow W s a i (a i) := by
  unfold cSum
  rw [fb_sm_succ, if_pos hs]
theorem cwN_le {w : Int32} (h : okW w) (same : Bool) : cwN w same ≤ 1000000 := by
  obtain ⟨h1, h2⟩ := h
  unfold cwN
  cases same
  · rw [if_neg (by decide)]; omega
  · rw [if_pos rfl]; omega
theorem cRow_le {W : Nat → Nat → Int32} {s i k : Nat} {a : Nat → Nat} (h : ∀ j, j < i → okW (W i j)) : cRow W s a i k ≤ i * 1000000 := by
  refine fb_sm_bound (fun j hj => ?_)
  by_cases z : s ≤ j
  · rw [if_pos z]; exact cwN_le (h j hj) _
  · rw [if_neg z]; exact Nat.zero_le _
theorem cSum_le {W : Nat → Nat → Int32} {s n : Nat} {a : Nat → Nat} (hn : n ≤ 10) (h : ∀ i j, j < i → i < n → okW (W i j)) : cSum W s a n ≤ 90000000 := by
  have : cSum W s a n ≤ n * 9000000 := fb_sm_bound (fun i hi => by
    by_cases z : s ≤ i
    · rw [if_pos z]
      have := cRow_le (W := W) (s := s) (k := a i) (a := a) (fun j hj => h i j hj hi)
      omega
    · rw [if_neg z]; exact Nat.zero_le _)
  omega
/-- no prefix that breaks the law has a lawful leaf -/
theorem lvs_no {s rm n : Nat} {A T : Nat → Nat → Bool} {a b : Nat → Nat} {m i h k : Nat} (hs : s ≤ i) (hi : i < n) (hb : b ∈ lvs m (i + 1) h (upN a i k)) (hn : mayB s rm A T a i k = false) : lwB s rm A T b n = false := by
  have hk := lvs_keep _ _ _ _ hb
  cases e : lwB s rm A T b n
  · rfl
  · have := (lwB_iff.mp e) i hs hi
    rw [hk i (by omega), upN_at, mayB_cong (b := a) (fun j h1 h2 => by rw [hk j (by omega), upN_ne (by omega)]), hn] at this
    cases this
