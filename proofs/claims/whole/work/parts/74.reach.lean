/-! parts: what hangs together, as the least closed set -/
def hgP (wt : Nat → Nat → Int32) (ti : Nat → Nat → Bool) (a c : Nat) : Bool := decide (a ≠ c) && (drP wt a c || ti a c)
def Rch (N : Nat) (U : Nat → Bool) (hg : Nat → Nat → Bool) (i j : Nat) : Prop := ∀ T : Nat → Prop, T i → (∀ a c, a < N → c < N → T a → U c = true → hg a c = true → T c) → T j
theorem Rch.rf {N : Nat} {U : Nat → Bool} {hg : Nat → Nat → Bool} (i : Nat) : Rch N U hg i i := fun _ h _ => h
theorem Rch.trans {N : Nat} {U : Nat → Bool} {hg : Nat → Nat → Bool} {i j k : Nat} (h1 : Rch N U hg i j) (h2 : Rch N U hg j k) : Rch N U hg i k := fun T h0 hs => h2 T (h1 T h0 hs) hs
theorem Rch.step {N : Nat} {U : Nat → Bool} {hg : Nat → Nat → Bool} {i a c : Nat} (h : Rch N U hg i a) (ha : a < N) (hc : c < N) (hu : U c = true) (hh : hg a c = true) : Rch N U hg i c := fun T h0 hs => hs a c ha hc (h T h0 hs) hu hh
theorem Rch.lt {N : Nat} {U : Nat → Bool} {hg : Nat → Nat → Bool} {i j : Nat} (h : Rch N U hg i j) (hi : i < N) : j < N := h (· < N) hi (fun _ _ _ hc _ _ _ => hc)
theorem Rch.u {N : Nat} {U : Nat → Bool} {hg : Nat → Nat → Bool} {i j : Nat} (h : Rch N U hg i j) (hi : U i = true) : U j = true := h (fun x => U x = true) hi (fun _ _ _ _ _ hu _ => hu)
theorem Rch.sy {N : Nat} {U : Nat → Bool} {hg : Nat → Nat → Bool} (hsy : ∀ a c, a < N → c < N → hg a c = hg c a) {i j : Nat} (h : Rch N U hg i j) (hi : i < N) (hu : U i = true) : Rch N U hg j i := by
  refine (h (fun x => (x < N ∧ U x = true) ∧ Rch N U hg x i) ⟨⟨hi, hu⟩, Rch.rf i⟩ ?_).2
  rintro a c ha hc ⟨⟨_, hua⟩, hr⟩ huc hh
  exact ⟨⟨hc, huc⟩, ((Rch.rf c).step hc ha hua (by rw [hsy c a hc ha]; exact hh)).trans hr⟩
noncomputable def rc (N : Nat) (U : Nat → Bool) (hg : Nat → Nat → Bool) (i j : Nat) : Bool := @decide (Rch N U hg i j) (Classical.propDecidable _)
theorem rc_iff {N : Nat} {U : Nat → Bool} {hg : Nat → Nat → Bool} {i j : Nat} : rc N U hg i j = true ↔ Rch N U hg i j := by unfold rc; exact @decide_eq_true_iff _ (Classical.propDecidable _)
theorem rc_eq {N : Nat} {U : Nat → Bool} {hg : Nat → Nat → Bool} (hsy : ∀ a c, a < N → c < N → hg a c = hg c a) {i j : Nat} (h : rc N U hg i j = true) (hi : i < N) (hu : U i = true) : rc N U hg j = rc N U hg i := by
  have h1 := rc_iff.mp h
  have h2 := h1.sy hsy hi hu
  funext k
  rw [Bool.eq_iff_iff, rc_iff, rc_iff]
  exact ⟨fun k => h1.trans k, fun k => h2.trans k⟩
theorem rc_big {N : Nat} {U : Nat → Bool} {hg : Nat → Nat → Bool} {i j : Nat} (hi : i < N) (hj : N ≤ j) : rc N U hg i j = false := by
  cases h : rc N U hg i j
  · rfl
  · have := (rc_iff.mp h).lt hi; omega
/-- a closed set out of which nothing can be taken -/
theorem rc_is {N : Nat} {U : Nat → Bool} {hg : Nat → Nat → Bool} {i : Nat} {S : Nat → Bool} (h0 : S i = true) (hc : ∀ a c, a < N → c < N → S a = true → U c = true → hg a c = true → S c = true) (hm : ∀ j, S j = true → Rch N U hg i j) : S = rc N U hg i := by
  funext j
  rw [Bool.eq_iff_iff, rc_iff]
  exact ⟨hm j, fun h => h (fun x => S x = true) h0 (fun a c ha hcn ht hu hh => hc a c ha hcn ht hu hh)⟩
/-- the least of a part -/
noncomputable def lst1 (N : Nat) (U : Nat → Bool) (hg : Nat → Nat → Bool) (i : Nat) : Nat := fa_first (rc N U hg i) N
theorem lst1_le {N : Nat} {U : Nat → Bool} {hg : Nat → Nat → Bool} {i : Nat} (hi : i < N) : lst1 N U hg i ≤ i ∧ lst1 N U hg i < N ∧ rc N U hg i (lst1 N U hg i) = true := by
  have h1 : lst1 N U hg i ≤ i := by
    by_cases h : lst1 N U hg i ≤ i
    · exact h
    · have := fa_first_no (rc N U hg i) N i (by show i < lst1 N U hg i; omega)
      rw [rc_iff.mpr (Rch.rf i)] at this
      cases this
  exact ⟨h1, by omega, fa_first_yes _ N (by show lst1 N U hg i < N; omega)⟩
theorem lst1_eq {N : Nat} {U : Nat → Bool} {hg : Nat → Nat → Bool} (hsy : ∀ a c, a < N → c < N → hg a c = hg c a) {i j : Nat} (h : rc N U hg i j = true) (hi : i < N) (hu : U i = true) : lst1 N U hg j = lst1 N U hg i := by
  unfold lst1; rw [rc_eq hsy h hi hu]
/-! counts -/
theorem fa_cnt_mono {p q : Nat → Bool} : ∀ {n : Nat}, (∀ k, k < n → p k = true → q k = true) → fa_cnt p n ≤ fa_cnt q n
  | 0, _ => Nat.le_refl _
  | n + 1, h => by
    have ih := fa_cnt_mono (n := n) (fun k hk => h k (by omega))
    rw [fa_cnt, fa_cnt]
    by_cases hp : p n = true
    · rw [if_pos hp, if_pos (h n (by omega) hp)]; omega
    · rw [if_neg hp]; split <;> omega
theorem fa_cnt_lt {p q : Nat → Bool} {i : Nat} : ∀ {n : Nat}, (∀ k, k < n → p k = true → q k = true) → i < n → p i = false → q i = true → fa_cnt p n < fa_cnt q n
  | 0, _, hi, _, _ => absurd hi (Nat.not_lt_zero _)
  | n + 1, h, hi, hp, hq => by
    rw [fa_cnt, fa_cnt]
    by_cases e : i = n
    · subst e
      have := fa_cnt_mono (n := i) (p := p) (q := q) (fun k hk => h k (by omega))
      rw [if_neg (by rw [hp]; decide), if_pos hq]; omega
    · have ih := fa_cnt_lt (n := n) (fun k hk => h k (by omega)) (by omega) hp hq
      by_cases hpn : p n = true
      · rw [if_pos hpn, if_pos (h n (by omega) hpn)]; omega
      · rw [if_neg hpn]; split <;> omega
theorem fa_cnt_pos {p : Nat → Bool} {n i : Nat} (hi : i < n) (h : p i = true) : 1 ≤ fa_cnt p n := by
  have := fa_cnt_lt (p := fun _ => false) (q := p) (n := n) (fun k _ h => by cases h) hi rfl h
  omega
