/-! the class's sum is the pure one -/
theorem bnP_inr {r : PR} {f : PS → PR} {s2 : PS} (h : bnP r f = .inr s2) : ∃ s1, r = .inr s1 ∧ f s1 = .inr s2 := by
  cases r with
  | inl e => cases h
  | inr s1 => exact ⟨s1, rfl, h⟩
theorem adP_at {S : Nat → Int32} {s : PS} : s.1 ≤ (adP S s).1 := by
  unfold adP
  split
  · exact Nat.le_refl _
  · exact Nat.le_succ _
theorem adP_go {S : Nat → Int32} {s : PS} (h : ¬ S s.1 = -18) : s.1 < (adP S s).1 := by
  unfold adP
  rw [if_neg h]
  exact Nat.lt_succ_self _
theorem paP_at {S : Nat → Int32} {due : Int32} {s s2 : PS} (hd : ¬ due = -18) (h : paP S due s = .inr s2) : s.1 < s2.1 := by
  unfold paP at h
  split at h
  · rename_i z
    cases h
    exact adP_go (fun w => hd (z.symm.trans w))
  · cases h
theorem opP_at {S : Nat → Int32} {due : Int32} {sub : Option (PS → PR)} {g : (PS → PR) → PS → PR} {s s2 : PS} (hd : ¬ due = -18) (hg : ∀ f, sub = some f → ∀ s1, g f s1 = .inr s2 → s1.1 ≤ s2.1) (h : opP S due sub g s = .inr s2) : s.1 < s2.1 := by
  unfold opP at h
  split at h
  · rename_i z
    cases hs : sub with
    | none => rw [hs] at h; cases h
    | some f =>
      rw [hs] at h
      have h1 : s.1 < (adP S s).1 := adP_go (fun w => hd (z.symm.trans w))
      have h2 := hg f hs (adP S s) h
      omega
  · cases h
theorem unP_at {S V : Nat → Int32} {sub : Option (PS → PR)} (hsub : ∀ f, sub = some f → ∀ s s2, f s = .inr s2 → s.1 < s2.1) (s s2 : PS) (h : unP S V sub s = .inr s2) : s.1 < s2.1 := by
  unfold unP at h
  split at h
  · rename_i z
    split at h
    · cases h
      exact adP_go (s := emP 0 (V s.1) s) (show ¬ S s.1 = -18 by rw [z]; decide)
    · cases h
  · split at h
    · rename_i z
      cases h
      exact adP_go (s := emP (nt (-(S s.1))) (nI 0) s) (show ¬ S s.1 = -18 from fun w => by rw [w] at z; exact absurd z.2 (by decide))
    · split at h
      · have h0 := @adP_at S s
        have h1 := opP_at (by decide) (fun f hf s1 hh => ?_) h
        · omega
        · obtain ⟨a1, e1, hh⟩ := bnP_inr hh
          obtain ⟨a2, e2, hh⟩ := bnP_inr hh
          obtain ⟨a3, e3, hh⟩ := bnP_inr hh
          obtain ⟨a4, e4, hh⟩ := bnP_inr hh
          have b1 := hsub f hf _ _ e1
          have b2 := paP_at (by decide) e2
          have b3 := hsub f hf _ _ e3
          have b4 := paP_at (by decide) e4
          cases hh
          show s1.1 ≤ a4.1
          omega
      · refine opP_at (by decide) (fun f hf s1 hh => ?_) h
        obtain ⟨a1, e1, hh⟩ := bnP_inr hh
        have b1 := hsub f hf _ _ e1
        have b2 := paP_at (by decide) hh
        omega
theorem chP_at {S : Nat → Int32} {x y : Int32} {ox oy : Nat} {f : PS → PR} (hat : ∀ s s2, f s = .inr s2 → s.1 < s2.1) : ∀ (m : Nat) (s s2 : PS), chP S x y ox oy f m s = .inr s2 → s.1 ≤ s2.1
  | 0, s, s2, h => by rw [chP] at h; cases h; exact Nat.le_refl _
  | m + 1, s, s2, h => by
    rw [chP] at h
    split at h
    · obtain ⟨a1, e1, hh⟩ := bnP_inr h
      have b0 := @adP_at S s
      have b1 := hat _ _ e1
      have b2 := chP_at hat m _ _ hh
      have b3 : a1.1 ≤ s2.1 := b2
      omega
    · cases h; exact Nat.le_refl _
theorem smP_at {S V : Nat → Int32} {sub : Option (PS → PR)} (hsub : ∀ f, sub = some f → ∀ s s2, f s = .inr s2 → s.1 < s2.1) : (∀ s s2, prP S V sub s = .inr s2 → s.1 < s2.1) ∧ ∀ s s2, smP S V sub s = .inr s2 → s.1 < s2.1 := by
  have hu := unP_at (S := S) (V := V) hsub
  have hp : ∀ s s2, prP S V sub s = .inr s2 → s.1 < s2.1 := fun s s2 h => by
    obtain ⟨a1, e1, hh⟩ := bnP_inr h
    have b1 := hu _ _ e1
    have b2 := chP_at hu _ _ _ hh
    omega
  refine ⟨hp, fun s s2 h => ?_⟩
  obtain ⟨a1, e1, hh⟩ := bnP_inr h
  have b1 := hp _ _ e1
  have b2 := chP_at hp _ _ _ hh
  omega
theorem sumP_at {S V : Nat → Int32} : ∀ (d : Nat) (s s2 : PS), sumP S V d s = .inr s2 → s.1 < s2.1
  | 0, s, s2, h => (smP_at (S := S) (V := V) (sub := none) (fun f hf => by cases hf)).2 s s2 h
  | d + 1, s, s2, h => (smP_at (S := S) (V := V) (sub := some (sumP S V d)) (fun f hf => by cases hf; exact sumP_at d)).2 s s2 h
theorem subP_at {S V : Nat → Int32} (d : Nat) : ∀ f, subP S V d = some f → ∀ s s2, f s = .inr s2 → s.1 < s2.1 := by
  cases d with
  | zero => intro f hf; cases hf
  | succ d => intro f hf; cases hf; exact sumP_at d
section
variable {b : Bool} {B : Nat → Nat} {n C : Nat}
theorem cFn_sums (hb : ∀ i, i < n → B i < 256) (hC : C ≤ 400) : ∀ (e d m : Nat), d + e = 6 → cFn b B n C ((WR_X7_readProduct b (m + (3 * e + 3))).2.1 (nI d)) (sumP (sgB B n) (vlB B n) e) := by
  intro e
  induction e with
  | zero =>
    intro d m hd
    have hs : subOK b B n C d ((WR_X7_readProduct b m).2.1) none := ⟨fun _ => (by omega), fun f hf => by cases hf⟩
    exact cFn_sum hb hC (cFn_prod hb hC (cFn_unit (R1 := (WR_X7_readProduct b m).1) (R3 := (WR_X7_readProduct b m).2.2) hb (by omega) hs) (unP_at (fun f hf => by cases hf))) (smP_at (fun f hf => by cases hf)).1
  | succ e ih =>
    intro d m hd
    have hs : subOK b B n C d ((WR_X7_readProduct b (m + (3 * e + 3))).2.1) (some (sumP (sgB B n) (vlB B n) e)) := ⟨fun h => (by cases h), fun f hf => by
      cases hf
      refine ⟨by omega, ?_⟩
      rw [nI_add]
      exact ih (d + 1) m (by omega)⟩
    have ha : ∀ f, some (sumP (sgB B n) (vlB B n) e) = some f → ∀ s s2, f s = .inr s2 → s.1 < s2.1 := fun f hf => by cases hf; exact sumP_at e
    exact cFn_sum hb hC (cFn_prod hb hC (cFn_unit (R1 := (WR_X7_readProduct b (m + (3 * e + 3))).1) (R3 := (WR_X7_readProduct b (m + (3 * e + 3))).2.2) hb (by omega) hs) (unP_at ha)) (smP_at ha).1
end
