/-! told -/
theorem Inv.pwG {b : Bool} {σ : gSt} (hI : Inv b σ) : ∃ (N : Nat) (bk nm td yr : Nat → Nat) (fa : Nat → Int32) (most : Nat) (wt : Nat → Nat → Int32) (nv ti ap : Nat → Nat → Bool) (h : Nat → Nat), N ≤ 30 ∧ entAt σ N bk nm td yr fa ∧ (σ.1 65 1 = nI N ∧ σ.1 33 1 = nI N) ∧ (σ.1 65 41 = nI most ∧ σ.1 30 5 = nI most ∧ most ≤ 30) ∧ (∀ i, i < N → σ.1 34 i = nI (h i) ∧ σ.1 71 i = nI (h i) ∧ h i ≤ i ∧ h (h i) = h i) ∧ pwS N wt nv ti ap ∧ pwC σ N bk yr wt nv ti ap ∧
    (∀ (s : gSt) (Q : gSt → Prop), Fr (42 :: 43 :: 101 :: scrC) (56 :: 57 :: 60 :: scrJ) σ s → (∀ t, Off [86, 90, 91, 92, 93] s t → pwM t N wt nv ti ap → Q t) → W_X12_weighs Q s) ∧ (∃ R hs, invG σ N R hs) ∧ (∀ t R2 hs2, Fr (42 :: 43 :: 101 :: scrC) (56 :: 57 :: 60 :: scrJ) σ t → invG t N R2 hs2 → Inv b t) := by
  obtain ⟨hR, N, bk, nm, td, yr, fa, C, kind, st, cd, op, num, T, ta, tb, tw, most, ob, span, F, fx, fy, ft, h, m, kz, kh, tp, R, hs, hE, hRu, hT, hL, hP, hH, hD, hG⟩ := hI
  have h30 := hE.1.2.1
  refine ⟨N, bk, nm, td, yr, fa, most, fun a c => w0 (wgt (fct (σ.1 3) bk nm td yr fa a c) num kind st cd op C T ta tb tw a c), fun a c => decide (wgt (fct (σ.1 3) bk nm td yr fa a c) num kind st cd op C T ta tb tw a c = (-2147483648 : Int32)), tieF F fx fy ft, fun a c => apaF bk yr F fx fy ft ob span (wgt (fct (σ.1 3) bk nm td yr fa a c) num kind st cd op C T ta tb tw a c) a c, h, h30, hE.1, ⟨hE.2.1.1, hH.1⟩, hL.2.2.2.1, hH.2.2.1, ?_, ?_, ?_, ⟨R, hs, hG⟩, fun t R2 hs2 f hg => ⟨f.2.2.trans hR, N, bk, nm, td, yr, fa, C, kind, st, cd, op, num, T, ta, tb, tw, most, ob, span, F, fx, fy, ft, h, m, kz, kh, tp, R2, hs2, hE.fr f (by decide) (by decide), hRu.fr f (by cases b <;> decide) (by decide), hT.fr f (by decide) (by decide), hL.fr f (by decide) (by decide), hP.fr f (by decide) (by decide), hH.fr f (by decide) (by decide), hD.fr f (by decide) (by decide), hg⟩⟩
  · intro a c ha hc hne
    have hf := hE.symm ha hc
    have ea := hE.1.2.2 a ha
    have ec := hE.1.2.2 c hc
    refine ⟨by simp only [wgt_symm hf], by simp only [wgt_symm hf], by unfold tieF; rw [tix_symm F fx fy a c], ?_, wgt_ok (fun q hq => (hT.2.2.1 q hq).2.2.2), fun hn => ?_⟩
    · simp only [wgt_symm hf]
      exact apaF_symm (abs_symm ea.2.2.2.2.2.2.2.2 ec.2.2.2.2.2.2.2.2)
    · exact if_pos (of_decide_eq_true hn)
  · intro a c ha hc hne
    obtain ⟨g, hg, c1, c2, c3, c4, c5, c6, c7, c8⟩ := hP.get hE ha hc hne
    obtain ⟨b1, b2⟩ := hL.2.2.2.2.2.2.2 a c (by omega) (by omega)
    refine ⟨c1, c5, b1, ?_⟩
    unfold prtC apaF
    rw [c5, b2, hL.2.2.2.2.1.2.1, hL.2.2.2.2.2.1.2.1]
    rw [show decide (nI ob = nI 1) = decide (ob = 1) from dec_nI (by have := hL.2.2.2.2.1.2.2; omega) (by decide)]
  · intro s Q f q
    have hE3 := hE.fr f (by decide) (by decide)
    have hL3 := hL.fr f (by decide) (by decide)
    refine p_weighs hE3.2.1 (hRu.fr f (by cases b <;> decide) (by decide)).2.1 hRu.2.2 (hT.fr f (by decide) (by decide)).1 hL3.1 hL3.2.2.2.2.1.1 hL3.2.2.2.2.1.2.2 hL3.2.2.2.2.2.1.1 (fun x y => wgt (fct (s.1 3) bk nm td yr fa x y) num kind st cd op C T ta tb tw x y) (fun _ _ => rfl) (fun t hO hl => q t hO ?_)
    rw [(f.1 3 (by decide) (by decide)).1] at hl
    intro a c ha hc hne
    by_cases hlt : a < c
    · obtain ⟨⟨l1, l2⟩, ⟨l3, l4⟩, ⟨l5, l6⟩, ⟨l7, l8⟩⟩ := hl a c hlt hc
      exact ⟨l3, l1, l5, l7⟩
    · obtain ⟨⟨l1, l2⟩, ⟨l3, l4⟩, ⟨l5, l6⟩, ⟨l7, l8⟩⟩ := hl c a (by omega) ha
      have hf := hE.symm ha hc
      have ea := hE.1.2.2 a ha
      have ec := hE.1.2.2 c hc
      simp only [wgt_symm hf]
      refine ⟨l4, l2, by rw [l6]; unfold tieF; rw [tix_symm F fx fy c a], ?_⟩
      rw [l8]
      congr 1
      exact (apaF_symm (abs_symm ea.2.2.2.2.2.2.2.2 ec.2.2.2.2.2.2.2.2)).symm
def six (x y z k : Nat) : Prop := k = x * 30 + y ∨ k = y * 30 + x ∨ k = x * 30 + z ∨ k = z * 30 + x ∨ k = y * 30 + z ∨ k = z * 30 + y
theorem six_1 {x y z k : Nat} (h : six x y z k) : six y x z k := by
  rcases h with h | h | h | h | h | h
  · exact .inr (.inl h)
  · exact .inl h
  · exact .inr (.inr (.inr (.inr (.inl h))))
  · exact .inr (.inr (.inr (.inr (.inr h))))
  · exact .inr (.inr (.inl h))
  · exact .inr (.inr (.inr (.inl h)))
theorem six_2 {x y z k : Nat} (h : six x y z k) : six x z y k := by
  rcases h with h | h | h | h | h | h
  · exact .inr (.inr (.inl h))
  · exact .inr (.inr (.inr (.inl h)))
  · exact .inl h
  · exact .inr (.inl h)
  · exact .inr (.inr (.inr (.inr (.inr h))))
  · exact .inr (.inr (.inr (.inr (.inl h))))
theorem minI_toInt (x y : Int32) : (minI x y).toInt = min x.toInt y.toInt := by
  unfold minI
  split
  · rename_i h; rw [fa_lt] at h; omega
  · rename_i h; rw [fa_lt] at h; omega
theorem perm3 {x y z a b c : Nat} (hp : (x = a ∨ x = b ∨ x = c) ∧ (y = a ∨ y = b ∨ y = c) ∧ (z = a ∨ z = b ∨ z = c) ∧ x ≠ y ∧ x ≠ z ∧ y ≠ z) {P : Nat → Nat → Nat → Prop} (h1 : ∀ x y z, P x y z → P y x z) (h2 : ∀ x y z, P x y z → P x z y) (h : P a b c) : P x y z := by
  obtain ⟨e1, e2, e3, n1, n2, n3⟩ := hp
  rcases e1 with e1 | e1 | e1 <;> rcases e2 with e2 | e2 | e2 <;> rcases e3 with e3 | e3 | e3 <;> first
    | exact absurd (e1.trans e2.symm) n1
    | exact absurd (e1.trans e3.symm) n2
    | exact absurd (e2.trans e3.symm) n3
    | (rw [e1, e2, e3]; exact h)
    | (rw [e1, e2, e3]; exact h2 _ _ _ h)
    | (rw [e1, e2, e3]; exact h1 _ _ _ h)
    | (rw [e1, e2, e3]; exact h2 _ _ _ (h1 _ _ _ h))
    | (rw [e1, e2, e3]; exact h1 _ _ _ (h2 _ _ _ h))
    | (rw [e1, e2, e3]; exact h1 _ _ _ (h2 _ _ _ (h1 _ _ _ h)))
theorem six_iff {x y z a b c i j : Nat} (hp : (x = a ∨ x = b ∨ x = c) ∧ (y = a ∨ y = b ∨ y = c) ∧ (z = a ∨ z = b ∨ z = c) ∧ x ≠ y ∧ x ≠ z ∧ y ≠ z) (hab : a < b) (hbc : b < c) (hc : c < 30) (hij : i < j) (hj : j < 30) : six x y z (i * 30 + j) ↔ ((i = a ∧ j = b) ∨ (i = a ∧ j = c) ∨ (i = b ∧ j = c)) := by
  refine perm3 hp (P := fun x y z => six x y z (i * 30 + j) ↔ ((i = a ∧ j = b) ∨ (i = a ∧ j = c) ∨ (i = b ∧ j = c))) (fun _ _ _ h => ⟨fun k => h.mp (six_1 k), fun k => six_1 (h.mpr k)⟩) (fun _ _ _ h => ⟨fun k => h.mp (six_2 k), fun k => six_2 (h.mpr k)⟩) ⟨fun k => ?_, fun k => ?_⟩
  · rcases k with k | k | k | k | k | k <;> omega
  · rcases k with ⟨rfl, rfl⟩ | ⟨rfl, rfl⟩ | ⟨rfl, rfl⟩
    · exact .inl rfl
    · exact .inr (.inr (.inl rfl))
    · exact .inr (.inr (.inr (.inr (.inl rfl))))
theorem M3_perm {u : Nat → Nat → Int32} {N : Nat} (hu : ∀ i j, i < N → j < N → i ≠ j → u i j = u j i) {x y z a b c : Nat} (hp : (x = a ∨ x = b ∨ x = c) ∧ (y = a ∨ y = b ∨ y = c) ∧ (z = a ∨ z = b ∨ z = c) ∧ x ≠ y ∧ x ≠ z ∧ y ≠ z) (hab : a < b) (hbc : b < c) (hc : c < N) : M3 u x y z = M3 u a b c := by
  refine (perm3 hp (P := fun x y z => (x < N ∧ y < N ∧ z < N ∧ x ≠ y ∧ x ≠ z ∧ y ≠ z) ∧ M3 u x y z = M3 u a b c) ?_ ?_ ⟨⟨by omega, by omega, hc, by omega, by omega, by omega⟩, rfl⟩).2
  · rintro x y z ⟨⟨h1, h2, h3, h4, h5, h6⟩, e⟩
    refine ⟨⟨by omega, by omega, by omega, by omega, by omega, by omega⟩, ?_⟩
    rw [← e]
    unfold M3
    rw [hu y x h2 h1 (Ne.symm h4), fa_eq]
    simp only [minI_toInt]
    omega
  · rintro x y z ⟨⟨h1, h2, h3, h4, h5, h6⟩, e⟩
    refine ⟨⟨by omega, by omega, by omega, by omega, by omega, by omega⟩, ?_⟩
    rw [← e]
    unfold M3
    rw [hu z y h3 h2 (Ne.symm h6), fa_eq]
    simp only [minI_toInt]
    omega
theorem ringP_perm {N : Nat} {wt : Nat → Nat → Int32} {nv ti ap : Nat → Nat → Bool} (hS : pwS N wt nv ti ap) {x y z a b c : Nat} (hp : (x = a ∨ x = b ∨ x = c) ∧ (y = a ∨ y = b ∨ y = c) ∧ (z = a ∨ z = b ∨ z = c) ∧ x ≠ y ∧ x ≠ z ∧ y ≠ z) (hab : a < b) (hbc : b < c) (hc : c < N) : ringP wt nv x y z = ringP wt nv a b c := by
  have sd : ∀ i j, i < N → j < N → i ≠ j → drP wt i j = drP wt j i ∧ rpP wt nv i j = rpP wt nv j i := fun i j hi hj hne => by
    unfold drP rpP
    rw [(hS i j hi hj hne).1, (hS i j hi hj hne).2.1]
    exact ⟨rfl, rfl⟩
  refine (perm3 hp (P := fun x y z => (x < N ∧ y < N ∧ z < N ∧ x ≠ y ∧ x ≠ z ∧ y ≠ z) ∧ ringP wt nv x y z = ringP wt nv a b c) ?_ ?_ ⟨⟨by omega, by omega, hc, by omega, by omega, by omega⟩, rfl⟩).2
  · rintro x y z ⟨⟨h1, h2, h3, h4, h5, h6⟩, e⟩
    refine ⟨⟨by omega, by omega, by omega, by omega, by omega, by omega⟩, ?_⟩
    rw [← e]
    unfold ringP
    rw [(sd y x h2 h1 (Ne.symm h4)).1, (sd y x h2 h1 (Ne.symm h4)).2]
    cases drP wt x y <;> cases drP wt x z <;> cases drP wt y z <;> cases rpP wt nv x y <;> cases rpP wt nv x z <;> cases rpP wt nv y z <;> rfl
  · rintro x y z ⟨⟨h1, h2, h3, h4, h5, h6⟩, e⟩
    refine ⟨⟨by omega, by omega, by omega, by omega, by omega, by omega⟩, ?_⟩
    rw [← e]
    unfold ringP
    rw [(sd z y h3 h2 (Ne.symm h6)).1, (sd z y h3 h2 (Ne.symm h6)).2]
    cases drP wt x y <;> cases drP wt x z <;> cases drP wt y z <;> cases rpP wt nv x y <;> cases rpP wt nv x z <;> cases rpP wt nv y z <;> rfl
theorem sort3 (x y z : Nat) (h1 : x ≠ y) (h2 : x ≠ z) (h3 : y ≠ z) {N : Nat} (hx : x < N) (hy : y < N) (hz : z < N) : ∃ a b c, a < b ∧ b < c ∧ c < N ∧ (x = a ∨ x = b ∨ x = c) ∧ (y = a ∨ y = b ∨ y = c) ∧ (z = a ∨ z = b ∨ z = c) ∧ x ≠ y ∧ x ≠ z ∧ y ≠ z := by
  rcases Nat.lt_or_gt_of_ne h1 with k1 | k1 <;> rcases Nat.lt_or_gt_of_ne h2 with k2 | k2 <;> rcases Nat.lt_or_gt_of_ne h3 with k3 | k3
  · exact ⟨x, y, z, k1, k3, hz, by simp, by simp, by simp, h1, h2, h3⟩
  · exact ⟨x, z, y, k2, k3, hy, by simp, by simp, by simp, h1, h2, h3⟩
  · omega
  · exact ⟨z, x, y, k2, k1, hy, by simp, by simp, by simp, h1, h2, h3⟩
  · exact ⟨y, x, z, k1, k2, hz, by simp, by simp, by simp, h1, h2, h3⟩
  · omega
  · exact ⟨y, z, x, k3, k2, hx, by simp, by simp, by simp, h1, h2, h3⟩
  · exact ⟨z, y, x, k3, k1, hx, by simp, by simp, by simp, h1, h2, h3⟩
