/-! the reference's rests -/
theorem pwM.off {s t : gSt} {N : Nat} {wt : Nat → Nat → Int32} {nv ti ap : Nat → Nat → Bool} {ks : List Nat} (h : pwM s N wt nv ti ap) (hO : Off ks s t) (hk : ∀ k ∈ [90, 91, 92, 93], k ∉ ks) : pwM t N wt nv ti ap := by
  unfold pwM at h ⊢
  rw [(hO.1 90 (hk _ (by simp))).1, (hO.1 91 (hk _ (by simp))).1, (hO.1 92 (hk _ (by simp))).1, (hO.1 93 (hk _ (by simp))).1]
  exact h
theorem p_setRests {k0 : Nat} {s0 : gSt} {N : Nat} {wt : Nat → Nat → Int32} {nv ti ap : Nat → Nat → Bool} (hN : s0.1 65 1 = nI N) (hM : pwM s0 N wt nv ti ap) (h30 : N ≤ 30) (hlay : lay k0 = (0, 900)) (hk : k0 = 100 ∨ k0 = 101) {Q : gSt → Prop} (q : ∀ t, Off [k0] s0 t → (∀ x y, x < y → y < N → t.1 k0 (30 * x + y) = rst wt nv x y) → Q t) : W_X12_setRests k0 Q s0 := by
  have hks : ∀ k ∈ [90, 91, 92, 93], k ∉ [k0] := by simp; omega
  have h65 : ∀ s, Off [k0] s0 s → s.1 65 1 = nI N := fun s hO => by rw [(hO.1 65 (by simp; omega)).1]; exact hN
  have inner : ∀ (m b a : Nat) (s : gSt) (K : gSt → Prop), b + m = N → a < b → Off [k0] s0 s → (∀ x y, x < y → y < N → (x < a ∨ (x = a ∧ y < b)) → s.1 k0 (30 * x + y) = rst wt nv x y) → (∀ s1, Off [k0] s0 s1 → (∀ x y, x < y → y < N → x < a + 1 → s1.1 k0 (30 * x + y) = rst wt nv x y) → K s1) → L_X12_setRests_14 k0 Q (nI a) K (m + 1) (nI b) s := by
    intro m
    induction m with
    | zero =>
      intro b a s K hb hab hO hl hK
      obtain rfl : b = N := by omega
      rw [L_X12_setRests_14, h65 s hO]
      exact bq_t (nI_le (Nat.le_refl _) (by omega)) (hK s hO (fun x y h1 h2 h3 => hl x y h1 h2 (by omega)))
    | succ m ih =>
      intro b a s K hb hab hO hl hK
      have hMs := hM.off hO hks
      obtain ⟨w1, w2, w3, w4⟩ := hMs a b (by omega) (by omega) (by omega)
      rw [L_X12_setRests_14, h65 s hO]
      refine bq_f (nI_ge (by omega) (by omega)) (rI_e (ix30 a b) (by omega) ?_)
      rw [w2]
      intro J hJ
      have go : J (rst wt nv a b) := by
        refine hJ _ (wI_e (ix30 a b) (by rw [hlay]; show 30 * a + b < 900; omega) ?_)
        rw [nI_add]
        refine ih (b + 1) a _ K (by omega) (by omega) (hO.i (by simp)) (fun x y h1 h2 h3 => ?_) hK
        rw [sI_get]
        by_cases e : x = a ∧ y = b
        · rw [if_pos ⟨rfl, by rw [e.1, e.2]⟩, e.1, e.2]
        · rw [if_neg (by omega)]
          exact hl x y h1 h2 (by omega)
      refine br_z (fun e => rI_e (ix30 a b) (by omega) ?_) (fun e => ?_)
      · rw [w1]
        refine p_off ?_
        rw [rst, e] at go
        exact go
      · rw [rst, e] at go
        exact go
  have outer : ∀ (m a : Nat) (s : gSt), a + m = N → Off [k0] s0 s → (∀ x y, x < y → y < N → x < a → s.1 k0 (30 * x + y) = rst wt nv x y) → L_X12_setRests_2 k0 Q (fun s20 => Q s20) (m + 1) (nI a) s := by
    intro m
    induction m with
    | zero =>
      intro a s ha hO hl
      obtain rfl : a = N := by omega
      rw [L_X12_setRests_2, h65 s hO]
      exact bq_t (nI_le (Nat.le_refl _) (by omega)) (q s hO (fun x y h1 h2 => hl x y h1 h2 (by omega)))
    | succ m ih =>
      intro a s ha hO hl
      rw [L_X12_setRests_2, h65 s hO]
      refine bq_f (nI_ge (by omega) (by omega)) ⟨m + 1, ?_⟩
      rw [nI_add]
      refine inner m (a + 1) a s _ (by omega) (by omega) hO (fun x y h1 h2 h3 => hl x y h1 h2 (by omega)) (fun s1 hO1 hl1 => ?_)
      exact ih (a + 1) s1 (by omega) hO1 hl1
  exact ⟨N + 1, outer N 0 s0 (by omega) Off.rf (fun x y _ _ h => absurd h (Nat.not_lt_zero _))⟩
theorem min3 (x y z : Int32) : (if z ≤ (if y ≤ x then y else x) then z else (if y ≤ x then y else x)) = minI x (minI y z) := by
  unfold minI
  rw [fa_eq]
  by_cases h1 : y ≤ x <;> by_cases h2 : z < y <;> by_cases h3 : z ≤ x <;> simp only [h1, h2, if_true, if_false] <;> (repeat' split) <;> simp only [Int32.le_iff_toInt_le, Int32.lt_iff_toInt_lt] at * <;> omega
theorem p_leastRest {k0 : Nat} {s : gSt} (hlay : lay k0 = (0, 900)) {a b c : Nat} (ha : a < 30) (hb : b < 30) (hc : c < 30) {Q : Int32 → Prop} (q : Q (minI (s.1 k0 (30 * a + b)) (minI (s.1 k0 (30 * a + c)) (s.1 k0 (30 * b + c))))) : W_X12_leastRest k0 (nI a) (nI b) (nI c) Q s := by
  rw [← min3] at q
  have l1 : 30 * a + b < (lay k0).2 := by rw [hlay]; show 30 * a + b < 900; omega
  have l2 : 30 * a + c < (lay k0).2 := by rw [hlay]; show 30 * a + c < 900; omega
  have l3 : 30 * b + c < (lay k0).2 := by rw [hlay]; show 30 * b + c < 900; omega
  unfold W_X12_leastRest
  refine rI_e (ix30 a b) l1 (rI_e (ix30 a c) l2 ?_)
  intro J hJ
  have go : ∀ x3, x3 = (if s.1 k0 (30 * a + c) ≤ s.1 k0 (30 * a + b) then s.1 k0 (30 * a + c) else s.1 k0 (30 * a + b)) → J x3 := by
    rintro x3 rfl
    refine hJ _ (rI_e (ix30 b c) l3 ⟨fun h => rI_e (ix30 b c) l3 ?_, fun h => ?_⟩)
    · rw [if_pos h] at q; exact q
    · rw [if_neg h] at q; exact q
  exact ⟨fun h => rI_e (ix30 a c) l2 (go _ (if_pos h).symm), fun h => rI_e (ix30 a b) l1 (go _ (if_neg h).symm)⟩
theorem p_takesRest {k0 : Nat} {s : gSt} (hlay : lay k0 = (0, 900)) {a b c : Nat} (ha : a < 30) (hb : b < 30) (hc : c < 30) (h1 : a < b) (h2 : b < c) {v : Int32} {Q : gSt → Prop} (q : ∀ t, Off [k0] s t → (∀ x y, x < y → y < 30 → t.1 k0 (30 * x + y) = if (x = a ∧ y = b) ∨ (x = a ∧ y = c) ∨ (x = b ∧ y = c) then s.1 k0 (30 * x + y) - v else s.1 k0 (30 * x + y)) → Q t) : W_X12_takesRest k0 (nI a) (nI b) (nI c) v Q s := by
  have l1 : 30 * a + b < (lay k0).2 := by rw [hlay]; show 30 * a + b < 900; omega
  have l2 : 30 * a + c < (lay k0).2 := by rw [hlay]; show 30 * a + c < 900; omega
  have l3 : 30 * b + c < (lay k0).2 := by rw [hlay]; show 30 * b + c < 900; omega
  unfold W_X12_takesRest
  refine rI_e (ix30 a b) l1 (wI_e (ix30 a b) l1 (rI_e (ix30 a c) l2 (wI_e (ix30 a c) l2 (rI_e (ix30 b c) l3 (wI_e (ix30 b c) l3 (q _ (((Off.rf.i (by simp)).i (by simp)).i (by simp)) (fun x y hxy hy => ?_)))))))
  have ent : ∀ (s : gSt) (j i : Nat) (v : Int32), (sI s k0 j v).1 k0 i = if i = j then v else s.1 k0 i := fun s j i v => by rw [sI_get]; simp
  by_cases e3 : x = b ∧ y = c
  · rw [if_pos (Or.inr (Or.inr e3)), e3.1, e3.2]
    have n1 : (30 * b + c = 30 * a + b) = False := by simp; omega
    have n2 : (30 * b + c = 30 * a + c) = False := by simp; omega
    simp only [ent, n1, n2, if_true, if_false]
  · by_cases e2 : x = a ∧ y = c
    · rw [if_pos (Or.inr (Or.inl e2)), e2.1, e2.2]
      have n1 : (30 * a + c = 30 * a + b) = False := by simp; omega
      have n2 : (30 * a + c = 30 * b + c) = False := by simp; omega
      simp only [ent, n1, n2, if_true, if_false]
    · by_cases e1 : x = a ∧ y = b
      · rw [if_pos (Or.inl e1), e1.1, e1.2]
        have n1 : (30 * a + b = 30 * a + c) = False := by simp; omega
        have n2 : (30 * a + b = 30 * b + c) = False := by simp; omega
        simp only [ent, n1, n2, if_true, if_false]
      · rw [if_neg (by omega)]
        have n1 : (30 * x + y = 30 * a + b) = False := by simp; omega
        have n2 : (30 * x + y = 30 * a + c) = False := by simp; omega
        have n3 : (30 * x + y = 30 * b + c) = False := by simp; omega
        simp only [ent, n1, n2, n3, if_false]
