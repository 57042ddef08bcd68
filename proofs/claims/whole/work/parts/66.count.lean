/-! how many rings: the class's count -/
def cnK (P : Nat → Nat → Nat → Bool) (a b : Nat) : Nat → Nat
  | 0 => 0
  | k + 1 => cnK P a b k + (if b < k ∧ P a b k = true then 1 else 0)
def cnJ (P : Nat → Nat → Nat → Bool) (N a : Nat) : Nat → Nat
  | 0 => 0
  | j + 1 => cnJ P N a j + (if a < j then cnK P a j N else 0)
def cnI (P : Nat → Nat → Nat → Bool) (N : Nat) : Nat → Nat
  | 0 => 0
  | i + 1 => cnI P N i + cnJ P N i N
theorem cnK_0 {P : Nat → Nat → Nat → Bool} {a b : Nat} : ∀ k, k ≤ b + 1 → cnK P a b k = 0
  | 0, _ => rfl
  | k + 1, h => by rw [cnK, cnK_0 k (by omega), if_neg (by omega)]
theorem cnJ_0 {P : Nat → Nat → Nat → Bool} {N a : Nat} : ∀ j, j ≤ a + 1 → cnJ P N a j = 0
  | 0, _ => rfl
  | j + 1, h => by rw [cnJ, cnJ_0 j (by omega), if_neg (by omega)]
theorem p_howMany {b : Bool} {σ : gSt} (hR : σ.2.2 = gRf b) {N : Nat} (hN : σ.1 1 0 = nI N) (h30 : N ≤ 30) {P : Nat → Nat → Nat → Bool} (hP : ∀ x y z, x < y → y < z → z < N → ringC σ x y z = P x y z) {Q : Int32 → Prop} (q : Q (nI (cnI P N N))) : W_X8_howMany Q σ := by
  have inner : ∀ (a j v0 : Nat) (K : Int32 → Prop), a < j → j < N → K (nI (v0 + cnK P a j N)) → ∀ (m k : Nat), k + m = N → j < k → L_X8_howMany_37 Q (nI N) (nI a) (nI j) σ K (m + 1) (nI (v0 + cnK P a j k)) (nI k) := by
    intro a j v0 K haj hjN hK m
    induction m with
    | zero =>
      intro k hk hjk
      obtain rfl : k = N := by omega
      rw [L_X8_howMany_37]
      exact bq_t (nI_le (Nat.le_refl _) (by omega)) hK
    | succ m ih =>
      intro k hk hjk
      rw [L_X8_howMany_37]
      refine bq_f (nI_ge (by omega) (by omega)) ⟨_, fun o l => s_isRing hR a j k (by omega) (by omega) (by omega), ?_⟩
      rw [hP a j k haj hjk (by omega)]
      have e := ih (k + 1) (by omega) (by omega)
      rw [cnK] at e
      refine br_z (fun hf => ?_) (fun ht => ?_)
      · rw [if_neg (by rw [hf]; simp), Nat.add_zero] at e
        rw [nI_add]; exact e
      · rw [if_pos ⟨hjk, ht⟩, ← Nat.add_assoc] at e
        rw [nI_add, nI_add]; exact e
  have mid : ∀ (a v0 : Nat) (K : Int32 → Prop), a < N → K (nI (v0 + cnJ P N a N)) → ∀ (m j : Nat), j + m = N → a < j → L_X8_howMany_25 Q (nI N) (nI a) σ K (m + 1) (nI (v0 + cnJ P N a j)) (nI j) := by
    intro a v0 K haN hK m
    induction m with
    | zero =>
      intro j hj haj
      obtain rfl : j = N := by omega
      rw [L_X8_howMany_25]
      exact bq_t (nI_le (Nat.le_refl _) (by omega)) hK
    | succ m ih =>
      intro j hj haj
      rw [L_X8_howMany_25]
      refine bq_f (nI_ge (by omega) (by omega)) ⟨N - (j + 1) + 1, ?_⟩
      have e := ih (j + 1) (by omega) (by omega)
      rw [cnJ, if_pos haj, ← Nat.add_assoc] at e
      have i := inner a j (v0 + cnJ P N a j) (fun y22 => L_X8_howMany_25 Q (nI N) (nI a) σ K (m + 1) y22 (nI j + nI 1)) haj (by omega) (by rw [nI_add]; exact e) (N - (j + 1)) (j + 1) (by omega) (by omega)
      rw [cnK_0 (j + 1) (Nat.le_refl _), Nat.add_zero] at i
      rw [nI_add] at i ⊢
      exact i
  have outer : ∀ (m a : Nat), a + m = N → L_X8_howMany_15 Q (nI N) σ (fun y26 => Q y26) (m + 1) (nI (cnI P N a)) (nI a) := by
    intro m
    induction m with
    | zero =>
      intro a ha
      obtain rfl : a = N := by omega
      rw [L_X8_howMany_15]
      exact bq_t (nI_le (Nat.le_refl _) (by omega)) q
    | succ m ih =>
      intro a ha
      rw [L_X8_howMany_15]
      refine bq_f (nI_ge (by omega) (by omega)) ⟨N - (a + 1) + 1, ?_⟩
      have e := ih (a + 1) (by omega)
      rw [cnI] at e
      have i := mid a (cnI P N a) (fun y24 => L_X8_howMany_15 Q (nI N) σ (fun y26 => Q y26) (m + 1) y24 (nI a + nI 1)) (by omega) (by rw [nI_add]; exact e) (N - (a + 1)) (a + 1) (by omega) (by omega)
      rw [cnJ_0 (a + 1) (Nat.le_refl _), Nat.add_zero] at i
      rw [nI_add] at i ⊢
      exact i
  unfold W_X8_howMany
  rw [hN]
  exact ⟨N + 1, outer N 0 (by omega)⟩
