/-! the words of a text, and the class's table of them -/
def isLb (x : Nat) : Bool := decide (97 ≤ x) && decide (x ≤ 122)
def isDb (x : Nat) : Bool := decide (48 ≤ x) && decide (x ≤ 57)
/-- how far it runs -/
def runE (P : Nat → Bool) (B : Nat → Nat) (n : Nat) : Nat → Nat → Nat
  | 0, j => j
  | m + 1, j => if j < n ∧ P (B j) = true then runE P B n m (j + 1) else j
theorem runE_ge {P : Nat → Bool} {B : Nat → Nat} {n : Nat} : ∀ (m j : Nat), j ≤ runE P B n m j
  | 0, j => Nat.le_refl _
  | m + 1, j => by
    rw [runE]
    split
    · have := runE_ge (P := P) (B := B) (n := n) m (j + 1); omega
    · exact Nat.le_refl _
theorem runE_le {P : Nat → Bool} {B : Nat → Nat} {n : Nat} : ∀ (m j : Nat), j ≤ n → runE P B n m j ≤ n
  | 0, j, h => h
  | m + 1, j, h => by
    rw [runE]
    split
    · rename_i h2; exact runE_le m (j + 1) (by omega)
    · exact h
theorem runE_in {P : Nat → Bool} {B : Nat → Nat} {n : Nat} : ∀ (m j k : Nat), j ≤ k → k < runE P B n m j → P (B k) = true
  | 0, j, k, h1, h2 => by rw [runE] at h2; omega
  | m + 1, j, k, h1, h2 => by
    rw [runE] at h2
    split at h2
    · rename_i h
      by_cases z : k = j
      · rw [z]; exact h.2
      · exact runE_in m (j + 1) k (by omega) h2
    · omega
theorem runE_at {P : Nat → Bool} {B : Nat → Nat} {n : Nat} : ∀ (m j : Nat), n ≤ j + m → runE P B n m j < n → P (B (runE P B n m j)) = false
  | 0, j, h1, h2 => by rw [runE] at h2; omega
  | m + 1, j, h1, h2 => by
    rw [runE] at h2 ⊢
    split at h2
    · rename_i h
      rw [if_pos h]
      exact runE_at m (j + 1) (by omega) h2
    · rename_i h
      rw [if_neg h]
      exact ts_nt (fun w => h ⟨h2, w⟩)
/-- the end of the word that begins at i -/
def tokE (B : Nat → Nat) (n i : Nat) : Nat := if isLb (B i) then runE isLb B n (n - (i + 1)) (i + 1) else if isDb (B i) then runE isDb B n (n - (i + 1)) (i + 1) else i + 1
theorem tokE_ok {B : Nat → Nat} {n i : Nat} (h : i < n) : i < tokE B n i ∧ tokE B n i ≤ n := by
  unfold tokE
  split
  · exact ⟨by have := runE_ge (P := isLb) (B := B) (n := n) (n - (i + 1)) (i + 1); omega, runE_le _ _ (by omega)⟩
  · split
    · exact ⟨by have := runE_ge (P := isDb) (B := B) (n := n) (n - (i + 1)) (i + 1); omega, runE_le _ _ (by omega)⟩
    · omega
/-- over the blanks -/
def nxt (B : Nat → Nat) (n i : Nat) : Nat := runE (fun x => decide (x = 32)) B n (n - i) i
theorem nxt_blank {B : Nat → Nat} {n i : Nat} (h : i < n) (hb : B i = 32) : nxt B n i = nxt B n (i + 1) := by
  unfold nxt
  rw [show n - i = (n - (i + 1)) + 1 by omega, runE, if_pos ⟨h, decide_eq_true hb⟩]
theorem nxt_here {B : Nat → Nat} {n i : Nat} (hb : i < n → B i ≠ 32) : nxt B n i = i := by
  unfold nxt
  cases e : n - i with
  | zero => rfl
  | succ m => rw [runE, if_neg (fun w => hb w.1 (of_decide_eq_true w.2))]
/-- the number from i to e, known no further than to be too large -/
def nmV (B : Nat → Nat) (e : Nat) : Nat → Nat → Nat → Nat
  | 0, _, v => v
  | m + 1, i, v => if i < e ∧ v ≤ 9999 then nmV B e m (i + 1) (v * 10 + B i - 48) else v
def tokV (B : Nat → Nat) (n i : Nat) : Nat := if isDb (B i) then nmV B (tokE B n i) (tokE B n i - i) i 0 else 0
def tokS (ws : Nat → Nat → Int32) (B : Nat → Nat) (n i : Nat) : Int32 := if isLb (B i) then ws i (tokE B n i) else if isDb (B i) then -17 else nI (B i)
def plc (B : Nat → Nat) (n : Nat) : Nat → Nat
  | 0 => nxt B n 0
  | c + 1 => nxt B n (if plc B n c < n then tokE B n (plc B n c) else n)
def sgn (ws : Nat → Nat → Int32) (B : Nat → Nat) (n c : Nat) : Int32 := if plc B n c < n then tokS ws B n (plc B n c) else -18
theorem p_isLetter {σ : gSt} {x : Nat} (hx : x < 256) {Q : Int32 → Prop} (q : Q (zI (isLb x))) : W_X7_isLetter (nI x) Q σ := by
  unfold W_X7_isLetter
  unfold isLb at q
  refine br_lt (by omega) (by omega) (fun h => ?_) (fun h => br_lt (by omega) (by omega) (fun h2 => ?_) (fun h2 => ?_))
  · rw [decide_eq_false (show ¬ 97 ≤ x by omega), Bool.false_and] at q; exact q
  · rw [decide_eq_false (show ¬ x ≤ 122 by omega), Bool.and_false] at q; exact q
  · rw [decide_eq_true (show 97 ≤ x by omega), decide_eq_true (show x ≤ 122 by omega)] at q; exact q
theorem p_isDigitC {σ : gSt} {x : Nat} (hx : x < 256) {Q : Int32 → Prop} (q : Q (zI (isDb x))) : W_X7_isDigit (nI x) Q σ := by
  unfold W_X7_isDigit
  unfold isDb at q
  refine br_lt (by omega) (by omega) (fun h => ?_) (fun h => br_lt (by omega) (by omega) (fun h2 => ?_) (fun h2 => ?_))
  · rw [decide_eq_false (show ¬ 48 ≤ x by omega), Bool.false_and] at q; exact q
  · rw [decide_eq_false (show ¬ x ≤ 57 by omega), Bool.and_false] at q; exact q
  · rw [decide_eq_true (show 48 ≤ x by omega), decide_eq_true (show x ≤ 57 by omega)] at q; exact q
/-- the class holds the bytes -/
def bytC (σ : gSt) (B : Nat → Nat) (n : Nat) : Prop := n ≤ 400 ∧ ∀ i, i < n → σ.1 12 i = nI (B i) ∧ B i < 256
/-- two bytes of one word -/
def gO (x y : Nat) : Bool := isLb x && isLb y || isDb x && isDb y
theorem isLb_nd {x : Nat} (h : isLb x = true) : isDb x = false := by
  unfold isLb at h
  unfold isDb
  rw [Bool.and_eq_true, decide_eq_true_iff, decide_eq_true_iff] at h
  rw [decide_eq_false (show ¬ x ≤ 57 by omega), Bool.and_false]
theorem isDb_nl {x : Nat} (h : isDb x = true) : isLb x = false := by
  unfold isDb at h
  unfold isLb
  rw [Bool.and_eq_true, decide_eq_true_iff, decide_eq_true_iff] at h
  rw [decide_eq_false (show ¬ 97 ≤ x by omega), Bool.false_and]
theorem gO_no {x y : Nat} (h1 : isLb x = false ∨ isLb y = false) (h2 : isDb x = false ∨ isDb y = false) : gO x y = false := by
  unfold gO
  rcases h1 with h1 | h1 <;> rcases h2 with h2 | h2 <;> simp [h1, h2]
theorem tokE_in {B : Nat → Nat} {n i k : Nat} (h1 : i < k) (h2 : k < tokE B n i) : gO (B (k - 1)) (B k) = true := by
  unfold tokE at h2
  unfold gO
  by_cases l : isLb (B i) = true
  · rw [if_pos l] at h2
    have e1 := runE_in _ _ k (by omega) h2
    have e2 : isLb (B (k - 1)) = true := by
      by_cases z : k - 1 = i
      · rw [z]; exact l
      · exact runE_in _ _ (k - 1) (by omega) (Nat.lt_of_le_of_lt (Nat.sub_le _ _) h2)
    rw [e1, e2]; rfl
  · rw [if_neg l] at h2
    by_cases d : isDb (B i) = true
    · rw [if_pos d] at h2
      have e1 := runE_in _ _ k (by omega) h2
      have e2 : isDb (B (k - 1)) = true := by
        by_cases z : k - 1 = i
        · rw [z]; exact d
        · exact runE_in _ _ (k - 1) (by omega) (Nat.lt_of_le_of_lt (Nat.sub_le _ _) h2)
      rw [e1, e2, Bool.and_true, Bool.or_true]
    · rw [if_neg d] at h2
      omega
theorem tokE_end {B : Nat → Nat} {n i : Nat} (h : i < n) (he : tokE B n i < n) : gO (B (tokE B n i - 1)) (B (tokE B n i)) = false := by
  by_cases l : isLb (B i) = true
  · have ht : tokE B n i = runE isLb B n (n - (i + 1)) (i + 1) := by unfold tokE; rw [if_pos l]
    rw [ht] at he ⊢
    have e1 := runE_at _ _ (by omega) he
    have ge := runE_ge (P := isLb) (B := B) (n := n) (n - (i + 1)) (i + 1)
    have e2 : isLb (B (runE isLb B n (n - (i + 1)) (i + 1) - 1)) = true := by
      by_cases z : runE isLb B n (n - (i + 1)) (i + 1) - 1 = i
      · rw [z]; exact l
      · exact runE_in (n := n) (n - (i + 1)) (i + 1) (runE isLb B n (n - (i + 1)) (i + 1) - 1) (by omega) (by omega)
    exact gO_no (.inr e1) (.inl (isLb_nd e2))
  · by_cases d : isDb (B i) = true
    · have ht : tokE B n i = runE isDb B n (n - (i + 1)) (i + 1) := by unfold tokE; rw [if_neg l, if_pos d]
      rw [ht] at he ⊢
      have e1 := runE_at _ _ (by omega) he
      have ge := runE_ge (P := isDb) (B := B) (n := n) (n - (i + 1)) (i + 1)
      have e2 : isDb (B (runE isDb B n (n - (i + 1)) (i + 1) - 1)) = true := by
        by_cases z : runE isDb B n (n - (i + 1)) (i + 1) - 1 = i
        · rw [z]; exact d
        · exact runE_in (n := n) (n - (i + 1)) (i + 1) (runE isDb B n (n - (i + 1)) (i + 1) - 1) (by omega) (by omega)
      exact gO_no (.inl (isDb_nl e2)) (.inr e1)
    · have ht : tokE B n i = i + 1 := by unfold tokE; rw [if_neg l, if_neg d]
      rw [ht, Nat.add_sub_cancel]
      exact gO_no (.inl (ts_nt l)) (.inl (ts_nt d))
theorem p_goesOn {σ : gSt} {x y : Nat} (hx : x < 256) (hy : y < 256) {Q : Int32 → Prop} (q : Q (zI (gO x y))) : W_X7_goesOn (nI x) (nI y) Q σ := by
  unfold W_X7_goesOn
  unfold gO at q
  refine p_isLetter hx (fun J hJ => ?_)
  have key : (isLb x && isLb y) = false → J := fun h => hJ (p_isDigitC hx (br_z (fun z => by rw [h, z] at q; exact q) (fun z => p_isDigitC hy (br_z (fun z2 => by rw [h, z, z2] at q; exact q) (fun z2 => by rw [h, z, z2] at q; exact q)))))
  exact br_z (fun z => key (by rw [z]; rfl)) (fun z => p_isLetter hy (br_z (fun z2 => key (by rw [z, z2]; rfl)) (fun z2 => by rw [z, z2] at q; exact q)))
theorem p_numberAt {σ : gSt} {B : Nat → Nat} {n i e : Nat} (hB : bytC σ B n) (he : e ≤ n) (hie : i ≤ e) (hd : ∀ k, i ≤ k → k < e → isDb (B k) = true) (hend : e < n → isDb (B e) = false) {Q : Int32 → Prop} (q : Q (nI (nmV B e (e - i) i 0))) : W_X7_numberAt (nI i) (nI n) Q σ := by
  obtain ⟨h4, hb⟩ := hB
  have loop : ∀ (m j v : Nat), j + m = e → i ≤ j → v ≤ 99999 → Q (nI (nmV B e m j v)) → L_X7_numberAt_5 Q (nI n) σ (fun y9 => Q y9) (m + 1) (nI v) (nI j) := by
    intro m
    induction m with
    | zero =>
      intro j v hj hij hv q
      obtain rfl : j = e := by omega
      rw [L_X7_numberAt_5]
      by_cases hn : j < n
      · obtain ⟨b1, b2⟩ := hb j hn
        refine bq_f (nI_ge hn (by omega)) (rI_i (by omega) ?_)
        rw [b1]
        exact p_isDigitC b2 (br_z (fun _ => q) (fun z => by rw [hend hn] at z; cases z))
      · exact bq_t (nI_le (by omega) (by omega)) q
    | succ m ih =>
      intro j v hj hij hv q
      rw [L_X7_numberAt_5]
      obtain ⟨b1, b2⟩ := hb j (by omega)
      have hdj := hd j hij (by omega)
      have hdk := hdj
      unfold isDb at hdj
      rw [Bool.and_eq_true, decide_eq_true_iff, decide_eq_true_iff] at hdj
      rw [nmV] at q
      refine bq_f (nI_ge (by omega) (by omega)) (rI_i (by omega) ?_)
      rw [b1]
      refine p_isDigitC b2 (br_z (fun z => by rw [hdk] at z; cases z) (fun _ => br_lt (by omega) (by omega) (fun z => ?_) (fun z => rI_i (by omega) ?_)))
      · rw [if_neg (by omega)] at q; exact q
      · rw [if_pos (by omega)] at q
        rw [b1, nI_add, nI_mul, nI_add, nI_sub (by omega)]
        exact ih (j + 1) _ (by omega) (by omega) (by omega) q
  unfold W_X7_numberAt
  exact ⟨e - i + 1, loop (e - i) i 0 (by omega) (by omega) (by omega) q⟩
