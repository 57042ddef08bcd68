/-! THE RULES' VALUES: a stack machine over an array, in the reference's numbers of steps; its types -/
def binM (op : Nat) (a b : Int32) : Int32 := match op with
  | 7 => a + b
  | 8 => a - b
  | 9 => a * b
  | 10 => if b = 0 then nI 0 else a / b
  | 11 => if a < b then a else b
  | 12 => if b < a then a else b
  | 13 => zI (decide (a < b))
  | 14 => zI (decide (b < a))
  | 15 => zI (decide (a = b))
  | 16 => a ||| b
  | _ => a &&& b
def ex1 (F num : Nat → Int32) (op : Nat → Nat) (i : Nat) (s : (Nat → Int32) × Nat) : (Nat → Int32) × Nat :=
  if op i ≤ 6 then (upd s.1 s.2 (if op i = 0 then num i else F (op i)), s.2 + 1)
  else if op i = 18 then (upd s.1 (s.2 - 1) (nI 1 - s.1 (s.2 - 1)), s.2)
  else (upd s.1 (s.2 - 2) (binM (op i) (s.1 (s.2 - 2)) (s.1 (s.2 - 1))), s.2 - 1)
def exN (F num : Nat → Int32) (op : Nat → Nat) : Nat → Nat → (Nat → Int32) × Nat → (Nat → Int32) × Nat
  | 0, _, s => s
  | n + 1, i, s => exN F num op n (i + 1) (ex1 F num op i s)
/-- a step's types: true is a number that is 0 or 1, the top first; at most 60 stand at once -/
def ty1 (op : Nat) (t : List Bool) : Option (List Bool) :=
  if op ≤ 6 then (if t.length < 60 then some (false :: t) else none)
  else if op = 18 then (match t with | true :: r => some (true :: r) | _ => none)
  else if op ≤ 12 then (match t with | false :: false :: r => some (false :: r) | _ => none)
  else if op ≤ 15 then (match t with | false :: false :: r => some (true :: r) | _ => none)
  else if op ≤ 17 then (match t with | true :: true :: r => some (true :: r) | _ => none)
  else none
def tyN (op : Nat → Nat) : Nat → Nat → List Bool → Option (List Bool)
  | 0, _, t => some t
  | n + 1, i, t => (ty1 (op i) t).bind (tyN op n (i + 1))
/-- the array holds what the types say -/
def fitT (s : (Nat → Int32) × Nat) (t : List Bool) : Prop := s.2 = t.length ∧ ∀ j, j < t.length → t[j]? = some true → s.1 (t.length - 1 - j) = 0 ∨ s.1 (t.length - 1 - j) = 1
theorem ty1_le {op : Nat} {t r : List Bool} (h : ty1 op t = some r) : op ≤ 18 := by
  unfold ty1 at h
  split at h
  · omega
  · split at h
    · omega
    · split at h
      · omega
      · split at h
        · omega
        · split at h
          · omega
          · cases h
theorem ty1_cases {op : Nat} {t r : List Bool} (h : ty1 op t = some r) : (op ≤ 6 ∧ t.length < 60 ∧ r = false :: t) ∨ (op = 18 ∧ ∃ q, t = true :: q ∧ r = true :: q) ∨ (7 ≤ op ∧ op ≤ 12 ∧ ∃ q, t = false :: false :: q ∧ r = false :: q) ∨ (13 ≤ op ∧ op ≤ 15 ∧ ∃ q, t = false :: false :: q ∧ r = true :: q) ∨ (16 ≤ op ∧ op ≤ 17 ∧ ∃ q, t = true :: true :: q ∧ r = true :: q) := by
  unfold ty1 at h
  split at h
  · split at h
    · cases h; exact Or.inl ⟨‹_›, ‹_›, rfl⟩
    · cases h
  · split at h
    · split at h
      · cases h; exact Or.inr (Or.inl ⟨‹_›, _, rfl, rfl⟩)
      · cases h
    · split at h
      · split at h
        · cases h; exact Or.inr (Or.inr (Or.inl ⟨by omega, by omega, _, rfl, rfl⟩))
        · cases h
      · split at h
        · split at h
          · cases h; exact Or.inr (Or.inr (Or.inr (Or.inl ⟨by omega, by omega, _, rfl, rfl⟩)))
          · cases h
        · split at h
          · split at h
            · cases h; exact Or.inr (Or.inr (Or.inr (Or.inr ⟨by omega, by omega, _, rfl, rfl⟩)))
            · cases h
          · cases h
theorem ex1_fit {F num : Nat → Int32} {op : Nat → Nat} {i : Nat} {s : (Nat → Int32) × Nat} {t r : List Bool} (h : ty1 (op i) t = some r) (hs : fitT s t) : fitT (ex1 F num op i s) r := by
  obtain ⟨f, n⟩ := s
  obtain ⟨h1, h2⟩ := hs
  dsimp only at h1 h2
  have key : ∀ (q : List Bool) (v : Int32) (b : Bool), (∀ j, j < q.length → q[j]? = some true → f (q.length - 1 - j) = 0 ∨ f (q.length - 1 - j) = 1) → (b = true → v = 0 ∨ v = 1) → fitT (upd f q.length v, q.length + 1) (b :: q) := by
    intro q v b hq hb
    refine ⟨rfl, fun j hj hjt => ?_⟩
    cases j with
    | zero =>
      simp only [List.getElem?_cons_zero, Option.some.injEq] at hjt
      have e : (b :: q).length - 1 - 0 = q.length := by simp
      rw [e]
      simpa [upd] using hb hjt
    | succ j =>
      rw [List.getElem?_cons_succ] at hjt
      have hj2 : j < q.length := by simpa using hj
      have e : (b :: q).length - 1 - (j + 1) = q.length - 1 - j := by simp; omega
      have e2 : ¬ q.length - 1 - j = q.length := by omega
      rw [e]
      simpa [upd, e2] using hq j hj2 hjt
  have tail1 : ∀ (a : Bool) (q : List Bool), t = a :: q → ∀ j, j < q.length → q[j]? = some true → f (q.length - 1 - j) = 0 ∨ f (q.length - 1 - j) = 1 := by
    intro a q e j hj hjt
    subst e
    have := h2 (j + 1) (by simp; omega) (by simpa using hjt)
    have e : (a :: q).length - 1 - (j + 1) = q.length - 1 - j := by simp; omega
    rwa [e] at this
  have tail2 : ∀ (a b : Bool) (q : List Bool), t = a :: b :: q → ∀ j, j < q.length → q[j]? = some true → f (q.length - 1 - j) = 0 ∨ f (q.length - 1 - j) = 1 := by
    intro a b q e j hj hjt
    subst e
    have := h2 (j + 2) (by simp; omega) (by simpa using hjt)
    have e : (a :: b :: q).length - 1 - (j + 2) = q.length - 1 - j := by simp; omega
    rwa [e] at this
  rcases ty1_cases h with ⟨c1, c2, rfl⟩ | ⟨c1, q, rfl, rfl⟩ | ⟨c1, c2, q, rfl, rfl⟩ | ⟨c1, c2, q, rfl, rfl⟩ | ⟨c1, c2, q, rfl, rfl⟩
  · simp only [ex1, c1, if_true]
    subst h1
    exact key t _ false h2 (fun q => by cases q)
  · have e1 : ¬ (18 : Nat) ≤ 6 := by decide
    simp only [ex1, c1, e1, if_false, if_true]
    have hn : n - 1 = q.length := by simp at h1; omega
    have hv := h2 0 (by simp) rfl
    have e : (true :: q).length - 1 - 0 = q.length := by simp
    rw [e] at hv
    rw [hn]
    have : n = q.length + 1 := by simpa using h1
    rw [this]
    exact key q _ true (tail1 _ q rfl) (fun _ => by rcases hv with hv | hv <;> rw [hv] <;> first | exact Or.inr rfl | exact Or.inl rfl)
  all_goals
    have e1 : ¬ op i ≤ 6 := by omega
    have e2 : ¬ op i = 18 := by omega
    simp only [ex1, e1, e2, if_false]
    have hn : n - 2 = q.length := by simp at h1; omega
    have hn1 : n - 1 = q.length + 1 := by simp at h1; omega
    rw [hn, hn1]
  · exact key q _ false (tail2 _ _ q rfl) (fun q => by cases q)
  · refine key q _ true (tail2 _ _ q rfl) (fun _ => ?_)
    have : op i = 13 ∨ op i = 14 ∨ op i = 15 := by omega
    rcases this with e | e | e <;> rw [e] <;> exact zI_01 _
  · refine key q _ true (tail2 _ _ q rfl) (fun _ => ?_)
    have v0 := h2 0 (by simp) rfl
    have v1 := h2 1 (by simp) rfl
    have e3 : (true :: true :: q).length - 1 - 0 = q.length + 1 := by simp
    have e4 : (true :: true :: q).length - 1 - 1 = q.length := by simp
    rw [e3] at v0
    rw [e4] at v1
    have : op i = 16 ∨ op i = 17 := by omega
    rcases this with e | e <;> rw [e] <;> rcases v0 with v0 | v0 <;> rcases v1 with v1 | v1 <;> rw [v0, v1] <;> first | exact Or.inl rfl | exact Or.inr rfl
/-- what lies above the top doesn't matter -/
theorem ex1_agree {F num : Nat → Int32} {op : Nat → Nat} {i : Nat} {f g : Nat → Int32} {t r : List Bool} (h : ty1 (op i) t = some r) (hfg : ∀ j, j < t.length → f j = g j) : (ex1 F num op i (f, t.length)).2 = r.length ∧ (ex1 F num op i (g, t.length)).2 = r.length ∧ ∀ j, j < r.length → (ex1 F num op i (f, t.length)).1 j = (ex1 F num op i (g, t.length)).1 j := by
  rcases ty1_cases h with ⟨c1, c2, rfl⟩ | ⟨c1, q, rfl, rfl⟩ | ⟨c1, c2, q, rfl, rfl⟩ | ⟨c1, c2, q, rfl, rfl⟩ | ⟨c1, c2, q, rfl, rfl⟩
  · simp only [ex1, c1, if_true]
    refine ⟨rfl, rfl, fun j hj => ?_⟩
    by_cases e : j = t.length
    · simp [upd, e]
    · simp only [upd, e, if_false]
      exact hfg j (by simp at hj; omega)
  · have e1 : ¬ (18 : Nat) ≤ 6 := by decide
    simp only [ex1, c1, e1, if_false, if_true]
    refine ⟨by simp, by simp, fun j hj => ?_⟩
    have e0 := hfg q.length (by simp)
    by_cases e : j = (true :: q).length - 1
    · simp [upd, e, e0]
    · simp only [upd, e, if_false]
      exact hfg j hj
  all_goals
    have e1 : ¬ op i ≤ 6 := by omega
    have e2 : ¬ op i = 18 := by omega
    simp only [ex1, e1, e2, if_false]
    refine ⟨by simp, by simp, fun j hj => ?_⟩
    have e0 := hfg q.length (by simp; omega)
    have e3 := hfg (q.length + 1) (by simp)
    by_cases e : j = q.length
    · simp [upd, e, e0, e3]
    · simp only [List.length_cons, Nat.add_sub_cancel, upd]
      simp only [List.length_cons] at hj
      have : j < q.length := by omega
      simp [e, hfg j (by simp; omega)]
theorem exN_agree {F num : Nat → Int32} {op : Nat → Nat} : ∀ (n i : Nat) {f g : Nat → Int32} {t r : List Bool}, tyN op n i t = some r → (∀ j, j < t.length → f j = g j) → ∀ j, j < r.length → (exN F num op n i (f, t.length)).1 j = (exN F num op n i (g, t.length)).1 j
  | 0, i, f, g, t, r, h, hfg => by
    cases h
    exact hfg
  | n + 1, i, f, g, t, r, h, hfg => by
    rw [tyN] at h
    cases h1 : ty1 (op i) t with
    | none => rw [h1] at h; cases h
    | some u =>
      rw [h1] at h
      obtain ⟨a1, a2, a3⟩ := ex1_agree (F := F) (num := num) h1 hfg
      have := exN_agree (F := F) (num := num) n (i + 1) (f := (ex1 F num op i (f, t.length)).1) (g := (ex1 F num op i (g, t.length)).1) h a3
      intro j hj
      have := this j hj
      rw [exN, exN]
      rw [show ex1 F num op i (f, t.length) = ((ex1 F num op i (f, t.length)).1, u.length) from by rw [← a1], show ex1 F num op i (g, t.length) = ((ex1 F num op i (g, t.length)).1, u.length) from by rw [← a2]]
      exact this
theorem exN_fit {F num : Nat → Int32} {op : Nat → Nat} : ∀ (n i : Nat) {s : (Nat → Int32) × Nat} {t r : List Bool}, tyN op n i t = some r → fitT s t → fitT (exN F num op n i s) r
  | 0, i, s, t, r, h, hs => by cases h; exact hs
  | n + 1, i, s, t, r, h, hs => by
    rw [tyN] at h
    cases h1 : ty1 (op i) t with
    | none => rw [h1] at h; cases h
    | some u =>
      rw [h1] at h
      exact exN_fit n (i + 1) h (ex1_fit h1 hs)
/-- the value of the steps f to t -/
def valE (F num : Nat → Int32) (op : Nat → Nat) (f t : Nat) : Int32 := (exN F num op (t - f) f ((fun _ => 0), 0)).1 0
theorem val_any {F num : Nat → Int32} {op : Nat → Nat} {f t : Nat} {τ : Bool} (h : tyN op (t - f) f [] = some [τ]) (g : Nat → Int32) : (exN F num op (t - f) f (g, 0)).1 0 = valE F num op f t :=
  exN_agree (t - f) f (f := g) (g := fun _ => 0) (t := []) h (fun j hj => absurd hj (Nat.not_lt_zero j)) 0 (by simp)
theorem val_01 {F num : Nat → Int32} {op : Nat → Nat} {f t : Nat} (h : tyN op (t - f) f [] = some [true]) : valE F num op f t = 0 ∨ valE F num op f t = 1 := by
  have h1 := exN_fit (F := F) (num := num) (t - f) f (s := ((fun _ => 0), 0)) (t := []) h ⟨rfl, fun j hj => absurd hj (Nat.not_lt_zero j)⟩
  exact h1.2 0 (by simp) rfl
/-- clauses: kind i (0 for, 1 against, 2 never, 3 look), its steps from st i on, the condition's from cd i to st (i + 1) -/
def rulesOK (C : Nat) (kind st cd op : Nat → Nat) : Prop := C ≤ 16 ∧ (∀ i, i < C → kind i ≤ 3 ∧ st i ≤ cd i ∧ cd i ≤ st (i + 1) ∧ (kind i ≤ 1 → tyN op (cd i - st i) (st i) [] = some [false]) ∧ (cd i = st (i + 1) ∨ tyN op (st (i + 1) - cd i) (cd i) [] = some [true])) ∧ (0 < C → st C ≤ 400)
theorem rulesOK.mono {C : Nat} {kind st cd op : Nat → Nat} (h : rulesOK C kind st cd op) : ∀ n i, i + n ≤ C → st i ≤ st (i + n)
  | 0, i, _ => Nat.le_refl _
  | n + 1, i, hi => by
    have h1 := h.mono n i (by omega)
    have h2 := (h.2.1 (i + n) (by omega)).2
    have : i + (n + 1) = (i + n) + 1 := by omega
    rw [this]
    omega
theorem rulesOK.le {C i : Nat} {kind st cd op : Nat → Nat} (h : rulesOK C kind st cd op) (hi : i ≤ C) : 0 < C → st i ≤ 400 := fun hC => by
  have h1 := h.mono (C - i) i (by omega)
  rw [show i + (C - i) = C by omega] at h1
  have := h.2.2 hC
  omega
def apl (F num : Nat → Int32) (st cd op : Nat → Nat) (i : Nat) : Bool := decide (cd i = st (i + 1)) || decide (valE F num op (cd i) (st (i + 1)) = 1)
def orBits (p : Nat → Bool) : Nat → Int32
  | 0 => nI 0
  | n + 1 => if p n then orBits p n ||| (nI 1 <<< (nI n &&& 31)) else orBits p n
theorem bt_orBits (p : Nat → Bool) : ∀ n, n ≤ 32 → ∀ j, j < 32 → bt (orBits p n) j = (decide (j < n) && p j)
  | 0, _, j, hj => by
    rw [orBits, nI_0, b_0]
    simp
  | n + 1, hn, j, hj => by
    rw [orBits]
    have ih := bt_orBits p n (by omega) j hj
    by_cases hp : p n = true
    · rw [if_pos hp, b_or, bt_one n (by omega) hj, ih]
      by_cases e : j = n
      · subst e; simp [hp]
      · have : (j < n + 1) = (j < n) := by simp; omega
        simp [e, this]
    · rw [if_neg hp, ih]
      by_cases e : j = n
      · subst e; simp [hp]
      · have : (j < n + 1) = (j < n) := by simp; omega
        simp [this]
/-- the sum of what the clauses tell -/
def vSum (F num : Nat → Int32) (kind st cd op : Nat → Nat) : Nat → Int32
  | 0 => nI 0
  | i + 1 => if apl F num st cd op i && decide (kind i = 0) then vSum F num kind st cd op i + valE F num op (st i) (cd i) else if apl F num st cd op i && decide (kind i = 1) then vSum F num kind st cd op i - valE F num op (st i) (cd i) else vSum F num kind st cd op i
def anyB (p : Nat → Bool) : Nat → Bool
  | 0 => false
  | n + 1 => anyB p n || p n
theorem anyB_iff (p : Nat → Bool) : ∀ n, anyB p n = true ↔ ∃ i, i < n ∧ p i = true
  | 0 => by simp [anyB]
  | n + 1 => by
    rw [anyB, Bool.or_eq_true, anyB_iff p n]
    constructor
    · rintro (⟨i, h1, h2⟩ | h)
      · exact ⟨i, by omega, h2⟩
      · exact ⟨n, by omega, h⟩
    · rintro ⟨i, h1, h2⟩
      by_cases e : i = n
      · subst e; exact Or.inr h2
      · exact Or.inl ⟨i, by omega, h2⟩
