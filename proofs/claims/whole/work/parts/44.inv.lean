/-! THE INVARIANT: what the class and the reference hold, one against the other -/
/-- only the cells ks, and of the reference's own object only the slots js, have changed -/
def Fr (ks js : List Nat) (σ s : gSt) : Prop := (∀ k, k ≠ 65 → k ∉ ks → s.1 k = σ.1 k ∧ s.2.1 k = σ.2.1 k) ∧ (∀ j, j ∉ js → s.1 65 j = σ.1 65 j ∧ s.2.1 65 j = σ.2.1 65 j) ∧ s.2.2 = σ.2.2
theorem Fr.rf {ks js : List Nat} {σ : gSt} : Fr ks js σ σ := ⟨fun _ _ _ => ⟨rfl, rfl⟩, fun _ _ => ⟨rfl, rfl⟩, rfl⟩
theorem Fr.trans {ks js : List Nat} {σ s t : gSt} (h1 : Fr ks js σ s) (h2 : Fr ks js s t) : Fr ks js σ t := ⟨fun k h k2 => ⟨(h2.1 k h k2).1.trans (h1.1 k h k2).1, (h2.1 k h k2).2.trans (h1.1 k h k2).2⟩, fun j hj => ⟨(h2.2.1 j hj).1.trans (h1.2.1 j hj).1, (h2.2.1 j hj).2.trans (h1.2.1 j hj).2⟩, h2.2.2.trans h1.2.2⟩
theorem Fr.mono {ks js ks' js' : List Nat} {σ s : gSt} (h : Fr ks js σ s) (h1 : ∀ k ∈ ks, k ∈ ks') (h2 : ∀ j ∈ js, j ∈ js') : Fr ks' js' σ s := ⟨fun k a b => h.1 k a (fun q => b (h1 k q)), fun j a => h.2.1 j (fun q => a (h2 j q)), h.2.2⟩
theorem Fr.of {ks js : List Nat} {σ s : gSt} (h : Off ks σ s) (h65 : 65 ∉ ks) : Fr ks js σ s := ⟨fun k _ b => h.1 k b, fun j _ => by rw [(h.1 65 h65).1, (h.1 65 h65).2]; exact ⟨rfl, rfl⟩, h.2⟩
theorem Fr.i {ks js : List Nat} {σ s : gSt} {k j : Nat} {x : Int32} (h : Fr ks js σ s) (hk : k ∈ ks) (h65 : k ≠ 65) : Fr ks js σ (sI s k j x) := by
  refine ⟨fun a ha hb => ?_, fun i hi => ?_, h.2.2⟩
  · have hne : a ≠ k := fun e => hb (e ▸ hk)
    exact ⟨by simp only [sI, if_neg hne]; exact (h.1 a ha hb).1, (h.1 a ha hb).2⟩
  · exact ⟨by simp only [sI, if_neg (Ne.symm h65)]; exact (h.2.1 i hi).1, (h.2.1 i hi).2⟩
theorem Fr.l {ks js : List Nat} {σ s : gSt} {k j : Nat} {x : Int64} (h : Fr ks js σ s) (hk : k ∈ ks) (h65 : k ≠ 65) : Fr ks js σ (sL s k j x) := by
  refine ⟨fun a ha hb => ?_, fun i hi => ?_, h.2.2⟩
  · have hne : a ≠ k := fun e => hb (e ▸ hk)
    exact ⟨(h.1 a ha hb).1, by simp only [sL, if_neg hne]; exact (h.1 a ha hb).2⟩
  · exact ⟨(h.2.1 i hi).1, by simp only [sL, if_neg (Ne.symm h65)]; exact (h.2.1 i hi).2⟩
theorem Fr.f {ks js : List Nat} {σ s : gSt} {j : Nat} {x : Int32} (h : Fr ks js σ s) (hj : j ∈ js) : Fr ks js σ (sI s 65 j x) := by
  refine ⟨fun a ha hb => ⟨by simp only [sI, if_neg ha]; exact (h.1 a ha hb).1, (h.1 a ha hb).2⟩, fun i hi => ⟨?_, (h.2.1 i hi).2⟩, h.2.2⟩
  have hne : i ≠ j := fun e => hi (e ▸ hj)
  rw [sI_get, if_neg (fun q => hne q.2)]
  exact (h.2.1 i hi).1
theorem Fr.g {ks js : List Nat} {σ s : gSt} {j : Nat} {x : Int64} (h : Fr ks js σ s) (hj : j ∈ js) : Fr ks js σ (sL s 65 j x) := by
  refine ⟨fun a ha hb => ⟨(h.1 a ha hb).1, by simp only [sL, if_neg ha]; exact (h.1 a ha hb).2⟩, fun i hi => ⟨(h.2.1 i hi).1, ?_⟩, h.2.2⟩
  have hne : i ≠ j := fun e => hi (e ▸ hj)
  simp only [sL, if_true, vp_updL, if_neg hne]
  exact (h.2.1 i hi).2
def invE (σ : gSt) (N : Nat) (bk nm td yr : Nat → Nat) (fa : Nat → Int32) : Prop := entAt σ N bk nm td yr fa ∧ entM σ N bk nm td yr fa (σ.1 3) ∧ (∀ x y, x < 16 → y < 16 → σ.1 3 (x * 16 + y) = σ.1 3 (y * 16 + x)) ∧ (∀ i, i < N → fa i = -1 ∨ ∃ f, f < 16 ∧ fa i = nI f)
theorem invE.fr {σ s : gSt} {N : Nat} {bk nm td yr : Nat → Nat} {fa : Nat → Int32} {ks js : List Nat} (hI : invE σ N bk nm td yr fa) (f : Fr ks js σ s) (hk : ∀ k ∈ [1, 2, 3, 66, 67, 68, 69, 70, 72], k ∉ ks) (hj : ∀ j ∈ [1], j ∉ js) : invE s N bk nm td yr fa := by
  unfold invE entAt entM at hI ⊢
  rw [(f.1 (1) (by decide) (hk _ (by simp))).1, (f.1 (2) (by decide) (hk _ (by simp))).1, (f.1 (3) (by decide) (hk _ (by simp))).1, (f.1 (66) (by decide) (hk _ (by simp))).1, (f.1 (67) (by decide) (hk _ (by simp))).1, (f.1 (68) (by decide) (hk _ (by simp))).1, (f.1 (69) (by decide) (hk _ (by simp))).1, (f.1 (70) (by decide) (hk _ (by simp))).1, (f.1 (72) (by decide) (hk _ (by simp))).1, (f.2.1 1 (hj _ (by simp))).1]
  exact hI
def invR (σ : gSt) (b : Bool) (C : Nat) (kind st cd op : Nat → Nat) (num : Nat → Int32) : Prop := rulesAt σ (kR b) C kind st cd op num ∧ rulesM σ C kind st cd op num ∧ rulesOK C kind st cd op
theorem invR.fr {σ s : gSt} {b : Bool} {C : Nat} {kind st cd op : Nat → Nat} {num : Nat → Int32} {ks js : List Nat} (hI : invR σ b C kind st cd op num) (f : Fr ks js σ s) (hk : ∀ k ∈ [kR b, kR b + 1, kR b + 2, kR b + 3, kR b + 4, kR b + 5, 74, 75, 76, 77, 78, 79], k ∉ ks) (hj : ∀ j ∈ [16], j ∉ js) : invR s b C kind st cd op num := by
  unfold invR rulesAt rulesM at hI ⊢
  rw [(f.1 (kR b) (by cases b <;> decide) (hk _ (by simp))).1, (f.1 (kR b + 1) (by cases b <;> decide) (hk _ (by simp))).1, (f.1 (kR b + 2) (by cases b <;> decide) (hk _ (by simp))).1, (f.1 (kR b + 3) (by cases b <;> decide) (hk _ (by simp))).1, (f.1 (kR b + 4) (by cases b <;> decide) (hk _ (by simp))).1, (f.1 (kR b + 5) (by cases b <;> decide) (hk _ (by simp))).1, (f.1 (74) (by decide) (hk _ (by simp))).1, (f.1 (75) (by decide) (hk _ (by simp))).1, (f.1 (76) (by decide) (hk _ (by simp))).1, (f.1 (77) (by decide) (hk _ (by simp))).1, (f.1 (78) (by decide) (hk _ (by simp))).1, (f.1 (79) (by decide) (hk _ (by simp))).1, (f.2.1 16 (hj _ (by simp))).1]
  exact hI
def invT (σ : gSt) (N T : Nat) (ta tb : Nat → Nat) (tw : Nat → Int32) : Prop := toldM σ T ta tb tw ∧ σ.1 16 2 = nI T ∧ (∀ q, q < T → ta q < N ∧ tb q < N ∧ ta q ≠ tb q ∧ (tw q = (-2147483648 : Int32) ∨ ((-10000 : Int32) ≤ tw q ∧ tw q ≤ nI 10000))) ∧ (∀ q q2, q < T → q2 < T → sp (ta q) (tb q) (ta q2) (tb q2) = true → q = q2) ∧ (∀ a c, a < 30 → c < 32 → bt (σ.1 28 a) c = decide (tix T ta tb a c < T))
theorem invT.fr {σ s : gSt} {N T : Nat} {ta tb : Nat → Nat} {tw : Nat → Int32} {ks js : List Nat} (hI : invT σ N T ta tb tw) (f : Fr ks js σ s) (hk : ∀ k ∈ [16, 28, 87, 88, 89], k ∉ ks) (hj : ∀ j ∈ [33], j ∉ js) : invT s N T ta tb tw := by
  unfold invT toldM at hI ⊢
  rw [(f.1 (16) (by decide) (hk _ (by simp))).1, (f.1 (28) (by decide) (hk _ (by simp))).1, (f.1 (87) (by decide) (hk _ (by simp))).1, (f.1 (88) (by decide) (hk _ (by simp))).1, (f.1 (89) (by decide) (hk _ (by simp))).1, (f.2.1 33 (hj _ (by simp))).1]
  exact hI
def invL (σ : gSt) (N most ob : Nat) (span : Int32) (F : Nat) (fx fy : Nat → Nat) (ft : Nat → Bool) : Prop := fixM σ F fx fy ft ∧ (∀ q, q < F → fx q < N ∧ fy q < N ∧ fx q ≠ fy q) ∧ (∀ q q2, q < F → q2 < F → sp (fx q) (fy q) (fx q2) (fy q2) = true → q = q2) ∧ (σ.1 65 41 = nI most ∧ σ.1 30 5 = nI most ∧ most ≤ 30) ∧ (σ.1 65 42 = nI ob ∧ σ.1 30 6 = nI ob ∧ ob ≤ 1) ∧ (σ.1 65 43 = span ∧ σ.1 30 7 = span ∧ (span = -1 ∨ ∃ k, k < 200 ∧ span = nI k)) ∧ σ.1 30 2 = nI F ∧ (∀ a c, a < 30 → c < 32 → bt (σ.1 31 a) c = tieF F fx fy ft a c ∧ bt (σ.1 32 a) c = cutF F fx fy ft a c)
theorem invL.fr {σ s : gSt} {N most ob : Nat} {span : Int32} {F : Nat} {fx fy : Nat → Nat} {ft : Nat → Bool} {ks js : List Nat} (hI : invL σ N most ob span F fx fy ft) (f : Fr ks js σ s) (hk : ∀ k ∈ [30, 31, 32, 94, 95, 96], k ∉ ks) (hj : ∀ j ∈ [41, 42, 43, 44], j ∉ js) : invL s N most ob span F fx fy ft := by
  unfold invL fixM at hI ⊢
  rw [(f.1 (30) (by decide) (hk _ (by simp))).1, (f.1 (31) (by decide) (hk _ (by simp))).1, (f.1 (32) (by decide) (hk _ (by simp))).1, (f.1 (94) (by decide) (hk _ (by simp))).1, (f.1 (95) (by decide) (hk _ (by simp))).1, (f.1 (96) (by decide) (hk _ (by simp))).1, (f.2.1 41 (hj _ (by simp))).1, (f.2.1 42 (hj _ (by simp))).1, (f.2.1 43 (hj _ (by simp))).1, (f.2.1 44 (hj _ (by simp))).1]
  exact hI
def invP (σ : gSt) (N : Nat) (bk nm td yr : Nat → Nat) (fa : Nat → Int32) (C : Nat) (kind st cd op : Nat → Nat) (num : Nat → Int32) (T : Nat) (ta tb : Nat → Nat) (tw : Nat → Int32) : Prop := (∀ i j, j < i → i < N → ∃ g, (¬ tix T ta tb i j < T → g = rsn (fct (σ.1 3) bk nm td yr fa i j) num kind st cd op C) ∧ cachedAt σ i j (w0 (wgt (fct (σ.1 3) bk nm td yr fa i j) num kind st cd op C T ta tb tw i j)) g (decide (wgt (fct (σ.1 3) bk nm td yr fa i j) num kind st cd op C T ta tb tw i j = (-2147483648 : Int32))) (!decide (tix T ta tb i j < T) && psd (fct (σ.1 3) bk nm td yr fa i j) num kind st cd op C)) ∧ padZ N σ
theorem invP.fr {σ s : gSt} {N : Nat} {bk nm td yr : Nat → Nat} {fa : Nat → Int32} {C : Nat} {kind st cd op : Nat → Nat} {num : Nat → Int32} {T : Nat} {ta tb : Nat → Nat} {tw : Nat → Int32} {ks js : List Nat} (hI : invP σ N bk nm td yr fa C kind st cd op num T ta tb tw) (f : Fr ks js σ s) (hk : ∀ k ∈ [3, 24, 25, 26, 27], k ∉ ks) (hj : ∀ j ∈ [], j ∉ js) : invP s N bk nm td yr fa C kind st cd op num T ta tb tw := by
  unfold invP cachedAt padZ at hI ⊢
  rw [(f.1 (3) (by decide) (hk _ (by simp))).1, (f.1 (24) (by decide) (hk _ (by simp))).1, (f.1 (25) (by decide) (hk _ (by simp))).1, (f.1 (26) (by decide) (hk _ (by simp))).1, (f.1 (27) (by decide) (hk _ (by simp))).1]
  exact hI
def invH (σ : gSt) (N : Nat) (h : Nat → Nat) (m : Nat) (kz : Nat → Nat) (kh : Nat → Nat → Nat) : Prop := σ.1 33 1 = nI N ∧ (σ.1 33 2 = nI m ∧ σ.1 65 88 = nI m ∧ m ≤ 6) ∧ (∀ i, i < N → σ.1 34 i = nI (h i) ∧ σ.1 71 i = nI (h i) ∧ h i ≤ i ∧ h (h i) = h i) ∧ (∀ q, q < m → σ.1 37 q = nI (kz q) ∧ σ.1 113 q = nI (kz q) ∧ kz q ≤ N ∧ ∀ i, i < kz q → σ.1 36 (q * 30 + i) = nI (kh q i) ∧ σ.1 114 (q * 30 + i) = nI (kh q i) ∧ kh q i ≤ i ∧ kh q (kh q i) = kh q i)
theorem invH.fr {σ s : gSt} {N : Nat} {h : Nat → Nat} {m : Nat} {kz : Nat → Nat} {kh : Nat → Nat → Nat} {ks js : List Nat} (hI : invH σ N h m kz kh) (f : Fr ks js σ s) (hk : ∀ k ∈ [33, 34, 36, 37, 71, 113, 114], k ∉ ks) (hj : ∀ j ∈ [88], j ∉ js) : invH s N h m kz kh := by
  unfold invH at hI ⊢
  rw [(f.1 (33) (by decide) (hk _ (by simp))).1, (f.1 (34) (by decide) (hk _ (by simp))).1, (f.1 (36) (by decide) (hk _ (by simp))).1, (f.1 (37) (by decide) (hk _ (by simp))).1, (f.1 (71) (by decide) (hk _ (by simp))).1, (f.1 (113) (by decide) (hk _ (by simp))).1, (f.1 (114) (by decide) (hk _ (by simp))).1, (f.2.1 88 (hj _ (by simp))).1]
  exact hI
def invD (σ : gSt) (tp : Nat) : Prop := σ.1 4 0 = nI tp ∧ σ.1 65 9 = nI tp ∧ tp ≤ 400 ∧ (∀ i, i < tp → σ.1 12 i = σ.1 73 i ∧ ∃ v, v < 256 ∧ σ.1 12 i = nI v) ∧ σ.1 4 2 = σ.1 65 18 ∧ σ.1 56 10 = nI 0
theorem invD.fr {σ s : gSt} {tp : Nat} {ks js : List Nat} (hI : invD σ tp) (f : Fr ks js σ s) (hk : ∀ k ∈ [4, 12, 56, 73], k ∉ ks) (hj : ∀ j ∈ [9, 18], j ∉ js) : invD s tp := by
  unfold invD at hI ⊢
  rw [(f.1 (4) (by decide) (hk _ (by simp))).1, (f.1 (56) (by decide) (hk _ (by simp))).1, (f.1 (12) (by decide) (hk _ (by simp))).1, (f.1 (73) (by decide) (hk _ (by simp))).1, (f.2.1 9 (hj _ (by simp))).1, (f.2.1 18 (hj _ (by simp))).1]
  exact hI
def invG (σ : gSt) (N R : Nat) (hs : Bool) : Prop := σ.1 42 0 = nI R ∧ σ.1 65 56 = nI R ∧ R ≤ 40 ∧ σ.2.1 42 1 = σ.2.1 65 57 ∧ σ.1 65 60 = zI hs ∧ (hs = false → R = 0) ∧ (R = 0 → ∀ j, j < 900 → σ.1 43 j = nI 0) ∧ (∀ a c, a < 30 → c < 30 → σ.1 43 (a * 30 + c) = σ.1 43 (c * 30 + a)) ∧ (hs = true → ∀ a c, a < c → c < N → σ.1 101 (30 * a + c) = (if bt (σ.1 26 a) c then (1000000 : Int32) else absI (σ.1 24 (a * 30 + c))) - σ.1 43 (a * 30 + c))
theorem invG.fr {σ s : gSt} {N R : Nat} {hs : Bool} {ks js : List Nat} (hI : invG σ N R hs) (f : Fr ks js σ s) (hk : ∀ k ∈ [24, 26, 42, 43, 101], k ∉ ks) (hj : ∀ j ∈ [56, 60, 57], j ∉ js) : invG s N R hs := by
  unfold invG at hI ⊢
  rw [(f.1 (24) (by decide) (hk _ (by simp))).1, (f.1 (26) (by decide) (hk _ (by simp))).1, (f.1 (42) (by decide) (hk _ (by simp))).1, (f.1 (43) (by decide) (hk _ (by simp))).1, (f.1 (101) (by decide) (hk _ (by simp))).1, (f.1 42 (by decide) (hk _ (by simp))).2, (f.2.1 56 (hj _ (by simp))).1, (f.2.1 60 (hj _ (by simp))).1, (f.2.1 57 (hj _ (by simp))).2]
  exact hI
def Inv (b : Bool) (σ : gSt) : Prop := σ.2.2 = gRf b ∧ ∃ (N : Nat) (bk nm td yr : Nat → Nat) (fa : Nat → Int32) (C : Nat) (kind st cd op : Nat → Nat) (num : Nat → Int32) (T : Nat) (ta tb : Nat → Nat) (tw : Nat → Int32) (most ob : Nat) (span : Int32) (F : Nat) (fx fy : Nat → Nat) (ft : Nat → Bool) (h : Nat → Nat) (m : Nat) (kz : Nat → Nat) (kh : Nat → Nat → Nat) (tp : Nat) (R : Nat) (hs : Bool), invE σ N bk nm td yr fa ∧ invR σ b C kind st cd op num ∧ invT σ N T ta tb tw ∧ invL σ N most ob span F fx fy ft ∧ invP σ N bk nm td yr fa C kind st cd op num T ta tb tw ∧ invH σ N h m kz kh ∧ invD σ tp ∧ invG σ N R hs
/-- the end of a pair of calls: what the reference says of throwing, the answer that is out, the invariant -/
def fin (k : Int32) (v : Int64) (t : gSt) : Prop := t.1 65 0 = k ∧ (k = 0 → t.2.1 115 0 = v) ∧ ∃ b, Inv b t
/-- the class's call, then the reference's -/
def OKI (A : (Int32 → gSt → Prop) → (String → gSt → Prop) → gSt → Prop) (B : (Int32 → gSt → Prop) → gSt → Prop) (code : String → Int32 → Prop) (σ : gSt) : Prop :=
  A (fun v s => ∀ s2, s2 = sL s 115 0 (i2l v) → B (fun w t => fin (nI 0) (i2l w) t) s2) (fun E s => ∃ k, code E k ∧ B (fun _ t => fin k (lN 0) t) s) σ
def OKL (A : (Int64 → gSt → Prop) → (String → gSt → Prop) → gSt → Prop) (B : (Int64 → gSt → Prop) → gSt → Prop) (code : String → Int32 → Prop) (σ : gSt) : Prop :=
  A (fun v s => ∀ s2, s2 = sL s 115 0 v → B (fun w t => fin (nI 0) w t) s2) (fun E s => ∃ k, code E k ∧ B (fun _ t => fin k (lN 0) t) s) σ
def OKN (A B : (Int32 → gSt → Prop) → gSt → Prop) (σ : gSt) : Prop := A (fun v s => B (fun w t => v = w ∧ ∃ b, Inv b t) s) σ
def OKM (A B : (Int64 → gSt → Prop) → gSt → Prop) (σ : gSt) : Prop := A (fun v s => B (fun w t => v = w ∧ ∃ b, Inv b t) s) σ
def cdP (E : String) (k : Int32) : Prop := (E = nsE ∧ k = nI 1) ∨ (E = iaE ∧ k = nI 2)
def cdE (E : String) (k : Int32) : Prop := E = nsE ∧ k = nI 1
def cdA (E : String) (k : Int32) : Prop := E = iaE ∧ k = nI 1
/-- a frame that touches nothing of it -/
theorem Inv.fr {b : Bool} {σ s : gSt} {ks js : List Nat} (hI : Inv b σ) (f : Fr ks js σ s) (hk : ∀ k ∈ [1, 2, 3, 4, kR b, kR b + 1, kR b + 2, kR b + 3, kR b + 4, kR b + 5, 12, 16, 24, 25, 26, 27, 28, 30, 31, 32, 33, 34, 36, 37, 42, 43, 56, 66, 67, 68, 69, 70, 71, 72, 73, 74, 75, 76, 77, 78, 79, 87, 88, 89, 94, 95, 96, 101, 113, 114], k ∉ ks) (hj : ∀ j ∈ [1, 9, 16, 18, 33, 41, 42, 43, 44, 56, 57, 60, 88], j ∉ js) : Inv b s := by
  obtain ⟨hR, N, bk, nm, td, yr, fa, C, kind, st, cd, op, num, T, ta, tb, tw, most, ob, span, F, fx, fy, ft, h, m, kz, kh, tp, R, hs, h1, h2, h3, h4, h5, h6, h7, h8⟩ := hI
  have sub : ∀ l : List Nat, (∀ k ∈ l, k ∈ [1, 2, 3, 4, kR b, kR b + 1, kR b + 2, kR b + 3, kR b + 4, kR b + 5, 12, 16, 24, 25, 26, 27, 28, 30, 31, 32, 33, 34, 36, 37, 42, 43, 56, 66, 67, 68, 69, 70, 71, 72, 73, 74, 75, 76, 77, 78, 79, 87, 88, 89, 94, 95, 96, 101, 113, 114]) → ∀ k ∈ l, k ∉ ks := fun l hl k hkl => hk k (hl k hkl)
  have sbj : ∀ l : List Nat, (∀ k ∈ l, k ∈ [1, 9, 16, 18, 33, 41, 42, 43, 44, 56, 57, 60, 88]) → ∀ k ∈ l, k ∉ js := fun l hl k hkl => hj k (hl k hkl)
  exact ⟨f.2.2.trans hR, N, bk, nm, td, yr, fa, C, kind, st, cd, op, num, T, ta, tb, tw, most, ob, span, F, fx, fy, ft, h, m, kz, kh, tp, R, hs, h1.fr f (sub _ (by simp)) (sbj _ (by simp)), h2.fr f (sub _ (by simp)) (sbj _ (by simp)), h3.fr f (sub _ (by simp)) (sbj _ (by simp)), h4.fr f (sub _ (by simp)) (sbj _ (by simp)), h5.fr f (sub _ (by simp)) (sbj _ (by simp)), h6.fr f (sub _ (by simp)) (sbj _ (by simp)), h7.fr f (sub _ (by simp)) (sbj _ (by simp)), h8.fr f (sub _ (by simp)) (sbj _ (by simp))⟩
