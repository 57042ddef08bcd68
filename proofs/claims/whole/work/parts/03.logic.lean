/-! THE JUDGEMENT G: a frame of a method over the whole world (every object and array of class, reference and law, by number) -/
abbrev gSt : Type := (Nat → Nat → Int32) × (Nat → Nat → Int64) × (Nat → Nat → Option Nat)
/-- classes' numbers and slots; the array classes (0 int, 1 long, 2 boolean); the first address -/
abbrev gOm : Type := va_G × (Nat → ClassId) × Nat × (Nat → Nat) × (Nat → Nat)
abbrev gB (o : gOm) : Nat := o.2.2.1
def ad (o : gOm) (k : Nat) : Nat := gB o + k
theorem ad_inj {o : gOm} {i j : Nat} (h : ad o i = ad o j) : i = j := by unfold ad at h; omega
def lay (k : Nat) : Nat × Nat := layL.getD k (99, 0)
def gN (ci : Nat) : Nat := gNL.getD ci 0
def gfld (o : gOm) (σ : gSt) (ci k j : Nat) : Value := match gty ci j with
  | .int => .int (σ.1 k j)
  | .boolean => .int (σ.1 k j)
  | .long => .long (σ.2.1 k j)
  | _ => va_rf ((σ.2.2 k j).map (ad o))
def ent (o : gOm) (σ : gSt) (k : Nat) : va_E := match lay k with
  | (0, len) => .inl (o.2.1 0, len, .inl (σ.1 k))
  | (1, len) => .inl (o.2.1 1, len, .inr (.inl (σ.2.1 k)))
  | (2, len) => .inl (o.2.1 2, len, .inl (σ.1 k))
  | (c + 3, _) => .inr (c, (List.range (gN c)).map (gfld o σ c k))
def wl (o : gOm) (n : Nat) (σ : gSt) : va_W := (List.range n).map fun k => (ad o k, ent o σ k)
theorem wl_get {o : gOm} {n : Nat} {σ : gSt} {k : Nat} (h : k < n) : (wl o n σ)[k]? = some (ad o k, ent o σ k) := by
  simp [wl, h]
theorem wl_len {o : gOm} {n : Nat} {σ : gSt} : (wl o n σ).length = n := by simp [wl]
theorem ent_congr {o : gOm} {σ σ' : gSt} {a : Nat} (h1 : σ'.1 a = σ.1 a) (h2 : σ'.2.1 a = σ.2.1 a) (h3 : σ'.2.2 a = σ.2.2 a) : ent o σ' a = ent o σ a := by
  have hf : ∀ c, gfld o σ' c a = gfld o σ c a := fun c => by funext j; simp only [gfld, h1, h2, h3]
  simp only [ent, h1, h2, hf]
theorem wl_set {o : gOm} {n k : Nat} {σ σ' : gSt} {e : va_E} (he : ent o σ' k = e) (h : ∀ a, a ≠ k → ent o σ' a = ent o σ a) : (wl o n σ).set k (ad o k, e) = wl o n σ' := by
  apply List.ext_getElem?
  intro i
  by_cases hi : i < n
  · rw [wl_get hi]
    by_cases hk : i = k
    · subst hk
      rw [List.getElem?_set_self (by rw [wl_len]; exact hi), he]
    · rw [List.getElem?_set_ne (Ne.symm hk), wl_get hi, h i hk]
  · rw [List.getElem?_eq_none (by rw [List.length_set, wl_len]; omega), List.getElem?_eq_none (by rw [wl_len]; omega)]
theorem wl_succ {o : gOm} {n : Nat} {σ σ' : gSt} {e : va_E} (he : ent o σ' n = e) (h : ∀ a, a < n → ent o σ' a = ent o σ a) : wl o n σ ++ [(ad o n, e)] = wl o (n + 1) σ' := by
  unfold wl
  rw [List.range_succ, List.map_append]
  congr 1
  · refine List.map_congr_left fun a ha => ?_
    rw [h a (List.mem_range.mp ha)]
  · simp [he]
/-- stores -/
def sI (σ : gSt) (k j : Nat) (x : Int32) : gSt := (fun a => if a = k then upd (σ.1 k) j x else σ.1 a, σ.2.1, σ.2.2)
def sL (σ : gSt) (k j : Nat) (x : Int64) : gSt := (σ.1, fun a => if a = k then vp_updL (σ.2.1 k) j x else σ.2.1 a, σ.2.2)
def sR (σ : gSt) (k j : Nat) (x : Option Nat) : gSt := (σ.1, σ.2.1, fun a => if a = k then (fun b => if b = j then x else σ.2.2 k b) else σ.2.2 a)
def sZ (σ : gSt) (k : Nat) : gSt := (fun a => if a = k then (fun _ => 0) else σ.1 a, fun a => if a = k then (fun _ => 0) else σ.2.1 a, fun a => if a = k then (fun _ => none) else σ.2.2 a)
theorem ent_sI {o : gOm} {σ : gSt} {k j : Nat} {x : Int32} (a : Nat) (h : a ≠ k) : ent o (sI σ k j x) a = ent o σ a := ent_congr (by simp [sI, h]) rfl rfl
theorem ent_sL {o : gOm} {σ : gSt} {k j : Nat} {x : Int64} (a : Nat) (h : a ≠ k) : ent o (sL σ k j x) a = ent o σ a := ent_congr rfl (by simp [sL, h]) rfl
theorem ent_sR {o : gOm} {σ : gSt} {k j : Nat} {x : Option Nat} (a : Nat) (h : a ≠ k) : ent o (sR σ k j x) a = ent o σ a := ent_congr rfl rfl (by simp [sR, h])
theorem ent_sZ {o : gOm} {σ : gSt} {k : Nat} (a : Nat) (h : a ≠ k) : ent o (sZ σ k) a = ent o σ a := ent_congr (by simp [sZ, h]) (by simp [sZ, h]) (by simp [sZ, h])
/-- the world in a heap -/
def gWd (o : gOm) (n : Nat) (σ : gSt) (H : Heap) : Prop := va_P o.1 classes (wl o n σ) H ∧ (n < 116 → H.size = gB o + n) ∧ gB o + n ≤ H.size
def gtys (o : gOm) : List (ClassId × FieldType) := [(o.2.1 0, .int), (o.2.1 1, .long), (o.2.1 2, .boolean)]
abbrev gA (o : gOm) : Nat → Prop := fun q => gB o ≤ q
abbrev iaE : String := "java/lang/IllegalArgumentException"
abbrev nsE : String := "java/util/NoSuchElementException"
abbrev exN2 : List String := ["java/lang/RuntimeException", "java/lang/Exception"]
/-- words of a throw that wander by laws of their own -/
def gXw : List Cond := [.castable iaE iaE, .castable nsE nsE, .declares ⟨"java/lang/RuntimeException", "<init>", "()V"⟩, .declares ⟨"java/lang/Exception", "<init>", "()V"⟩, .declares ⟨"java/lang/Throwable", "<init>", "()V"⟩]
theorem gXw_tab : ∀ w ∈ gXw, w.onTables = true := by
  intro w hw
  simp only [gXw, List.mem_cons, List.not_mem_nil, or_false] at hw
  rcases hw with rfl | rfl | rfl | rfl | rfl <;> rfl
theorem gXw_warm {s U : State} (hW : s.WarmedH U.vm) : ∀ w ∈ gXw, va_Nw w s → va_Nw w U := by
  intro w hw
  simp only [gXw, List.mem_cons, List.not_mem_nil, or_false] at hw
  rcases hw with rfl | rfl | rfl | rfl | rfl
  · exact va_Nw.warmC hW
  · exact va_Nw.warmC hW
  · exact va_Nw.warmD hW
  · exact va_Nw.warmD hW
  · exact va_Nw.warmD hW
def gXs (U : State) : Prop := (∀ w ∈ gXw, va_Nw w U) ∧ va_Nc iaE nsE U
theorem gXs.moved {s U : State} (hW : s.WarmedH U.vm) (h : gXs s) : gXs U := ⟨fun w hw => gXw_warm hW w hw (h.1 w hw), va_Nc.moved hW.alike h.2⟩
theorem gXs.same {u U : State} (hv : u.vm = U.vm) (h : gXs u) : gXs U := ⟨fun w hw => va_Nw.same (gXw_tab w hw) hv (h.1 w hw), va_Nc.moved (by rw [hv]; exact Vm.Alike.refl _) h.2⟩
/-- what stays below the world: links of nest mates, the two statics of a throw, the texts -/
def gFix (o : gOm) (U : State) (H : Heap) : Prop := (∀ q ∈ gNst, va_Nw (.methodLinkNest q.1 q.2.1 q.2.2.1 q.2.2.2) U) ∧ vx_Zq Bundle.tN "UNASSIGNED_STACK" Bundle.steD (gA o) U H ∧ vx_Zq Bundle.tN "SUPPRESSED_SENTINEL" Bundle.listD (gA o) U H ∧ (va_Z "java/lang/String" "COMPACT_STRINGS" "Z" (.int 1) (gA o) U H ∧ va_Zq "jdk/internal/util/Preconditions" "SIOOBE_FORMATTER" "Ljava/util/function/BiFunction;" (gA o) U H) ∧ (∀ i, i < 16 → vk_R RX7 (strI.getD i 0) (strT.getD i "") (o.2.2.2.1 i) U) ∧ vk_S 16 strN strB o.2.2.2.1 o.2.2.2.2 (gA o) U H ∧ gXs U
theorem gFix.kept {o : gOm} {U : State} {H H1 : Heap} (h : gFix o U H) (hq : ∀ a : Nat, a < H.size → ¬ gA o a → H1[a]? = H[a]?) : gFix o U H1 := ⟨h.1, h.2.1.kept hq, h.2.2.1.kept hq, ⟨h.2.2.2.1.1.kept hq, h.2.2.2.1.2.kept hq⟩, h.2.2.2.2.1, h.2.2.2.2.2.1.kept hq, h.2.2.2.2.2.2⟩
theorem gFix.moved {o : gOm} {s U : State} {H : Heap} (hW : s.WarmedH U.vm) (h : gFix o s H) : gFix o U H := ⟨fun q hq => va_Nw.warmM hW (h.1 q hq), vx_Zq.moved hW.alike h.2.1, vx_Zq.moved hW.alike h.2.2.1, ⟨va_Z.moved hW.alike h.2.2.2.1.1, va_Zq.moved hW.alike h.2.2.2.1.2⟩, fun i hi => vk_R.warm hW (h.2.2.2.2.1 i hi), h.2.2.2.2.2.1.moved hW.alike, h.2.2.2.2.2.2.moved hW⟩
theorem gFix.same {o : gOm} {u U : State} {H : Heap} (hv : u.vm = U.vm) (h : gFix o u H) : gFix o U H := ⟨fun q hq => va_Nw.same rfl hv (h.1 q hq), vx_Zq.moved (by rw [hv]; exact Vm.Alike.refl _) h.2.1, vx_Zq.moved (by rw [hv]; exact Vm.Alike.refl _) h.2.2.1, ⟨va_Z.moved (by rw [hv]; exact Vm.Alike.refl _) h.2.2.2.1.1, va_Zq.moved (by rw [hv]; exact Vm.Alike.refl _) h.2.2.2.1.2⟩, fun i hi => vk_R.same hv.symm (h.2.2.2.2.1 i hi), h.2.2.2.2.2.1.moved (by rw [hv]; exact Vm.Alike.refl _), h.2.2.2.2.2.2.same hv⟩
def gWS (o : gOm) (n : Nat) (σ : gSt) (U : State) : Prop := gWd o n σ U.heap ∧ va_K o.1 classes (gtys o) U ∧ gB o ≤ U.heap.size ∧ gFix o U U.heap
theorem wl_D {o : gOm} {n : Nat} {σ : gSt} : va_D (gA o) (wl o n σ) := by
  have key : ∀ (i : Nat) (p : Nat × va_E), (wl o n σ)[i]? = some p → p.1 = ad o i := by
    intro i p hp
    have hi : i < n := by
      have := (List.getElem?_eq_some_iff.mp hp).1
      rwa [wl_len] at this
    rw [wl_get hi] at hp
    cases hp
    rfl
  refine ⟨fun i j p q hp hq hpq => ?_, fun k q hk => ?_⟩
  · rw [key i p hp, key j q hq] at hpq
    exact ad_inj hpq
  · rw [key k q hk]
    show gB o ≤ gB o + k
    omega
/-- locals: a list of slots; what isn't known is none -/
def asc (ls : List (Option Value)) : List (Nat × Value) := (List.range ls.length).filterMap (fun i => (ls.getD i none).map (fun v => (i, v)))
theorem mem_asc {ls : List (Option Value)} {q : Nat × Value} : q ∈ asc ls ↔ ls[q.1]? = some (some q.2) := by
  obtain ⟨i, v⟩ := q
  simp only [asc, List.mem_filterMap, List.mem_range, Option.map_eq_some_iff, Prod.mk.injEq]
  constructor
  · rintro ⟨a, ha, x, hx, rfl, rfl⟩
    rw [List.getD_eq_getElem?_getD] at hx
    cases h : ls[a]? with
    | none => rw [h] at hx; cases hx
    | some y => rw [h] at hx; cases hx; rfl
  · intro h
    refine ⟨i, (List.getElem?_eq_some_iff.mp h).1, v, ?_, rfl, rfl⟩
    rw [List.getD_eq_getElem?_getD, h]
    rfl
theorem lv_has_mono {ls : Array Slot} {nL : Nat} {l l' : List (Nat × Value)} (h : lv_has ls nL l) (hs : ∀ q ∈ l', q ∈ l) : lv_has ls nL l' := ⟨h.1, h.2.1, fun q hq => h.2.2 q (hs q hq)⟩
def okst : Option Value → Bool
  | some (.long _) => false
  | some (.double _) => false
  | _ => true
theorem okst_cat {v : Value} (h : okst (some v) = true) : ¬ (v.category == 2) = true := by
  cases v <;> simp_all [okst, Value.category]
def okAt (ls : List (Option Value)) (i : Nat) : Bool := match i with
  | 0 => true
  | j + 1 => okst (ls.getD j none)
theorem asc_set1 {ls : List (Option Value)} {i : Nat} {v : Value} (ho : okAt ls i = true) : ∀ q ∈ asc (ls.set i (some v)), q ∈ (i, v) :: (asc ls).filter (fun q => !(q.1 == i) && !(q.1 + 1 == i && q.2.category == 2)) := by
  rintro ⟨a, x⟩ hq
  have hq1 := mem_asc.mp hq
  clear hq
  dsimp only at hq1
  by_cases ha : a = i
  · subst ha
    rw [List.getElem?_set] at hq1
    split at hq1
    · split at hq1
      · cases hq1; exact List.mem_cons_self
      · cases hq1
    · exact absurd rfl ‹¬ _›
  · rw [List.getElem?_set_ne (Ne.symm ha)] at hq1
    refine List.mem_cons_of_mem _ (List.mem_filter.mpr ⟨mem_asc.mpr hq1, ?_⟩)
    have : ¬ (a + 1 = i ∧ (x.category == 2) = true) := by
      rintro ⟨rfl, h2⟩
      have hq2 : ls[a]? = some (some x) := hq1
      have ho2 : okst (ls.getD a none) = true := ho
      rw [List.getD_eq_getElem?_getD, hq2] at ho2
      exact okst_cat ho2 h2
    simp only [Bool.and_eq_true, Bool.not_eq_true', beq_eq_false_iff_ne, ne_eq, ha, not_false_eq_true, true_and, Bool.and_eq_false_imp, beq_iff_eq]
    intro h1
    cases h3 : (x.category == 2) with
    | false => simpa using h3
    | true => exact absurd ⟨h1, h3⟩ this
theorem asc_set2 {ls : List (Option Value)} {i : Nat} {v : Value} (ho : okAt ls i = true) : ∀ q ∈ asc ((ls.set i (some v)).set (i + 1) none), q ∈ (i, v) :: (asc ls).filter (fun q => !(q.1 == i) && (!(q.1 == i + 1) && !(q.1 + 1 == i && q.2.category == 2))) := by
  rintro ⟨a, x⟩ hq
  have hq := mem_asc.mp hq
  dsimp only at hq
  have ha1 : a ≠ i + 1 := by
    rintro rfl
    rw [List.getElem?_set] at hq
    split at hq
    · split at hq
      · cases hq
      · cases hq
    · exact absurd rfl ‹¬ _›
  rw [List.getElem?_set_ne (Ne.symm ha1)] at hq
  have h0 := asc_set1 ho (a, x) (mem_asc.mpr hq)
  rcases List.mem_cons.mp h0 with h | h
  · exact List.mem_cons.mpr (Or.inl h)
  · obtain ⟨h1, h2⟩ := List.mem_filter.mp h
    refine List.mem_cons_of_mem _ (List.mem_filter.mpr ⟨h1, ?_⟩)
    simp only [Bool.and_eq_true] at h2 ⊢
    exact ⟨h2.1, by simpa using ha1, h2.2⟩
/-- the machine's own numbers of a frame, and what its end wants -/
abbrev gCx : Type := Program × Launch × Env × Room × State × MethodId × Array Value × List Frame × Method × Code × (State → Prop)
def gW : gCx → Heap → List Loc → Nat → Nat → Nat → Array Slot → List Value → Prop := fun (p, l, e, R, s, m, args, below, meth, c, Q) H locs cells slots pc ls st => W p l e R s m args below meth c H locs cells slots Q (F0 m pc ls st)
def G (o : gOm) (γ : gCx) (cells slots n : Nat) (σ : gSt) (pc : Nat) (ls : List (Option Value)) (st : List Value) : Prop :=
  ∀ (H : Heap) (locs : List Loc) (lsC : Array Slot), gWd o n σ H → va_S (gA o) γ.2.2.2.2.1.heap H locs → ls.length = γ.2.2.2.2.2.2.2.2.2.1.maxLocals → lv_has lsC γ.2.2.2.2.2.2.2.2.2.1.maxLocals (asc ls) → gW γ H locs cells slots pc lsC st
def gX (o : gOm) (γ : gCx) (cc : ByteArray) (nL : Nat) (own : String) : Prop := match γ with
  | (p, l, e, R, s, m, args, below, meth, c, Q) => p.tables.exec = Jvm.exec ∧ c.code = cc ∧ c.maxLocals = nL ∧ s.vm.findClass own = some m.cls ∧ (∀ w ∈ BIG, w.before args s = true) ∧ va_K o.1 classes (gtys o) s ∧ gB o ≤ s.heap.size ∧ meth.locks = false ∧ gFix o s s.heap
section GR
variable {o : gOm} {γ : gCx} {cc : ByteArray} {nL : Nat} {own : String} {cells slots n : Nat} {σ : gSt} {pc : Nat} {ls : List (Option Value)} {rest : List Value}
theorem g_iconst (X : gX o γ cc nL own) {z : Int} {v : Int32} (hd : decode cc pc = .ok (.iconst z, 1)) (hv : Int32.ofInt z = v) (k : G o γ cells slots n σ (pc + 1) ls (.int v :: rest)) : G o γ cells slots n σ pc ls (rest) := by
  obtain ⟨p, l, e, R, s, m, args, below, meth, c, Q⟩ := γ
  obtain ⟨hx, hb, hml, hown, hts, hK, hbase, hlk, hfx⟩ := X
  intro H locs lsC hW hS hn hl
  dsimp only at hn hl hS
  exact lv_iconst hx hb hd hv (k H locs lsC hW hS hn hl)
theorem g_bipush (X : gX o γ cc nL own) {z : Int} {v : Int32} (hd : decode cc pc = .ok (.bipush z, 2)) (hv : (Int8.ofInt z).toInt32 = v) (k : G o γ cells slots n σ (pc + 2) ls (.int v :: rest)) : G o γ cells slots n σ pc ls (rest) := by
  obtain ⟨p, l, e, R, s, m, args, below, meth, c, Q⟩ := γ
  obtain ⟨hx, hb, hml, hown, hts, hK, hbase, hlk, hfx⟩ := X
  intro H locs lsC hW hS hn hl
  dsimp only at hn hl hS
  exact lv_bipush hx hb hd hv (k H locs lsC hW hS hn hl)
theorem g_sipush (X : gX o γ cc nL own) {z : Int} {v : Int32} (hd : decode cc pc = .ok (.sipush z, 3)) (hv : (Int16.ofInt z).toInt32 = v) (k : G o γ cells slots n σ (pc + 3) ls (.int v :: rest)) : G o γ cells slots n σ pc ls (rest) := by
  obtain ⟨p, l, e, R, s, m, args, below, meth, c, Q⟩ := γ
  obtain ⟨hx, hb, hml, hown, hts, hK, hbase, hlk, hfx⟩ := X
  intro H locs lsC hW hS hn hl
  dsimp only at hn hl hS
  exact lv_sipush hx hb hd hv (k H locs lsC hW hS hn hl)
theorem g_lconst (X : gX o γ cc nL own) {z : Fin 2} {v : Int64} (hd : decode cc pc = .ok (.lconst z, 1)) (hv : Int64.ofNat (z : Nat) = v) (k : G o γ cells slots n σ (pc + 1) ls (.long v :: rest)) : G o γ cells slots n σ pc ls (rest) := by
  obtain ⟨p, l, e, R, s, m, args, below, meth, c, Q⟩ := γ
  obtain ⟨hx, hb, hml, hown, hts, hK, hbase, hlk, hfx⟩ := X
  intro H locs lsC hW hS hn hl
  dsimp only at hn hl hS
  exact lv_lconst hx hb hd hv (k H locs lsC hW hS hn hl)
theorem g_ldc (X : gX o γ cc nL own) {i : Nat} {v : Int32} (hd : decode cc pc = .ok (.ldc i, 2)) (hc : Cond.constant own i v ∈ BIG) (k : G o γ cells slots n σ (pc + 2) ls (.int v :: rest)) : G o γ cells slots n σ pc ls (rest) := by
  obtain ⟨p, l, e, R, s, m, args, below, meth, c, Q⟩ := γ
  obtain ⟨hx, hb, hml, hown, hts, hK, hbase, hlk, hfx⟩ := X
  intro H locs lsC hW hS hn hl
  dsimp only at hn hl hS
  exact lv_ldc hx hb hown (hts _ hc) hd (k H locs lsC hW hS hn hl)
theorem g_ldcw (X : gX o γ cc nL own) {i : Nat} {v : Int32} (hd : decode cc pc = .ok (.ldc_w i, 3)) (hc : Cond.constant own i v ∈ BIG) (k : G o γ cells slots n σ (pc + 3) ls (.int v :: rest)) : G o γ cells slots n σ pc ls (rest) := by
  obtain ⟨p, l, e, R, s, m, args, below, meth, c, Q⟩ := γ
  obtain ⟨hx, hb, hml, hown, hts, hK, hbase, hlk, hfx⟩ := X
  intro H locs lsC hW hS hn hl
  dsimp only at hn hl hS
  exact lv_ldcw hx hb hown (hts _ hc) hd (k H locs lsC hW hS hn hl)
theorem g_ldc2 (X : gX o γ cc nL own) {i : Nat} {v : Int64} (hd : decode cc pc = .ok (.ldc2_w i, 3)) (hc : Cond.constantLong own i v ∈ BIG) (k : G o γ cells slots n σ (pc + 3) ls (.long v :: rest)) : G o γ cells slots n σ pc ls (rest) := by
  obtain ⟨p, l, e, R, s, m, args, below, meth, c, Q⟩ := γ
  obtain ⟨hx, hb, hml, hown, hts, hK, hbase, hlk, hfx⟩ := X
  intro H locs lsC hW hS hn hl
  dsimp only at hn hl hS
  exact lv_ldc2 hx hb hown (hts _ hc) hd (k H locs lsC hW hS hn hl)
theorem g_iadd (X : gX o γ cc nL own) {x y : Int32} (hd : decode cc pc = .ok (.iadd, 1)) (k : G o γ cells slots n σ (pc + 1) ls (.int (x + y) :: rest)) : G o γ cells slots n σ pc ls (.int y :: .int x :: rest) := by
  obtain ⟨p, l, e, R, s, m, args, below, meth, c, Q⟩ := γ
  obtain ⟨hx, hb, hml, hown, hts, hK, hbase, hlk, hfx⟩ := X
  intro H locs lsC hW hS hn hl
  dsimp only at hn hl hS
  exact lv_iadd hx hb hd (k H locs lsC hW hS hn hl)
theorem g_isub (X : gX o γ cc nL own) {x y : Int32} (hd : decode cc pc = .ok (.isub, 1)) (k : G o γ cells slots n σ (pc + 1) ls (.int (x - y) :: rest)) : G o γ cells slots n σ pc ls (.int y :: .int x :: rest) := by
  obtain ⟨p, l, e, R, s, m, args, below, meth, c, Q⟩ := γ
  obtain ⟨hx, hb, hml, hown, hts, hK, hbase, hlk, hfx⟩ := X
  intro H locs lsC hW hS hn hl
  dsimp only at hn hl hS
  exact lv_isub hx hb hd (k H locs lsC hW hS hn hl)
theorem g_imul (X : gX o γ cc nL own) {x y : Int32} (hd : decode cc pc = .ok (.imul, 1)) (k : G o γ cells slots n σ (pc + 1) ls (.int (x * y) :: rest)) : G o γ cells slots n σ pc ls (.int y :: .int x :: rest) := by
  obtain ⟨p, l, e, R, s, m, args, below, meth, c, Q⟩ := γ
  obtain ⟨hx, hb, hml, hown, hts, hK, hbase, hlk, hfx⟩ := X
  intro H locs lsC hW hS hn hl
  dsimp only at hn hl hS
  exact lv_imul hx hb hd (k H locs lsC hW hS hn hl)
theorem g_iand (X : gX o γ cc nL own) {x y : Int32} (hd : decode cc pc = .ok (.iand, 1)) (k : G o γ cells slots n σ (pc + 1) ls (.int (x &&& y) :: rest)) : G o γ cells slots n σ pc ls (.int y :: .int x :: rest) := by
  obtain ⟨p, l, e, R, s, m, args, below, meth, c, Q⟩ := γ
  obtain ⟨hx, hb, hml, hown, hts, hK, hbase, hlk, hfx⟩ := X
  intro H locs lsC hW hS hn hl
  dsimp only at hn hl hS
  exact lv_iand hx hb hd (k H locs lsC hW hS hn hl)
theorem g_ior (X : gX o γ cc nL own) {x y : Int32} (hd : decode cc pc = .ok (.ior, 1)) (k : G o γ cells slots n σ (pc + 1) ls (.int (x ||| y) :: rest)) : G o γ cells slots n σ pc ls (.int y :: .int x :: rest) := by
  obtain ⟨p, l, e, R, s, m, args, below, meth, c, Q⟩ := γ
  obtain ⟨hx, hb, hml, hown, hts, hK, hbase, hlk, hfx⟩ := X
  intro H locs lsC hW hS hn hl
  dsimp only at hn hl hS
  exact lv_ior hx hb hd (k H locs lsC hW hS hn hl)
theorem g_ixor (X : gX o γ cc nL own) {x y : Int32} (hd : decode cc pc = .ok (.ixor, 1)) (k : G o γ cells slots n σ (pc + 1) ls (.int (x ^^^ y) :: rest)) : G o γ cells slots n σ pc ls (.int y :: .int x :: rest) := by
  obtain ⟨p, l, e, R, s, m, args, below, meth, c, Q⟩ := γ
  obtain ⟨hx, hb, hml, hown, hts, hK, hbase, hlk, hfx⟩ := X
  intro H locs lsC hW hS hn hl
  dsimp only at hn hl hS
  exact lv_ixor hx hb hd (k H locs lsC hW hS hn hl)
theorem g_ishl (X : gX o γ cc nL own) {x y : Int32} (hd : decode cc pc = .ok (.ishl, 1)) (k : G o γ cells slots n σ (pc + 1) ls (.int (x <<< (y &&& 31)) :: rest)) : G o γ cells slots n σ pc ls (.int y :: .int x :: rest) := by
  obtain ⟨p, l, e, R, s, m, args, below, meth, c, Q⟩ := γ
  obtain ⟨hx, hb, hml, hown, hts, hK, hbase, hlk, hfx⟩ := X
  intro H locs lsC hW hS hn hl
  dsimp only at hn hl hS
  exact lv_ishl hx hb hd (k H locs lsC hW hS hn hl)
theorem g_ishr (X : gX o γ cc nL own) {x y : Int32} (hd : decode cc pc = .ok (.ishr, 1)) (k : G o γ cells slots n σ (pc + 1) ls (.int (x >>> (y &&& 31)) :: rest)) : G o γ cells slots n σ pc ls (.int y :: .int x :: rest) := by
  obtain ⟨p, l, e, R, s, m, args, below, meth, c, Q⟩ := γ
  obtain ⟨hx, hb, hml, hown, hts, hK, hbase, hlk, hfx⟩ := X
  intro H locs lsC hW hS hn hl
  dsimp only at hn hl hS
  exact lv_ishr hx hb hd (k H locs lsC hW hS hn hl)
theorem g_idiv (X : gX o γ cc nL own) {x y : Int32} (hd : decode cc pc = .ok (.idiv, 1)) (hne : ¬ y = 0) (k : G o γ cells slots n σ (pc + 1) ls (.int (x / y) :: rest)) : G o γ cells slots n σ pc ls (.int y :: .int x :: rest) := by
  obtain ⟨p, l, e, R, s, m, args, below, meth, c, Q⟩ := γ
  obtain ⟨hx, hb, hml, hown, hts, hK, hbase, hlk, hfx⟩ := X
  intro H locs lsC hW hS hn hl
  dsimp only at hn hl hS
  exact lv_idiv hx hb hd hne (k H locs lsC hW hS hn hl)
theorem g_irem (X : gX o γ cc nL own) {x y : Int32} (hd : decode cc pc = .ok (.irem, 1)) (hne : ¬ y = 0) (k : G o γ cells slots n σ (pc + 1) ls (.int (x - x / y * y) :: rest)) : G o γ cells slots n σ pc ls (.int y :: .int x :: rest) := by
  obtain ⟨p, l, e, R, s, m, args, below, meth, c, Q⟩ := γ
  obtain ⟨hx, hb, hml, hown, hts, hK, hbase, hlk, hfx⟩ := X
  intro H locs lsC hW hS hn hl
  dsimp only at hn hl hS
  exact lv_irem hx hb hd hne (k H locs lsC hW hS hn hl)
theorem g_ineg (X : gX o γ cc nL own) {x : Int32} (hd : decode cc pc = .ok (.ineg, 1)) (k : G o γ cells slots n σ (pc + 1) ls (.int (-x) :: rest)) : G o γ cells slots n σ pc ls (.int x :: rest) := by
  obtain ⟨p, l, e, R, s, m, args, below, meth, c, Q⟩ := γ
  obtain ⟨hx, hb, hml, hown, hts, hK, hbase, hlk, hfx⟩ := X
  intro H locs lsC hW hS hn hl
  dsimp only at hn hl hS
  exact lv_ineg hx hb hd (k H locs lsC hW hS hn hl)
theorem g_iushr (X : gX o γ cc nL own) {x y : Int32} (hd : decode cc pc = .ok (.iushr, 1)) (k : G o γ cells slots n σ (pc + 1) ls (.int ((x.toUInt32 >>> (y.toUInt32 &&& Int32.toUInt32 31)).toInt32) :: rest)) : G o γ cells slots n σ pc ls (.int y :: .int x :: rest) := by
  obtain ⟨p, l, e, R, s, m, args, below, meth, c, Q⟩ := γ
  obtain ⟨hx, hb, hml, hown, hts, hK, hbase, hlk, hfx⟩ := X
  intro H locs lsC hW hS hn hl
  dsimp only at hn hl hS
  exact lv_iushr hx hb hd rfl (k H locs lsC hW hS hn hl)
theorem g_ladd (X : gX o γ cc nL own) {x y : Int64} (hd : decode cc pc = .ok (.ladd, 1)) (k : G o γ cells slots n σ (pc + 1) ls (.long (x + y) :: rest)) : G o γ cells slots n σ pc ls (.long y :: .long x :: rest) := by
  obtain ⟨p, l, e, R, s, m, args, below, meth, c, Q⟩ := γ
  obtain ⟨hx, hb, hml, hown, hts, hK, hbase, hlk, hfx⟩ := X
  intro H locs lsC hW hS hn hl
  dsimp only at hn hl hS
  exact lv_ladd hx hb hd (k H locs lsC hW hS hn hl)
theorem g_lsub (X : gX o γ cc nL own) {x y : Int64} (hd : decode cc pc = .ok (.lsub, 1)) (k : G o γ cells slots n σ (pc + 1) ls (.long (x - y) :: rest)) : G o γ cells slots n σ pc ls (.long y :: .long x :: rest) := by
  obtain ⟨p, l, e, R, s, m, args, below, meth, c, Q⟩ := γ
  obtain ⟨hx, hb, hml, hown, hts, hK, hbase, hlk, hfx⟩ := X
  intro H locs lsC hW hS hn hl
  dsimp only at hn hl hS
  exact lv_lsub hx hb hd (k H locs lsC hW hS hn hl)
theorem g_lmul (X : gX o γ cc nL own) {x y : Int64} (hd : decode cc pc = .ok (.lmul, 1)) (k : G o γ cells slots n σ (pc + 1) ls (.long (x * y) :: rest)) : G o γ cells slots n σ pc ls (.long y :: .long x :: rest) := by
  obtain ⟨p, l, e, R, s, m, args, below, meth, c, Q⟩ := γ
  obtain ⟨hx, hb, hml, hown, hts, hK, hbase, hlk, hfx⟩ := X
  intro H locs lsC hW hS hn hl
  dsimp only at hn hl hS
  exact lv_lmul hx hb hd (k H locs lsC hW hS hn hl)
theorem g_land (X : gX o γ cc nL own) {x y : Int64} (hd : decode cc pc = .ok (.land, 1)) (k : G o γ cells slots n σ (pc + 1) ls (.long (x &&& y) :: rest)) : G o γ cells slots n σ pc ls (.long y :: .long x :: rest) := by
  obtain ⟨p, l, e, R, s, m, args, below, meth, c, Q⟩ := γ
  obtain ⟨hx, hb, hml, hown, hts, hK, hbase, hlk, hfx⟩ := X
  intro H locs lsC hW hS hn hl
  dsimp only at hn hl hS
  exact lv_land hx hb hd (k H locs lsC hW hS hn hl)
theorem g_lor (X : gX o γ cc nL own) {x y : Int64} (hd : decode cc pc = .ok (.lor, 1)) (k : G o γ cells slots n σ (pc + 1) ls (.long (x ||| y) :: rest)) : G o γ cells slots n σ pc ls (.long y :: .long x :: rest) := by
  obtain ⟨p, l, e, R, s, m, args, below, meth, c, Q⟩ := γ
  obtain ⟨hx, hb, hml, hown, hts, hK, hbase, hlk, hfx⟩ := X
  intro H locs lsC hW hS hn hl
  dsimp only at hn hl hS
  exact lv_lor hx hb hd (k H locs lsC hW hS hn hl)
theorem g_lxor (X : gX o γ cc nL own) {x y : Int64} (hd : decode cc pc = .ok (.lxor, 1)) (k : G o γ cells slots n σ (pc + 1) ls (.long (x ^^^ y) :: rest)) : G o γ cells slots n σ pc ls (.long y :: .long x :: rest) := by
  obtain ⟨p, l, e, R, s, m, args, below, meth, c, Q⟩ := γ
  obtain ⟨hx, hb, hml, hown, hts, hK, hbase, hlk, hfx⟩ := X
  intro H locs lsC hW hS hn hl
  dsimp only at hn hl hS
  exact lv_lxor hx hb hd (k H locs lsC hW hS hn hl)
theorem g_lneg (X : gX o γ cc nL own) {x : Int64} (hd : decode cc pc = .ok (.lneg, 1)) (k : G o γ cells slots n σ (pc + 1) ls (.long (-x) :: rest)) : G o γ cells slots n σ pc ls (.long x :: rest) := by
  obtain ⟨p, l, e, R, s, m, args, below, meth, c, Q⟩ := γ
  obtain ⟨hx, hb, hml, hown, hts, hK, hbase, hlk, hfx⟩ := X
  intro H locs lsC hW hS hn hl
  dsimp only at hn hl hS
  exact lv_lneg hx hb hd (k H locs lsC hW hS hn hl)
theorem g_lshl (X : gX o γ cc nL own) {x : Int64} {y : Int32} (hd : decode cc pc = .ok (.lshl, 1)) (k : G o γ cells slots n σ (pc + 1) ls (.long (x <<< (y.toInt64 &&& 63)) :: rest)) : G o γ cells slots n σ pc ls (.int y :: .long x :: rest) := by
  obtain ⟨p, l, e, R, s, m, args, below, meth, c, Q⟩ := γ
  obtain ⟨hx, hb, hml, hown, hts, hK, hbase, hlk, hfx⟩ := X
  intro H locs lsC hW hS hn hl
  dsimp only at hn hl hS
  exact lv_lshl hx hb hd rfl (k H locs lsC hW hS hn hl)
theorem g_lshr (X : gX o γ cc nL own) {x : Int64} {y : Int32} (hd : decode cc pc = .ok (.lshr, 1)) (k : G o γ cells slots n σ (pc + 1) ls (.long (x >>> (y.toInt64 &&& 63)) :: rest)) : G o γ cells slots n σ pc ls (.int y :: .long x :: rest) := by
  obtain ⟨p, l, e, R, s, m, args, below, meth, c, Q⟩ := γ
  obtain ⟨hx, hb, hml, hown, hts, hK, hbase, hlk, hfx⟩ := X
  intro H locs lsC hW hS hn hl
  dsimp only at hn hl hS
  exact lv_lshr hx hb hd rfl (k H locs lsC hW hS hn hl)
theorem g_lushr (X : gX o γ cc nL own) {x : Int64} {y : Int32} {v : Int64} (hd : decode cc pc = .ok (.lushr, 1)) (hv : (x.toUInt64 >>> (y.toInt64.toUInt64 &&& 63)).toInt64 = v) (k : G o γ cells slots n σ (pc + 1) ls (.long v :: rest)) : G o γ cells slots n σ pc ls (.int y :: .long x :: rest) := by
  obtain ⟨p, l, e, R, s, m, args, below, meth, c, Q⟩ := γ
  obtain ⟨hx, hb, hml, hown, hts, hK, hbase, hlk, hfx⟩ := X
  intro H locs lsC hW hS hn hl
  dsimp only at hn hl hS
  exact lv_lushr hx hb hd hv (k H locs lsC hW hS hn hl)
theorem g_i2l (X : gX o γ cc nL own) {x : Int32} (hd : decode cc pc = .ok (.i2l, 1)) (k : G o γ cells slots n σ (pc + 1) ls (.long x.toInt64 :: rest)) : G o γ cells slots n σ pc ls (.int x :: rest) := by
  obtain ⟨p, l, e, R, s, m, args, below, meth, c, Q⟩ := γ
  obtain ⟨hx, hb, hml, hown, hts, hK, hbase, hlk, hfx⟩ := X
  intro H locs lsC hW hS hn hl
  dsimp only at hn hl hS
  exact lv_i2l hx hb hd rfl (k H locs lsC hW hS hn hl)
theorem g_l2i (X : gX o γ cc nL own) {x : Int64} (hd : decode cc pc = .ok (.l2i, 1)) (k : G o γ cells slots n σ (pc + 1) ls (.int x.toInt32 :: rest)) : G o γ cells slots n σ pc ls (.long x :: rest) := by
  obtain ⟨p, l, e, R, s, m, args, below, meth, c, Q⟩ := γ
  obtain ⟨hx, hb, hml, hown, hts, hK, hbase, hlk, hfx⟩ := X
  intro H locs lsC hW hS hn hl
  dsimp only at hn hl hS
  exact lv_l2i hx hb hd rfl (k H locs lsC hW hS hn hl)
theorem g_dup (X : gX o γ cc nL own) {v : Value} (hd : decode cc pc = .ok (.dup, 1)) (hc : v.category = 1) (k : G o γ cells slots n σ (pc + 1) ls (v :: v :: rest)) : G o γ cells slots n σ pc ls (v :: rest) := by
  obtain ⟨p, l, e, R, s, m, args, below, meth, c, Q⟩ := γ
  obtain ⟨hx, hb, hml, hown, hts, hK, hbase, hlk, hfx⟩ := X
  intro H locs lsC hW hS hn hl
  dsimp only at hn hl hS
  exact lv_dup hx hb hd hc (k H locs lsC hW hS hn hl)
theorem g_pop (X : gX o γ cc nL own) {v : Value} (hd : decode cc pc = .ok (.pop, 1)) (hc : v.category = 1) (k : G o γ cells slots n σ (pc + 1) ls (rest)) : G o γ cells slots n σ pc ls (v :: rest) := by
  obtain ⟨p, l, e, R, s, m, args, below, meth, c, Q⟩ := γ
  obtain ⟨hx, hb, hml, hown, hts, hK, hbase, hlk, hfx⟩ := X
  intro H locs lsC hW hS hn hl
  dsimp only at hn hl hS
  exact lv_pop hx hb hd hc (k H locs lsC hW hS hn hl)
theorem g_goto (X : gX o γ cc nL own) {off : Int} {tgt : Nat} (hd : decode cc pc = .ok (.goto off, 3)) (ht : (pc : Int) + off = (tgt : Int)) (k : G o γ cells slots n σ (tgt) ls (rest)) : G o γ cells slots n σ pc ls (rest) := by
  obtain ⟨p, l, e, R, s, m, args, below, meth, c, Q⟩ := γ
  obtain ⟨hx, hb, hml, hown, hts, hK, hbase, hlk, hfx⟩ := X
  intro H locs lsC hW hS hn hl
  dsimp only at hn hl hS
  exact lv_goto hx hb hd ht (k H locs lsC hW hS hn hl)
theorem g_dup2 (X : gX o γ cc nL own) {v u : Value} (hd : decode cc pc = .ok (.dup2, 1)) (hc : v.category = 1) (hc2 : u.category = 1) (k : G o γ cells slots n σ (pc + 1) ls (v :: u :: v :: u :: rest)) : G o γ cells slots n σ pc ls (v :: u :: rest) := by
  obtain ⟨p, l, e, R, s, m, args, below, meth, c, Q⟩ := γ
  obtain ⟨hx, hb, hml, hown, hts, hK, hbase, hlk, hfx⟩ := X
  intro H locs lsC hW hS hn hl
  dsimp only at hn hl hS
  exact lv_dup2_11 hx hb hd hc hc2 (k H locs lsC hW hS hn hl)
theorem g_dup2L (X : gX o γ cc nL own) {v : Value} (hd : decode cc pc = .ok (.dup2, 1)) (hc : v.category = 2) (k : G o γ cells slots n σ (pc + 1) ls (v :: v :: rest)) : G o γ cells slots n σ pc ls (v :: rest) := by
  obtain ⟨p, l, e, R, s, m, args, below, meth, c, Q⟩ := γ
  obtain ⟨hx, hb, hml, hown, hts, hK, hbase, hlk, hfx⟩ := X
  intro H locs lsC hW hS hn hl
  dsimp only at hn hl hS
  exact lv_dup2_2 hx hb hd hc (k H locs lsC hW hS hn hl)
theorem g_lcmp (X : gX o γ cc nL own) {x y : Int64} (hd : decode cc pc = .ok (.lcmp, 1)) (k : G o γ cells slots n σ (pc + 1) ls (.int (lg_cmp x y) :: rest)) : G o γ cells slots n σ pc ls (.long y :: .long x :: rest) := by
  obtain ⟨p, l, e, R, s, m, args, below, meth, c, Q⟩ := γ
  obtain ⟨hx, hb, hml, hown, hts, hK, hbase, hlk, hfx⟩ := X
  intro H locs lsC hW hS hn hl
  dsimp only at hn hl hS
  exact W.lcmp hx hb hd (k H locs lsC hW hS hn hl)
theorem g_if_eq (X : gX o γ cc nL own) {x : Int32} {off : Int} {tgt : Nat} (hd : decode cc pc = .ok (.ifCond .eq off, 3)) (ht : (pc : Int) + off = (tgt : Int)) (kt : x = 0 → G o γ cells slots n σ tgt ls rest) (kf : ¬ (x = 0) → G o γ cells slots n σ (pc + 3) ls rest) : G o γ cells slots n σ pc ls (.int x :: rest) := by
  obtain ⟨p, l, e, R, s, m, args, below, meth, c, Q⟩ := γ
  obtain ⟨hx, hb, hml, hown, hts, hK, hbase, hlk, hfx⟩ := X
  intro H locs lsC hW hS hn hl
  dsimp only at hn hl hS
  exact lv_if_eq hx hb hd ht (fun h => kt h H locs lsC hW hS hn hl) (fun h => kf h H locs lsC hW hS hn hl)
theorem g_icmp_eq (X : gX o γ cc nL own) {x y : Int32} {off : Int} {tgt : Nat} (hd : decode cc pc = .ok (.if_icmp .eq off, 3)) (ht : (pc : Int) + off = (tgt : Int)) (kt : x = y → G o γ cells slots n σ tgt ls rest) (kf : ¬ (x = y) → G o γ cells slots n σ (pc + 3) ls rest) : G o γ cells slots n σ pc ls (.int y :: .int x :: rest) := by
  obtain ⟨p, l, e, R, s, m, args, below, meth, c, Q⟩ := γ
  obtain ⟨hx, hb, hml, hown, hts, hK, hbase, hlk, hfx⟩ := X
  intro H locs lsC hW hS hn hl
  dsimp only at hn hl hS
  exact lv_icmp_eq hx hb hd ht (fun h => kt h H locs lsC hW hS hn hl) (fun h => kf h H locs lsC hW hS hn hl)
theorem g_if_ne (X : gX o γ cc nL own) {x : Int32} {off : Int} {tgt : Nat} (hd : decode cc pc = .ok (.ifCond .ne off, 3)) (ht : (pc : Int) + off = (tgt : Int)) (kt : ¬ x = 0 → G o γ cells slots n σ tgt ls rest) (kf : x = 0 → G o γ cells slots n σ (pc + 3) ls rest) : G o γ cells slots n σ pc ls (.int x :: rest) := by
  obtain ⟨p, l, e, R, s, m, args, below, meth, c, Q⟩ := γ
  obtain ⟨hx, hb, hml, hown, hts, hK, hbase, hlk, hfx⟩ := X
  intro H locs lsC hW hS hn hl
  dsimp only at hn hl hS
  exact lv_if_ne hx hb hd ht (fun h => kt h H locs lsC hW hS hn hl) (fun h => kf h H locs lsC hW hS hn hl)
theorem g_icmp_ne (X : gX o γ cc nL own) {x y : Int32} {off : Int} {tgt : Nat} (hd : decode cc pc = .ok (.if_icmp .ne off, 3)) (ht : (pc : Int) + off = (tgt : Int)) (kt : ¬ x = y → G o γ cells slots n σ tgt ls rest) (kf : x = y → G o γ cells slots n σ (pc + 3) ls rest) : G o γ cells slots n σ pc ls (.int y :: .int x :: rest) := by
  obtain ⟨p, l, e, R, s, m, args, below, meth, c, Q⟩ := γ
  obtain ⟨hx, hb, hml, hown, hts, hK, hbase, hlk, hfx⟩ := X
  intro H locs lsC hW hS hn hl
  dsimp only at hn hl hS
  exact lv_icmp_ne hx hb hd ht (fun h => kt h H locs lsC hW hS hn hl) (fun h => kf h H locs lsC hW hS hn hl)
theorem g_if_lt (X : gX o γ cc nL own) {x : Int32} {off : Int} {tgt : Nat} (hd : decode cc pc = .ok (.ifCond .lt off, 3)) (ht : (pc : Int) + off = (tgt : Int)) (kt : x < 0 → G o γ cells slots n σ tgt ls rest) (kf : ¬ (x < 0) → G o γ cells slots n σ (pc + 3) ls rest) : G o γ cells slots n σ pc ls (.int x :: rest) := by
  obtain ⟨p, l, e, R, s, m, args, below, meth, c, Q⟩ := γ
  obtain ⟨hx, hb, hml, hown, hts, hK, hbase, hlk, hfx⟩ := X
  intro H locs lsC hW hS hn hl
  dsimp only at hn hl hS
  exact lv_if_lt hx hb hd ht (fun h => kt h H locs lsC hW hS hn hl) (fun h => kf h H locs lsC hW hS hn hl)
theorem g_icmp_lt (X : gX o γ cc nL own) {x y : Int32} {off : Int} {tgt : Nat} (hd : decode cc pc = .ok (.if_icmp .lt off, 3)) (ht : (pc : Int) + off = (tgt : Int)) (kt : x < y → G o γ cells slots n σ tgt ls rest) (kf : ¬ (x < y) → G o γ cells slots n σ (pc + 3) ls rest) : G o γ cells slots n σ pc ls (.int y :: .int x :: rest) := by
  obtain ⟨p, l, e, R, s, m, args, below, meth, c, Q⟩ := γ
  obtain ⟨hx, hb, hml, hown, hts, hK, hbase, hlk, hfx⟩ := X
  intro H locs lsC hW hS hn hl
  dsimp only at hn hl hS
  exact lv_icmp_lt hx hb hd ht (fun h => kt h H locs lsC hW hS hn hl) (fun h => kf h H locs lsC hW hS hn hl)
theorem g_if_ge (X : gX o γ cc nL own) {x : Int32} {off : Int} {tgt : Nat} (hd : decode cc pc = .ok (.ifCond .ge off, 3)) (ht : (pc : Int) + off = (tgt : Int)) (kt : 0 ≤ x → G o γ cells slots n σ tgt ls rest) (kf : ¬ (0 ≤ x) → G o γ cells slots n σ (pc + 3) ls rest) : G o γ cells slots n σ pc ls (.int x :: rest) := by
  obtain ⟨p, l, e, R, s, m, args, below, meth, c, Q⟩ := γ
  obtain ⟨hx, hb, hml, hown, hts, hK, hbase, hlk, hfx⟩ := X
  intro H locs lsC hW hS hn hl
  dsimp only at hn hl hS
  exact lv_if_ge hx hb hd ht (fun h => kt h H locs lsC hW hS hn hl) (fun h => kf h H locs lsC hW hS hn hl)
theorem g_icmp_ge (X : gX o γ cc nL own) {x y : Int32} {off : Int} {tgt : Nat} (hd : decode cc pc = .ok (.if_icmp .ge off, 3)) (ht : (pc : Int) + off = (tgt : Int)) (kt : y ≤ x → G o γ cells slots n σ tgt ls rest) (kf : ¬ (y ≤ x) → G o γ cells slots n σ (pc + 3) ls rest) : G o γ cells slots n σ pc ls (.int y :: .int x :: rest) := by
  obtain ⟨p, l, e, R, s, m, args, below, meth, c, Q⟩ := γ
  obtain ⟨hx, hb, hml, hown, hts, hK, hbase, hlk, hfx⟩ := X
  intro H locs lsC hW hS hn hl
  dsimp only at hn hl hS
  exact lv_icmp_ge hx hb hd ht (fun h => kt h H locs lsC hW hS hn hl) (fun h => kf h H locs lsC hW hS hn hl)
theorem g_if_gt (X : gX o γ cc nL own) {x : Int32} {off : Int} {tgt : Nat} (hd : decode cc pc = .ok (.ifCond .gt off, 3)) (ht : (pc : Int) + off = (tgt : Int)) (kt : 0 < x → G o γ cells slots n σ tgt ls rest) (kf : ¬ (0 < x) → G o γ cells slots n σ (pc + 3) ls rest) : G o γ cells slots n σ pc ls (.int x :: rest) := by
  obtain ⟨p, l, e, R, s, m, args, below, meth, c, Q⟩ := γ
  obtain ⟨hx, hb, hml, hown, hts, hK, hbase, hlk, hfx⟩ := X
  intro H locs lsC hW hS hn hl
  dsimp only at hn hl hS
  exact lv_if_gt hx hb hd ht (fun h => kt h H locs lsC hW hS hn hl) (fun h => kf h H locs lsC hW hS hn hl)
theorem g_icmp_gt (X : gX o γ cc nL own) {x y : Int32} {off : Int} {tgt : Nat} (hd : decode cc pc = .ok (.if_icmp .gt off, 3)) (ht : (pc : Int) + off = (tgt : Int)) (kt : y < x → G o γ cells slots n σ tgt ls rest) (kf : ¬ (y < x) → G o γ cells slots n σ (pc + 3) ls rest) : G o γ cells slots n σ pc ls (.int y :: .int x :: rest) := by
  obtain ⟨p, l, e, R, s, m, args, below, meth, c, Q⟩ := γ
  obtain ⟨hx, hb, hml, hown, hts, hK, hbase, hlk, hfx⟩ := X
  intro H locs lsC hW hS hn hl
  dsimp only at hn hl hS
  exact lv_icmp_gt hx hb hd ht (fun h => kt h H locs lsC hW hS hn hl) (fun h => kf h H locs lsC hW hS hn hl)
theorem g_if_le (X : gX o γ cc nL own) {x : Int32} {off : Int} {tgt : Nat} (hd : decode cc pc = .ok (.ifCond .le off, 3)) (ht : (pc : Int) + off = (tgt : Int)) (kt : x ≤ 0 → G o γ cells slots n σ tgt ls rest) (kf : ¬ (x ≤ 0) → G o γ cells slots n σ (pc + 3) ls rest) : G o γ cells slots n σ pc ls (.int x :: rest) := by
  obtain ⟨p, l, e, R, s, m, args, below, meth, c, Q⟩ := γ
  obtain ⟨hx, hb, hml, hown, hts, hK, hbase, hlk, hfx⟩ := X
  intro H locs lsC hW hS hn hl
  dsimp only at hn hl hS
  exact lv_if_le hx hb hd ht (fun h => kt h H locs lsC hW hS hn hl) (fun h => kf h H locs lsC hW hS hn hl)
theorem g_icmp_le (X : gX o γ cc nL own) {x y : Int32} {off : Int} {tgt : Nat} (hd : decode cc pc = .ok (.if_icmp .le off, 3)) (ht : (pc : Int) + off = (tgt : Int)) (kt : x ≤ y → G o γ cells slots n σ tgt ls rest) (kf : ¬ (x ≤ y) → G o γ cells slots n σ (pc + 3) ls rest) : G o γ cells slots n σ pc ls (.int y :: .int x :: rest) := by
  obtain ⟨p, l, e, R, s, m, args, below, meth, c, Q⟩ := γ
  obtain ⟨hx, hb, hml, hown, hts, hK, hbase, hlk, hfx⟩ := X
  intro H locs lsC hW hS hn hl
  dsimp only at hn hl hS
  exact lv_icmp_le hx hb hd ht (fun h => kt h H locs lsC hW hS hn hl) (fun h => kf h H locs lsC hW hS hn hl)
theorem g_tableIn (X : gX o γ cc nL own) {dflt lo hi : Int} {offs : Array Int} {len : Nat} {x : Int32} {off : Int} {tgt : Nat} (hd : decode cc pc = .ok (.tableswitch dflt lo hi offs, len)) (h1 : ¬ x.toInt < lo) (h2 : ¬ hi < x.toInt) (ho : offs[(x.toInt - lo).toNat]? = some off) (ht : (pc : Int) + off = (tgt : Int)) (k : G o γ cells slots n σ tgt ls rest) : G o γ cells slots n σ pc ls (.int x :: rest) := by
  obtain ⟨p, l, e, R, s, m, args, below, meth, c, Q⟩ := γ
  obtain ⟨hx, hb, hml, hown, hts, hK, hbase, hlk, hfx⟩ := X
  intro H locs lsC hW hS hn hl
  dsimp only at hn hl hS
  exact lv_tableIn hx hb hd h1 h2 ho ht (k H locs lsC hW hS hn hl)
theorem g_tableOut (X : gX o γ cc nL own) {dflt lo hi : Int} {offs : Array Int} {len : Nat} {x : Int32} {tgt : Nat} (hd : decode cc pc = .ok (.tableswitch dflt lo hi offs, len)) (h : x.toInt < lo ∨ hi < x.toInt) (ht : (pc : Int) + dflt = (tgt : Int)) (k : G o γ cells slots n σ tgt ls rest) : G o γ cells slots n σ pc ls (.int x :: rest) := by
  obtain ⟨p, l, e, R, s, m, args, below, meth, c, Q⟩ := γ
  obtain ⟨hx, hb, hml, hown, hts, hK, hbase, hlk, hfx⟩ := X
  intro H locs lsC hW hS hn hl
  dsimp only at hn hl hS
  exact lv_tableOut hx hb hd h ht (k H locs lsC hW hS hn hl)
theorem g_lookup (X : gX o γ cc nL own) {dflt : Int} {ps : Array (Int × Int)} {len : Nat} {x : Int32} {off : Int} {tgt : Nat} (hd : decode cc pc = .ok (.lookupswitch dflt ps, len)) (hp : (ps.toList.zip (ps.toList.drop 1)).all (fun (a, next) => a.1 < next.1) = true) (ho : Op.lookupswitch.offset ps.toList dflt x.toInt = off) (ht : (pc : Int) + off = (tgt : Int)) (k : G o γ cells slots n σ tgt ls rest) : G o γ cells slots n σ pc ls (.int x :: rest) := by
  obtain ⟨p, l, e, R, s, m, args, below, meth, c, Q⟩ := γ
  obtain ⟨hx, hb, hml, hown, hts, hK, hbase, hlk, hfx⟩ := X
  intro H locs lsC hW hS hn hl
  dsimp only at hn hl hS
  exact lv_lookup hx hb hd hp ho ht (k H locs lsC hW hS hn hl)
theorem g_iload_n (X : gX o γ cc nL own) {i : Nat} {q : Fin 4} {x : Int32} (hd : decode cc pc = .ok (.iload_n q, 1)) (hi : (q : Nat) = i) (hv : ls[i]? = some (some (.int x))) (k : G o γ cells slots n σ (pc + 1) ls (.int x :: rest)) : G o γ cells slots n σ pc ls rest := by
  obtain ⟨p, l, e, R, s, m, args, below, meth, c, Q⟩ := γ
  obtain ⟨hx, hb, hml, hown, hts, hK, hbase, hlk, hfx⟩ := X
  intro H locs lsC hW hS hn hl
  dsimp only at hn hl hS
  exact lv_iload_n hx hb hd hi (hl.2.2 (i, _) (mem_asc.mpr hv)) (k H locs lsC hW hS hn hl)
theorem g_iload (X : gX o γ cc nL own) {i : Nat} {x : Int32} (hd : decode cc pc = .ok (.iload i, 2)) (hv : ls[i]? = some (some (.int x))) (k : G o γ cells slots n σ (pc + 2) ls (.int x :: rest)) : G o γ cells slots n σ pc ls rest := by
  obtain ⟨p, l, e, R, s, m, args, below, meth, c, Q⟩ := γ
  obtain ⟨hx, hb, hml, hown, hts, hK, hbase, hlk, hfx⟩ := X
  intro H locs lsC hW hS hn hl
  dsimp only at hn hl hS
  exact lv_iload hx hb hd (hl.2.2 (i, _) (mem_asc.mpr hv)) (k H locs lsC hW hS hn hl)
theorem g_istore_n (X : gX o γ cc nL own) {i : Nat} {q : Fin 4} {x : Int32} (hd : decode cc pc = .ok (.istore_n q, 1)) (hi : (q : Nat) = i) (hlt : i < nL) (ho : okAt ls i = true) (k : G o γ cells slots n σ (pc + 1) (ls.set i (some (.int x))) rest) : G o γ cells slots n σ pc ls (.int x :: rest) := by
  obtain ⟨p, l, e, R, s, m, args, below, meth, c, Q⟩ := γ
  obtain ⟨hx, hb, hml, hown, hts, hK, hbase, hlk, hfx⟩ := X
  intro H locs lsC hW hS hn hl
  dsimp only at hn hl hS
  exact lv_istore_n hx hb hd hi hl (by rw [hml]; exact hlt) rfl (fun ls1 h1 => k H locs ls1 hW hS (by rw [List.length_set]; exact hn) (lv_has_mono h1 (asc_set1 ho)))
theorem g_istore (X : gX o γ cc nL own) {i : Nat} {x : Int32} (hd : decode cc pc = .ok (.istore i, 2)) (hlt : i < nL) (ho : okAt ls i = true) (k : G o γ cells slots n σ (pc + 2) (ls.set i (some (.int x))) rest) : G o γ cells slots n σ pc ls (.int x :: rest) := by
  obtain ⟨p, l, e, R, s, m, args, below, meth, c, Q⟩ := γ
  obtain ⟨hx, hb, hml, hown, hts, hK, hbase, hlk, hfx⟩ := X
  intro H locs lsC hW hS hn hl
  dsimp only at hn hl hS
  exact lv_istore hx hb hd hl (by rw [hml]; exact hlt) rfl (fun ls1 h1 => k H locs ls1 hW hS (by rw [List.length_set]; exact hn) (lv_has_mono h1 (asc_set1 ho)))
theorem g_lload_n (X : gX o γ cc nL own) {i : Nat} {q : Fin 4} {x : Int64} (hd : decode cc pc = .ok (.lload_n q, 1)) (hi : (q : Nat) = i) (hv : ls[i]? = some (some (.long x))) (k : G o γ cells slots n σ (pc + 1) ls (.long x :: rest)) : G o γ cells slots n σ pc ls rest := by
  obtain ⟨p, l, e, R, s, m, args, below, meth, c, Q⟩ := γ
  obtain ⟨hx, hb, hml, hown, hts, hK, hbase, hlk, hfx⟩ := X
  intro H locs lsC hW hS hn hl
  dsimp only at hn hl hS
  exact lv_lload_n hx hb hd hi (hl.2.2 (i, _) (mem_asc.mpr hv)) (k H locs lsC hW hS hn hl)
theorem g_lload (X : gX o γ cc nL own) {i : Nat} {x : Int64} (hd : decode cc pc = .ok (.lload i, 2)) (hv : ls[i]? = some (some (.long x))) (k : G o γ cells slots n σ (pc + 2) ls (.long x :: rest)) : G o γ cells slots n σ pc ls rest := by
  obtain ⟨p, l, e, R, s, m, args, below, meth, c, Q⟩ := γ
  obtain ⟨hx, hb, hml, hown, hts, hK, hbase, hlk, hfx⟩ := X
  intro H locs lsC hW hS hn hl
  dsimp only at hn hl hS
  exact lv_lload hx hb hd (hl.2.2 (i, _) (mem_asc.mpr hv)) (k H locs lsC hW hS hn hl)
theorem g_lstore_n (X : gX o γ cc nL own) {i : Nat} {q : Fin 4} {x : Int64} (hd : decode cc pc = .ok (.lstore_n q, 1)) (hi : (q : Nat) = i) (hlt : i + 1 < nL) (ho : okAt ls i = true) (k : G o γ cells slots n σ (pc + 1) ((ls.set i (some (.long x))).set (i + 1) none) rest) : G o γ cells slots n σ pc ls (.long x :: rest) := by
  obtain ⟨p, l, e, R, s, m, args, below, meth, c, Q⟩ := γ
  obtain ⟨hx, hb, hml, hown, hts, hK, hbase, hlk, hfx⟩ := X
  intro H locs lsC hW hS hn hl
  dsimp only at hn hl hS
  exact lv_lstore_n hx hb hd hi hl (by rw [hml]; exact hlt) rfl (fun ls1 h1 => k H locs ls1 hW hS (by rw [List.length_set, List.length_set]; exact hn) (lv_has_mono h1 (asc_set2 ho)))
theorem g_lstore (X : gX o γ cc nL own) {i : Nat} {x : Int64} (hd : decode cc pc = .ok (.lstore i, 2)) (hlt : i + 1 < nL) (ho : okAt ls i = true) (k : G o γ cells slots n σ (pc + 2) ((ls.set i (some (.long x))).set (i + 1) none) rest) : G o γ cells slots n σ pc ls (.long x :: rest) := by
  obtain ⟨p, l, e, R, s, m, args, below, meth, c, Q⟩ := γ
  obtain ⟨hx, hb, hml, hown, hts, hK, hbase, hlk, hfx⟩ := X
  intro H locs lsC hW hS hn hl
  dsimp only at hn hl hS
  exact lv_lstore hx hb hd hl (by rw [hml]; exact hlt) rfl (fun ls1 h1 => k H locs ls1 hW hS (by rw [List.length_set, List.length_set]; exact hn) (lv_has_mono h1 (asc_set2 ho)))
theorem g_aload_n (X : gX o γ cc nL own) {i : Nat} {q : Fin 4} {x : Nat} (hd : decode cc pc = .ok (.aload_n q, 1)) (hi : (q : Nat) = i) (hv : ls[i]? = some (some (.ref x))) (k : G o γ cells slots n σ (pc + 1) ls (.ref x :: rest)) : G o γ cells slots n σ pc ls rest := by
  obtain ⟨p, l, e, R, s, m, args, below, meth, c, Q⟩ := γ
  obtain ⟨hx, hb, hml, hown, hts, hK, hbase, hlk, hfx⟩ := X
  intro H locs lsC hW hS hn hl
  dsimp only at hn hl hS
  exact lv_aload_n hx hb hd hi (hl.2.2 (i, _) (mem_asc.mpr hv)) (k H locs lsC hW hS hn hl)
theorem g_aload (X : gX o γ cc nL own) {i : Nat} {x : Nat} (hd : decode cc pc = .ok (.aload i, 2)) (hv : ls[i]? = some (some (.ref x))) (k : G o γ cells slots n σ (pc + 2) ls (.ref x :: rest)) : G o γ cells slots n σ pc ls rest := by
  obtain ⟨p, l, e, R, s, m, args, below, meth, c, Q⟩ := γ
  obtain ⟨hx, hb, hml, hown, hts, hK, hbase, hlk, hfx⟩ := X
  intro H locs lsC hW hS hn hl
  dsimp only at hn hl hS
  exact lv_aload hx hb hd (hl.2.2 (i, _) (mem_asc.mpr hv)) (k H locs lsC hW hS hn hl)
theorem g_astore_n (X : gX o γ cc nL own) {i : Nat} {q : Fin 4} {x : Nat} (hd : decode cc pc = .ok (.astore_n q, 1)) (hi : (q : Nat) = i) (hlt : i < nL) (ho : okAt ls i = true) (k : G o γ cells slots n σ (pc + 1) (ls.set i (some (.ref x))) rest) : G o γ cells slots n σ pc ls (.ref x :: rest) := by
  obtain ⟨p, l, e, R, s, m, args, below, meth, c, Q⟩ := γ
  obtain ⟨hx, hb, hml, hown, hts, hK, hbase, hlk, hfx⟩ := X
  intro H locs lsC hW hS hn hl
  dsimp only at hn hl hS
  exact lv_astore_n hx hb hd hi hl (by rw [hml]; exact hlt) rfl (fun ls1 h1 => k H locs ls1 hW hS (by rw [List.length_set]; exact hn) (lv_has_mono h1 (asc_set1 ho)))
theorem g_astore (X : gX o γ cc nL own) {i : Nat} {x : Nat} (hd : decode cc pc = .ok (.astore i, 2)) (hlt : i < nL) (ho : okAt ls i = true) (k : G o γ cells slots n σ (pc + 2) (ls.set i (some (.ref x))) rest) : G o γ cells slots n σ pc ls (.ref x :: rest) := by
  obtain ⟨p, l, e, R, s, m, args, below, meth, c, Q⟩ := γ
  obtain ⟨hx, hb, hml, hown, hts, hK, hbase, hlk, hfx⟩ := X
  intro H locs lsC hW hS hn hl
  dsimp only at hn hl hS
  exact lv_astore hx hb hd hl (by rw [hml]; exact hlt) rfl (fun ls1 h1 => k H locs ls1 hW hS (by rw [List.length_set]; exact hn) (lv_has_mono h1 (asc_set1 ho)))
theorem g_iinc (X : gX o γ cc nL own) {i : Nat} {z : Int} {x v : Int32} (hd : decode cc pc = .ok (.iinc i z, 3)) (hv : x + Int32.ofInt z = v) (hx0 : ls[i]? = some (some (.int x))) (hlt : i < nL) (ho : okAt ls i = true) (k : G o γ cells slots n σ (pc + 3) (ls.set i (some (.int v))) rest) : G o γ cells slots n σ pc ls rest := by
  obtain ⟨p, l, e, R, s, m, args, below, meth, c, Q⟩ := γ
  obtain ⟨hx, hb, hml, hown, hts, hK, hbase, hlk, hfx⟩ := X
  intro H locs lsC hW hS hn hl
  dsimp only at hn hl hS
  obtain ⟨j, hj⟩ := List.getElem?_of_mem (mem_asc.mpr (show ls[((i, Value.int x) : Nat × Value).1]? = some (some ((i, Value.int x) : Nat × Value).2) from hx0))
  exact lv_iinc hx hb hd hl hj hv (by rw [hml]; exact hlt) rfl (fun ls1 h1 => k H locs ls1 hW hS (by rw [List.length_set]; exact hn) (lv_has_mono h1 (asc_set1 ho)))
/-- what isn't known of a slot may be left out -/
theorem g_forget {ls' : List (Option Value)} (hlen : ls'.length = ls.length) (h : ∀ (i : Nat) (v : Value), ls'[i]? = some (some v) → ls[i]? = some (some v)) (k : G o γ cells slots n σ pc ls' rest) : G o γ cells slots n σ pc ls rest := by
  intro H locs lsC hW hS hn hl
  exact k H locs lsC hW hS (hlen.trans hn) (lv_has_mono hl (fun q hq => mem_asc.mpr (h q.1 q.2 (mem_asc.mp hq))))
theorem g_iload_0 (X : gX o γ cc nL own) {t : List (Option Value)} {x : Int32} (hd : decode cc pc = .ok (.iload_n 0, 1)) (k : G o γ cells slots n σ (pc + 1) (some (.int x) :: t) (.int x :: rest)) : G o γ cells slots n σ pc (some (.int x) :: t) rest := g_iload_n X (i := 0) hd rfl rfl k
theorem g_istore_0 (X : gX o γ cc nL own) {b : Option Value} {t : List (Option Value)} {x : Int32} (hd : decode cc pc = .ok (.istore_n 0, 1)) (hlt : 0 < nL) (k : G o γ cells slots n σ (pc + 1) (some (.int x) :: t) rest) : G o γ cells slots n σ pc (b :: t) (.int x :: rest) := g_istore_n X (i := 0) hd rfl hlt rfl k
theorem g_lload_0 (X : gX o γ cc nL own) {t : List (Option Value)} {x : Int64} (hd : decode cc pc = .ok (.lload_n 0, 1)) (k : G o γ cells slots n σ (pc + 1) (some (.long x) :: t) (.long x :: rest)) : G o γ cells slots n σ pc (some (.long x) :: t) rest := g_lload_n X (i := 0) hd rfl rfl k
theorem g_lstore_0 (X : gX o γ cc nL own) {b b2 : Option Value} {t : List (Option Value)} {x : Int64} (hd : decode cc pc = .ok (.lstore_n 0, 1)) (hlt : 0 + 1 < nL) (k : G o γ cells slots n σ (pc + 1) (some (.long x) :: none :: t) rest) : G o γ cells slots n σ pc (b :: b2 :: t) (.long x :: rest) := g_lstore_n X (i := 0) hd rfl hlt rfl k
theorem g_aload_0 (X : gX o γ cc nL own) {t : List (Option Value)} {x : Nat} (hd : decode cc pc = .ok (.aload_n 0, 1)) (k : G o γ cells slots n σ (pc + 1) (some (.ref x) :: t) (.ref x :: rest)) : G o γ cells slots n σ pc (some (.ref x) :: t) rest := g_aload_n X (i := 0) hd rfl rfl k
theorem g_astore_0 (X : gX o γ cc nL own) {b : Option Value} {t : List (Option Value)} {x : Nat} (hd : decode cc pc = .ok (.astore_n 0, 1)) (hlt : 0 < nL) (k : G o γ cells slots n σ (pc + 1) (some (.ref x) :: t) rest) : G o γ cells slots n σ pc (b :: t) (.ref x :: rest) := g_astore_n X (i := 0) hd rfl hlt rfl k
theorem g_iinc_0 (X : gX o γ cc nL own) {t : List (Option Value)} {z : Int} {x v : Int32} (hd : decode cc pc = .ok (.iinc 0 z, 3)) (hv : x + Int32.ofInt z = v) (hlt : 0 < nL) (k : G o γ cells slots n σ (pc + 3) (some (.int v) :: t) rest) : G o γ cells slots n σ pc (some (.int x) :: t) rest := g_iinc X (i := 0) hd hv rfl hlt rfl k
theorem g_iload_1 (X : gX o γ cc nL own) {a0 : Option Value} {t : List (Option Value)} {x : Int32} (hd : decode cc pc = .ok (.iload_n 1, 1)) (k : G o γ cells slots n σ (pc + 1) (a0 :: some (.int x) :: t) (.int x :: rest)) : G o γ cells slots n σ pc (a0 :: some (.int x) :: t) rest := g_iload_n X (i := 1) hd rfl rfl k
theorem g_istore_1 (X : gX o γ cc nL own) {a0 : Option Value} {b : Option Value} {t : List (Option Value)} {x : Int32} (hd : decode cc pc = .ok (.istore_n 1, 1)) (hlt : 1 < nL) (ho : okst a0 = true) (k : G o γ cells slots n σ (pc + 1) (a0 :: some (.int x) :: t) rest) : G o γ cells slots n σ pc (a0 :: b :: t) (.int x :: rest) := g_istore_n X (i := 1) hd rfl hlt ho k
theorem g_lload_1 (X : gX o γ cc nL own) {a0 : Option Value} {t : List (Option Value)} {x : Int64} (hd : decode cc pc = .ok (.lload_n 1, 1)) (k : G o γ cells slots n σ (pc + 1) (a0 :: some (.long x) :: t) (.long x :: rest)) : G o γ cells slots n σ pc (a0 :: some (.long x) :: t) rest := g_lload_n X (i := 1) hd rfl rfl k
theorem g_lstore_1 (X : gX o γ cc nL own) {a0 : Option Value} {b b2 : Option Value} {t : List (Option Value)} {x : Int64} (hd : decode cc pc = .ok (.lstore_n 1, 1)) (hlt : 1 + 1 < nL) (ho : okst a0 = true) (k : G o γ cells slots n σ (pc + 1) (a0 :: some (.long x) :: none :: t) rest) : G o γ cells slots n σ pc (a0 :: b :: b2 :: t) (.long x :: rest) := g_lstore_n X (i := 1) hd rfl hlt ho k
theorem g_aload_1 (X : gX o γ cc nL own) {a0 : Option Value} {t : List (Option Value)} {x : Nat} (hd : decode cc pc = .ok (.aload_n 1, 1)) (k : G o γ cells slots n σ (pc + 1) (a0 :: some (.ref x) :: t) (.ref x :: rest)) : G o γ cells slots n σ pc (a0 :: some (.ref x) :: t) rest := g_aload_n X (i := 1) hd rfl rfl k
theorem g_astore_1 (X : gX o γ cc nL own) {a0 : Option Value} {b : Option Value} {t : List (Option Value)} {x : Nat} (hd : decode cc pc = .ok (.astore_n 1, 1)) (hlt : 1 < nL) (ho : okst a0 = true) (k : G o γ cells slots n σ (pc + 1) (a0 :: some (.ref x) :: t) rest) : G o γ cells slots n σ pc (a0 :: b :: t) (.ref x :: rest) := g_astore_n X (i := 1) hd rfl hlt ho k
theorem g_iinc_1 (X : gX o γ cc nL own) {a0 : Option Value} {t : List (Option Value)} {z : Int} {x v : Int32} (hd : decode cc pc = .ok (.iinc 1 z, 3)) (hv : x + Int32.ofInt z = v) (hlt : 1 < nL) (ho : okst a0 = true) (k : G o γ cells slots n σ (pc + 3) (a0 :: some (.int v) :: t) rest) : G o γ cells slots n σ pc (a0 :: some (.int x) :: t) rest := g_iinc X (i := 1) hd hv rfl hlt ho k
theorem g_iload_2 (X : gX o γ cc nL own) {a0 a1 : Option Value} {t : List (Option Value)} {x : Int32} (hd : decode cc pc = .ok (.iload_n 2, 1)) (k : G o γ cells slots n σ (pc + 1) (a0 :: a1 :: some (.int x) :: t) (.int x :: rest)) : G o γ cells slots n σ pc (a0 :: a1 :: some (.int x) :: t) rest := g_iload_n X (i := 2) hd rfl rfl k
theorem g_istore_2 (X : gX o γ cc nL own) {a0 a1 : Option Value} {b : Option Value} {t : List (Option Value)} {x : Int32} (hd : decode cc pc = .ok (.istore_n 2, 1)) (hlt : 2 < nL) (ho : okst a1 = true) (k : G o γ cells slots n σ (pc + 1) (a0 :: a1 :: some (.int x) :: t) rest) : G o γ cells slots n σ pc (a0 :: a1 :: b :: t) (.int x :: rest) := g_istore_n X (i := 2) hd rfl hlt ho k
theorem g_lload_2 (X : gX o γ cc nL own) {a0 a1 : Option Value} {t : List (Option Value)} {x : Int64} (hd : decode cc pc = .ok (.lload_n 2, 1)) (k : G o γ cells slots n σ (pc + 1) (a0 :: a1 :: some (.long x) :: t) (.long x :: rest)) : G o γ cells slots n σ pc (a0 :: a1 :: some (.long x) :: t) rest := g_lload_n X (i := 2) hd rfl rfl k
theorem g_lstore_2 (X : gX o γ cc nL own) {a0 a1 : Option Value} {b b2 : Option Value} {t : List (Option Value)} {x : Int64} (hd : decode cc pc = .ok (.lstore_n 2, 1)) (hlt : 2 + 1 < nL) (ho : okst a1 = true) (k : G o γ cells slots n σ (pc + 1) (a0 :: a1 :: some (.long x) :: none :: t) rest) : G o γ cells slots n σ pc (a0 :: a1 :: b :: b2 :: t) (.long x :: rest) := g_lstore_n X (i := 2) hd rfl hlt ho k
theorem g_aload_2 (X : gX o γ cc nL own) {a0 a1 : Option Value} {t : List (Option Value)} {x : Nat} (hd : decode cc pc = .ok (.aload_n 2, 1)) (k : G o γ cells slots n σ (pc + 1) (a0 :: a1 :: some (.ref x) :: t) (.ref x :: rest)) : G o γ cells slots n σ pc (a0 :: a1 :: some (.ref x) :: t) rest := g_aload_n X (i := 2) hd rfl rfl k
theorem g_astore_2 (X : gX o γ cc nL own) {a0 a1 : Option Value} {b : Option Value} {t : List (Option Value)} {x : Nat} (hd : decode cc pc = .ok (.astore_n 2, 1)) (hlt : 2 < nL) (ho : okst a1 = true) (k : G o γ cells slots n σ (pc + 1) (a0 :: a1 :: some (.ref x) :: t) rest) : G o γ cells slots n σ pc (a0 :: a1 :: b :: t) (.ref x :: rest) := g_astore_n X (i := 2) hd rfl hlt ho k
theorem g_iinc_2 (X : gX o γ cc nL own) {a0 a1 : Option Value} {t : List (Option Value)} {z : Int} {x v : Int32} (hd : decode cc pc = .ok (.iinc 2 z, 3)) (hv : x + Int32.ofInt z = v) (hlt : 2 < nL) (ho : okst a1 = true) (k : G o γ cells slots n σ (pc + 3) (a0 :: a1 :: some (.int v) :: t) rest) : G o γ cells slots n σ pc (a0 :: a1 :: some (.int x) :: t) rest := g_iinc X (i := 2) hd hv rfl hlt ho k
theorem g_iload_3 (X : gX o γ cc nL own) {a0 a1 a2 : Option Value} {t : List (Option Value)} {x : Int32} (hd : decode cc pc = .ok (.iload_n 3, 1)) (k : G o γ cells slots n σ (pc + 1) (a0 :: a1 :: a2 :: some (.int x) :: t) (.int x :: rest)) : G o γ cells slots n σ pc (a0 :: a1 :: a2 :: some (.int x) :: t) rest := g_iload_n X (i := 3) hd rfl rfl k
theorem g_istore_3 (X : gX o γ cc nL own) {a0 a1 a2 : Option Value} {b : Option Value} {t : List (Option Value)} {x : Int32} (hd : decode cc pc = .ok (.istore_n 3, 1)) (hlt : 3 < nL) (ho : okst a2 = true) (k : G o γ cells slots n σ (pc + 1) (a0 :: a1 :: a2 :: some (.int x) :: t) rest) : G o γ cells slots n σ pc (a0 :: a1 :: a2 :: b :: t) (.int x :: rest) := g_istore_n X (i := 3) hd rfl hlt ho k
theorem g_lload_3 (X : gX o γ cc nL own) {a0 a1 a2 : Option Value} {t : List (Option Value)} {x : Int64} (hd : decode cc pc = .ok (.lload_n 3, 1)) (k : G o γ cells slots n σ (pc + 1) (a0 :: a1 :: a2 :: some (.long x) :: t) (.long x :: rest)) : G o γ cells slots n σ pc (a0 :: a1 :: a2 :: some (.long x) :: t) rest := g_lload_n X (i := 3) hd rfl rfl k
theorem g_lstore_3 (X : gX o γ cc nL own) {a0 a1 a2 : Option Value} {b b2 : Option Value} {t : List (Option Value)} {x : Int64} (hd : decode cc pc = .ok (.lstore_n 3, 1)) (hlt : 3 + 1 < nL) (ho : okst a2 = true) (k : G o γ cells slots n σ (pc + 1) (a0 :: a1 :: a2 :: some (.long x) :: none :: t) rest) : G o γ cells slots n σ pc (a0 :: a1 :: a2 :: b :: b2 :: t) (.long x :: rest) := g_lstore_n X (i := 3) hd rfl hlt ho k
theorem g_aload_3 (X : gX o γ cc nL own) {a0 a1 a2 : Option Value} {t : List (Option Value)} {x : Nat} (hd : decode cc pc = .ok (.aload_n 3, 1)) (k : G o γ cells slots n σ (pc + 1) (a0 :: a1 :: a2 :: some (.ref x) :: t) (.ref x :: rest)) : G o γ cells slots n σ pc (a0 :: a1 :: a2 :: some (.ref x) :: t) rest := g_aload_n X (i := 3) hd rfl rfl k
theorem g_astore_3 (X : gX o γ cc nL own) {a0 a1 a2 : Option Value} {b : Option Value} {t : List (Option Value)} {x : Nat} (hd : decode cc pc = .ok (.astore_n 3, 1)) (hlt : 3 < nL) (ho : okst a2 = true) (k : G o γ cells slots n σ (pc + 1) (a0 :: a1 :: a2 :: some (.ref x) :: t) rest) : G o γ cells slots n σ pc (a0 :: a1 :: a2 :: b :: t) (.ref x :: rest) := g_astore_n X (i := 3) hd rfl hlt ho k
theorem g_iinc_3 (X : gX o γ cc nL own) {a0 a1 a2 : Option Value} {t : List (Option Value)} {z : Int} {x v : Int32} (hd : decode cc pc = .ok (.iinc 3 z, 3)) (hv : x + Int32.ofInt z = v) (hlt : 3 < nL) (ho : okst a2 = true) (k : G o γ cells slots n σ (pc + 3) (a0 :: a1 :: a2 :: some (.int v) :: t) rest) : G o γ cells slots n σ pc (a0 :: a1 :: a2 :: some (.int x) :: t) rest := g_iinc X (i := 3) hd hv rfl hlt ho k
theorem g_iload_4 (X : gX o γ cc nL own) {a0 a1 a2 a3 : Option Value} {t : List (Option Value)} {x : Int32} (hd : decode cc pc = .ok (.iload 4, 2)) (k : G o γ cells slots n σ (pc + 2) (a0 :: a1 :: a2 :: a3 :: some (.int x) :: t) (.int x :: rest)) : G o γ cells slots n σ pc (a0 :: a1 :: a2 :: a3 :: some (.int x) :: t) rest := g_iload X (i := 4) hd rfl k
theorem g_istore_4 (X : gX o γ cc nL own) {a0 a1 a2 a3 : Option Value} {b : Option Value} {t : List (Option Value)} {x : Int32} (hd : decode cc pc = .ok (.istore 4, 2)) (hlt : 4 < nL) (ho : okst a3 = true) (k : G o γ cells slots n σ (pc + 2) (a0 :: a1 :: a2 :: a3 :: some (.int x) :: t) rest) : G o γ cells slots n σ pc (a0 :: a1 :: a2 :: a3 :: b :: t) (.int x :: rest) := g_istore X (i := 4) hd hlt ho k
theorem g_lload_4 (X : gX o γ cc nL own) {a0 a1 a2 a3 : Option Value} {t : List (Option Value)} {x : Int64} (hd : decode cc pc = .ok (.lload 4, 2)) (k : G o γ cells slots n σ (pc + 2) (a0 :: a1 :: a2 :: a3 :: some (.long x) :: t) (.long x :: rest)) : G o γ cells slots n σ pc (a0 :: a1 :: a2 :: a3 :: some (.long x) :: t) rest := g_lload X (i := 4) hd rfl k
theorem g_lstore_4 (X : gX o γ cc nL own) {a0 a1 a2 a3 : Option Value} {b b2 : Option Value} {t : List (Option Value)} {x : Int64} (hd : decode cc pc = .ok (.lstore 4, 2)) (hlt : 4 + 1 < nL) (ho : okst a3 = true) (k : G o γ cells slots n σ (pc + 2) (a0 :: a1 :: a2 :: a3 :: some (.long x) :: none :: t) rest) : G o γ cells slots n σ pc (a0 :: a1 :: a2 :: a3 :: b :: b2 :: t) (.long x :: rest) := g_lstore X (i := 4) hd hlt ho k
theorem g_aload_4 (X : gX o γ cc nL own) {a0 a1 a2 a3 : Option Value} {t : List (Option Value)} {x : Nat} (hd : decode cc pc = .ok (.aload 4, 2)) (k : G o γ cells slots n σ (pc + 2) (a0 :: a1 :: a2 :: a3 :: some (.ref x) :: t) (.ref x :: rest)) : G o γ cells slots n σ pc (a0 :: a1 :: a2 :: a3 :: some (.ref x) :: t) rest := g_aload X (i := 4) hd rfl k
theorem g_astore_4 (X : gX o γ cc nL own) {a0 a1 a2 a3 : Option Value} {b : Option Value} {t : List (Option Value)} {x : Nat} (hd : decode cc pc = .ok (.astore 4, 2)) (hlt : 4 < nL) (ho : okst a3 = true) (k : G o γ cells slots n σ (pc + 2) (a0 :: a1 :: a2 :: a3 :: some (.ref x) :: t) rest) : G o γ cells slots n σ pc (a0 :: a1 :: a2 :: a3 :: b :: t) (.ref x :: rest) := g_astore X (i := 4) hd hlt ho k
theorem g_iinc_4 (X : gX o γ cc nL own) {a0 a1 a2 a3 : Option Value} {t : List (Option Value)} {z : Int} {x v : Int32} (hd : decode cc pc = .ok (.iinc 4 z, 3)) (hv : x + Int32.ofInt z = v) (hlt : 4 < nL) (ho : okst a3 = true) (k : G o γ cells slots n σ (pc + 3) (a0 :: a1 :: a2 :: a3 :: some (.int v) :: t) rest) : G o γ cells slots n σ pc (a0 :: a1 :: a2 :: a3 :: some (.int x) :: t) rest := g_iinc X (i := 4) hd hv rfl hlt ho k
theorem g_iload_5 (X : gX o γ cc nL own) {a0 a1 a2 a3 a4 : Option Value} {t : List (Option Value)} {x : Int32} (hd : decode cc pc = .ok (.iload 5, 2)) (k : G o γ cells slots n σ (pc + 2) (a0 :: a1 :: a2 :: a3 :: a4 :: some (.int x) :: t) (.int x :: rest)) : G o γ cells slots n σ pc (a0 :: a1 :: a2 :: a3 :: a4 :: some (.int x) :: t) rest := g_iload X (i := 5) hd rfl k
theorem g_istore_5 (X : gX o γ cc nL own) {a0 a1 a2 a3 a4 : Option Value} {b : Option Value} {t : List (Option Value)} {x : Int32} (hd : decode cc pc = .ok (.istore 5, 2)) (hlt : 5 < nL) (ho : okst a4 = true) (k : G o γ cells slots n σ (pc + 2) (a0 :: a1 :: a2 :: a3 :: a4 :: some (.int x) :: t) rest) : G o γ cells slots n σ pc (a0 :: a1 :: a2 :: a3 :: a4 :: b :: t) (.int x :: rest) := g_istore X (i := 5) hd hlt ho k
theorem g_lload_5 (X : gX o γ cc nL own) {a0 a1 a2 a3 a4 : Option Value} {t : List (Option Value)} {x : Int64} (hd : decode cc pc = .ok (.lload 5, 2)) (k : G o γ cells slots n σ (pc + 2) (a0 :: a1 :: a2 :: a3 :: a4 :: some (.long x) :: t) (.long x :: rest)) : G o γ cells slots n σ pc (a0 :: a1 :: a2 :: a3 :: a4 :: some (.long x) :: t) rest := g_lload X (i := 5) hd rfl k
theorem g_lstore_5 (X : gX o γ cc nL own) {a0 a1 a2 a3 a4 : Option Value} {b b2 : Option Value} {t : List (Option Value)} {x : Int64} (hd : decode cc pc = .ok (.lstore 5, 2)) (hlt : 5 + 1 < nL) (ho : okst a4 = true) (k : G o γ cells slots n σ (pc + 2) (a0 :: a1 :: a2 :: a3 :: a4 :: some (.long x) :: none :: t) rest) : G o γ cells slots n σ pc (a0 :: a1 :: a2 :: a3 :: a4 :: b :: b2 :: t) (.long x :: rest) := g_lstore X (i := 5) hd hlt ho k
theorem g_aload_5 (X : gX o γ cc nL own) {a0 a1 a2 a3 a4 : Option Value} {t : List (Option Value)} {x : Nat} (hd : decode cc pc = .ok (.aload 5, 2)) (k : G o γ cells slots n σ (pc + 2) (a0 :: a1 :: a2 :: a3 :: a4 :: some (.ref x) :: t) (.ref x :: rest)) : G o γ cells slots n σ pc (a0 :: a1 :: a2 :: a3 :: a4 :: some (.ref x) :: t) rest := g_aload X (i := 5) hd rfl k
theorem g_astore_5 (X : gX o γ cc nL own) {a0 a1 a2 a3 a4 : Option Value} {b : Option Value} {t : List (Option Value)} {x : Nat} (hd : decode cc pc = .ok (.astore 5, 2)) (hlt : 5 < nL) (ho : okst a4 = true) (k : G o γ cells slots n σ (pc + 2) (a0 :: a1 :: a2 :: a3 :: a4 :: some (.ref x) :: t) rest) : G o γ cells slots n σ pc (a0 :: a1 :: a2 :: a3 :: a4 :: b :: t) (.ref x :: rest) := g_astore X (i := 5) hd hlt ho k
theorem g_iinc_5 (X : gX o γ cc nL own) {a0 a1 a2 a3 a4 : Option Value} {t : List (Option Value)} {z : Int} {x v : Int32} (hd : decode cc pc = .ok (.iinc 5 z, 3)) (hv : x + Int32.ofInt z = v) (hlt : 5 < nL) (ho : okst a4 = true) (k : G o γ cells slots n σ (pc + 3) (a0 :: a1 :: a2 :: a3 :: a4 :: some (.int v) :: t) rest) : G o γ cells slots n σ pc (a0 :: a1 :: a2 :: a3 :: a4 :: some (.int x) :: t) rest := g_iinc X (i := 5) hd hv rfl hlt ho k
theorem g_iload_6 (X : gX o γ cc nL own) {a0 a1 a2 a3 a4 a5 : Option Value} {t : List (Option Value)} {x : Int32} (hd : decode cc pc = .ok (.iload 6, 2)) (k : G o γ cells slots n σ (pc + 2) (a0 :: a1 :: a2 :: a3 :: a4 :: a5 :: some (.int x) :: t) (.int x :: rest)) : G o γ cells slots n σ pc (a0 :: a1 :: a2 :: a3 :: a4 :: a5 :: some (.int x) :: t) rest := g_iload X (i := 6) hd rfl k
theorem g_istore_6 (X : gX o γ cc nL own) {a0 a1 a2 a3 a4 a5 : Option Value} {b : Option Value} {t : List (Option Value)} {x : Int32} (hd : decode cc pc = .ok (.istore 6, 2)) (hlt : 6 < nL) (ho : okst a5 = true) (k : G o γ cells slots n σ (pc + 2) (a0 :: a1 :: a2 :: a3 :: a4 :: a5 :: some (.int x) :: t) rest) : G o γ cells slots n σ pc (a0 :: a1 :: a2 :: a3 :: a4 :: a5 :: b :: t) (.int x :: rest) := g_istore X (i := 6) hd hlt ho k
theorem g_lload_6 (X : gX o γ cc nL own) {a0 a1 a2 a3 a4 a5 : Option Value} {t : List (Option Value)} {x : Int64} (hd : decode cc pc = .ok (.lload 6, 2)) (k : G o γ cells slots n σ (pc + 2) (a0 :: a1 :: a2 :: a3 :: a4 :: a5 :: some (.long x) :: t) (.long x :: rest)) : G o γ cells slots n σ pc (a0 :: a1 :: a2 :: a3 :: a4 :: a5 :: some (.long x) :: t) rest := g_lload X (i := 6) hd rfl k
theorem g_lstore_6 (X : gX o γ cc nL own) {a0 a1 a2 a3 a4 a5 : Option Value} {b b2 : Option Value} {t : List (Option Value)} {x : Int64} (hd : decode cc pc = .ok (.lstore 6, 2)) (hlt : 6 + 1 < nL) (ho : okst a5 = true) (k : G o γ cells slots n σ (pc + 2) (a0 :: a1 :: a2 :: a3 :: a4 :: a5 :: some (.long x) :: none :: t) rest) : G o γ cells slots n σ pc (a0 :: a1 :: a2 :: a3 :: a4 :: a5 :: b :: b2 :: t) (.long x :: rest) := g_lstore X (i := 6) hd hlt ho k
theorem g_aload_6 (X : gX o γ cc nL own) {a0 a1 a2 a3 a4 a5 : Option Value} {t : List (Option Value)} {x : Nat} (hd : decode cc pc = .ok (.aload 6, 2)) (k : G o γ cells slots n σ (pc + 2) (a0 :: a1 :: a2 :: a3 :: a4 :: a5 :: some (.ref x) :: t) (.ref x :: rest)) : G o γ cells slots n σ pc (a0 :: a1 :: a2 :: a3 :: a4 :: a5 :: some (.ref x) :: t) rest := g_aload X (i := 6) hd rfl k
theorem g_astore_6 (X : gX o γ cc nL own) {a0 a1 a2 a3 a4 a5 : Option Value} {b : Option Value} {t : List (Option Value)} {x : Nat} (hd : decode cc pc = .ok (.astore 6, 2)) (hlt : 6 < nL) (ho : okst a5 = true) (k : G o γ cells slots n σ (pc + 2) (a0 :: a1 :: a2 :: a3 :: a4 :: a5 :: some (.ref x) :: t) rest) : G o γ cells slots n σ pc (a0 :: a1 :: a2 :: a3 :: a4 :: a5 :: b :: t) (.ref x :: rest) := g_astore X (i := 6) hd hlt ho k
theorem g_iinc_6 (X : gX o γ cc nL own) {a0 a1 a2 a3 a4 a5 : Option Value} {t : List (Option Value)} {z : Int} {x v : Int32} (hd : decode cc pc = .ok (.iinc 6 z, 3)) (hv : x + Int32.ofInt z = v) (hlt : 6 < nL) (ho : okst a5 = true) (k : G o γ cells slots n σ (pc + 3) (a0 :: a1 :: a2 :: a3 :: a4 :: a5 :: some (.int v) :: t) rest) : G o γ cells slots n σ pc (a0 :: a1 :: a2 :: a3 :: a4 :: a5 :: some (.int x) :: t) rest := g_iinc X (i := 6) hd hv rfl hlt ho k
theorem g_iload_7 (X : gX o γ cc nL own) {a0 a1 a2 a3 a4 a5 a6 : Option Value} {t : List (Option Value)} {x : Int32} (hd : decode cc pc = .ok (.iload 7, 2)) (k : G o γ cells slots n σ (pc + 2) (a0 :: a1 :: a2 :: a3 :: a4 :: a5 :: a6 :: some (.int x) :: t) (.int x :: rest)) : G o γ cells slots n σ pc (a0 :: a1 :: a2 :: a3 :: a4 :: a5 :: a6 :: some (.int x) :: t) rest := g_iload X (i := 7) hd rfl k
theorem g_istore_7 (X : gX o γ cc nL own) {a0 a1 a2 a3 a4 a5 a6 : Option Value} {b : Option Value} {t : List (Option Value)} {x : Int32} (hd : decode cc pc = .ok (.istore 7, 2)) (hlt : 7 < nL) (ho : okst a6 = true) (k : G o γ cells slots n σ (pc + 2) (a0 :: a1 :: a2 :: a3 :: a4 :: a5 :: a6 :: some (.int x) :: t) rest) : G o γ cells slots n σ pc (a0 :: a1 :: a2 :: a3 :: a4 :: a5 :: a6 :: b :: t) (.int x :: rest) := g_istore X (i := 7) hd hlt ho k
theorem g_lload_7 (X : gX o γ cc nL own) {a0 a1 a2 a3 a4 a5 a6 : Option Value} {t : List (Option Value)} {x : Int64} (hd : decode cc pc = .ok (.lload 7, 2)) (k : G o γ cells slots n σ (pc + 2) (a0 :: a1 :: a2 :: a3 :: a4 :: a5 :: a6 :: some (.long x) :: t) (.long x :: rest)) : G o γ cells slots n σ pc (a0 :: a1 :: a2 :: a3 :: a4 :: a5 :: a6 :: some (.long x) :: t) rest := g_lload X (i := 7) hd rfl k
theorem g_lstore_7 (X : gX o γ cc nL own) {a0 a1 a2 a3 a4 a5 a6 : Option Value} {b b2 : Option Value} {t : List (Option Value)} {x : Int64} (hd : decode cc pc = .ok (.lstore 7, 2)) (hlt : 7 + 1 < nL) (ho : okst a6 = true) (k : G o γ cells slots n σ (pc + 2) (a0 :: a1 :: a2 :: a3 :: a4 :: a5 :: a6 :: some (.long x) :: none :: t) rest) : G o γ cells slots n σ pc (a0 :: a1 :: a2 :: a3 :: a4 :: a5 :: a6 :: b :: b2 :: t) (.long x :: rest) := g_lstore X (i := 7) hd hlt ho k
theorem g_aload_7 (X : gX o γ cc nL own) {a0 a1 a2 a3 a4 a5 a6 : Option Value} {t : List (Option Value)} {x : Nat} (hd : decode cc pc = .ok (.aload 7, 2)) (k : G o γ cells slots n σ (pc + 2) (a0 :: a1 :: a2 :: a3 :: a4 :: a5 :: a6 :: some (.ref x) :: t) (.ref x :: rest)) : G o γ cells slots n σ pc (a0 :: a1 :: a2 :: a3 :: a4 :: a5 :: a6 :: some (.ref x) :: t) rest := g_aload X (i := 7) hd rfl k
theorem g_astore_7 (X : gX o γ cc nL own) {a0 a1 a2 a3 a4 a5 a6 : Option Value} {b : Option Value} {t : List (Option Value)} {x : Nat} (hd : decode cc pc = .ok (.astore 7, 2)) (hlt : 7 < nL) (ho : okst a6 = true) (k : G o γ cells slots n σ (pc + 2) (a0 :: a1 :: a2 :: a3 :: a4 :: a5 :: a6 :: some (.ref x) :: t) rest) : G o γ cells slots n σ pc (a0 :: a1 :: a2 :: a3 :: a4 :: a5 :: a6 :: b :: t) (.ref x :: rest) := g_astore X (i := 7) hd hlt ho k
theorem g_iinc_7 (X : gX o γ cc nL own) {a0 a1 a2 a3 a4 a5 a6 : Option Value} {t : List (Option Value)} {z : Int} {x v : Int32} (hd : decode cc pc = .ok (.iinc 7 z, 3)) (hv : x + Int32.ofInt z = v) (hlt : 7 < nL) (ho : okst a6 = true) (k : G o γ cells slots n σ (pc + 3) (a0 :: a1 :: a2 :: a3 :: a4 :: a5 :: a6 :: some (.int v) :: t) rest) : G o γ cells slots n σ pc (a0 :: a1 :: a2 :: a3 :: a4 :: a5 :: a6 :: some (.int x) :: t) rest := g_iinc X (i := 7) hd hv rfl hlt ho k
theorem g_iload_8 (X : gX o γ cc nL own) {a0 a1 a2 a3 a4 a5 a6 a7 : Option Value} {t : List (Option Value)} {x : Int32} (hd : decode cc pc = .ok (.iload 8, 2)) (k : G o γ cells slots n σ (pc + 2) (a0 :: a1 :: a2 :: a3 :: a4 :: a5 :: a6 :: a7 :: some (.int x) :: t) (.int x :: rest)) : G o γ cells slots n σ pc (a0 :: a1 :: a2 :: a3 :: a4 :: a5 :: a6 :: a7 :: some (.int x) :: t) rest := g_iload X (i := 8) hd rfl k
theorem g_istore_8 (X : gX o γ cc nL own) {a0 a1 a2 a3 a4 a5 a6 a7 : Option Value} {b : Option Value} {t : List (Option Value)} {x : Int32} (hd : decode cc pc = .ok (.istore 8, 2)) (hlt : 8 < nL) (ho : okst a7 = true) (k : G o γ cells slots n σ (pc + 2) (a0 :: a1 :: a2 :: a3 :: a4 :: a5 :: a6 :: a7 :: some (.int x) :: t) rest) : G o γ cells slots n σ pc (a0 :: a1 :: a2 :: a3 :: a4 :: a5 :: a6 :: a7 :: b :: t) (.int x :: rest) := g_istore X (i := 8) hd hlt ho k
theorem g_lload_8 (X : gX o γ cc nL own) {a0 a1 a2 a3 a4 a5 a6 a7 : Option Value} {t : List (Option Value)} {x : Int64} (hd : decode cc pc = .ok (.lload 8, 2)) (k : G o γ cells slots n σ (pc + 2) (a0 :: a1 :: a2 :: a3 :: a4 :: a5 :: a6 :: a7 :: some (.long x) :: t) (.long x :: rest)) : G o γ cells slots n σ pc (a0 :: a1 :: a2 :: a3 :: a4 :: a5 :: a6 :: a7 :: some (.long x) :: t) rest := g_lload X (i := 8) hd rfl k
theorem g_lstore_8 (X : gX o γ cc nL own) {a0 a1 a2 a3 a4 a5 a6 a7 : Option Value} {b b2 : Option Value} {t : List (Option Value)} {x : Int64} (hd : decode cc pc = .ok (.lstore 8, 2)) (hlt : 8 + 1 < nL) (ho : okst a7 = true) (k : G o γ cells slots n σ (pc + 2) (a0 :: a1 :: a2 :: a3 :: a4 :: a5 :: a6 :: a7 :: some (.long x) :: none :: t) rest) : G o γ cells slots n σ pc (a0 :: a1 :: a2 :: a3 :: a4 :: a5 :: a6 :: a7 :: b :: b2 :: t) (.long x :: rest) := g_lstore X (i := 8) hd hlt ho k
theorem g_aload_8 (X : gX o γ cc nL own) {a0 a1 a2 a3 a4 a5 a6 a7 : Option Value} {t : List (Option Value)} {x : Nat} (hd : decode cc pc = .ok (.aload 8, 2)) (k : G o γ cells slots n σ (pc + 2) (a0 :: a1 :: a2 :: a3 :: a4 :: a5 :: a6 :: a7 :: some (.ref x) :: t) (.ref x :: rest)) : G o γ cells slots n σ pc (a0 :: a1 :: a2 :: a3 :: a4 :: a5 :: a6 :: a7 :: some (.ref x) :: t) rest := g_aload X (i := 8) hd rfl k
theorem g_astore_8 (X : gX o γ cc nL own) {a0 a1 a2 a3 a4 a5 a6 a7 : Option Value} {b : Option Value} {t : List (Option Value)} {x : Nat} (hd : decode cc pc = .ok (.astore 8, 2)) (hlt : 8 < nL) (ho : okst a7 = true) (k : G o γ cells slots n σ (pc + 2) (a0 :: a1 :: a2 :: a3 :: a4 :: a5 :: a6 :: a7 :: some (.ref x) :: t) rest) : G o γ cells slots n σ pc (a0 :: a1 :: a2 :: a3 :: a4 :: a5 :: a6 :: a7 :: b :: t) (.ref x :: rest) := g_astore X (i := 8) hd hlt ho k
theorem g_iinc_8 (X : gX o γ cc nL own) {a0 a1 a2 a3 a4 a5 a6 a7 : Option Value} {t : List (Option Value)} {z : Int} {x v : Int32} (hd : decode cc pc = .ok (.iinc 8 z, 3)) (hv : x + Int32.ofInt z = v) (hlt : 8 < nL) (ho : okst a7 = true) (k : G o γ cells slots n σ (pc + 3) (a0 :: a1 :: a2 :: a3 :: a4 :: a5 :: a6 :: a7 :: some (.int v) :: t) rest) : G o γ cells slots n σ pc (a0 :: a1 :: a2 :: a3 :: a4 :: a5 :: a6 :: a7 :: some (.int x) :: t) rest := g_iinc X (i := 8) hd hv rfl hlt ho k
theorem g_iload_9 (X : gX o γ cc nL own) {a0 a1 a2 a3 a4 a5 a6 a7 a8 : Option Value} {t : List (Option Value)} {x : Int32} (hd : decode cc pc = .ok (.iload 9, 2)) (k : G o γ cells slots n σ (pc + 2) (a0 :: a1 :: a2 :: a3 :: a4 :: a5 :: a6 :: a7 :: a8 :: some (.int x) :: t) (.int x :: rest)) : G o γ cells slots n σ pc (a0 :: a1 :: a2 :: a3 :: a4 :: a5 :: a6 :: a7 :: a8 :: some (.int x) :: t) rest := g_iload X (i := 9) hd rfl k
theorem g_istore_9 (X : gX o γ cc nL own) {a0 a1 a2 a3 a4 a5 a6 a7 a8 : Option Value} {b : Option Value} {t : List (Option Value)} {x : Int32} (hd : decode cc pc = .ok (.istore 9, 2)) (hlt : 9 < nL) (ho : okst a8 = true) (k : G o γ cells slots n σ (pc + 2) (a0 :: a1 :: a2 :: a3 :: a4 :: a5 :: a6 :: a7 :: a8 :: some (.int x) :: t) rest) : G o γ cells slots n σ pc (a0 :: a1 :: a2 :: a3 :: a4 :: a5 :: a6 :: a7 :: a8 :: b :: t) (.int x :: rest) := g_istore X (i := 9) hd hlt ho k
theorem g_lload_9 (X : gX o γ cc nL own) {a0 a1 a2 a3 a4 a5 a6 a7 a8 : Option Value} {t : List (Option Value)} {x : Int64} (hd : decode cc pc = .ok (.lload 9, 2)) (k : G o γ cells slots n σ (pc + 2) (a0 :: a1 :: a2 :: a3 :: a4 :: a5 :: a6 :: a7 :: a8 :: some (.long x) :: t) (.long x :: rest)) : G o γ cells slots n σ pc (a0 :: a1 :: a2 :: a3 :: a4 :: a5 :: a6 :: a7 :: a8 :: some (.long x) :: t) rest := g_lload X (i := 9) hd rfl k
theorem g_lstore_9 (X : gX o γ cc nL own) {a0 a1 a2 a3 a4 a5 a6 a7 a8 : Option Value} {b b2 : Option Value} {t : List (Option Value)} {x : Int64} (hd : decode cc pc = .ok (.lstore 9, 2)) (hlt : 9 + 1 < nL) (ho : okst a8 = true) (k : G o γ cells slots n σ (pc + 2) (a0 :: a1 :: a2 :: a3 :: a4 :: a5 :: a6 :: a7 :: a8 :: some (.long x) :: none :: t) rest) : G o γ cells slots n σ pc (a0 :: a1 :: a2 :: a3 :: a4 :: a5 :: a6 :: a7 :: a8 :: b :: b2 :: t) (.long x :: rest) := g_lstore X (i := 9) hd hlt ho k
theorem g_aload_9 (X : gX o γ cc nL own) {a0 a1 a2 a3 a4 a5 a6 a7 a8 : Option Value} {t : List (Option Value)} {x : Nat} (hd : decode cc pc = .ok (.aload 9, 2)) (k : G o γ cells slots n σ (pc + 2) (a0 :: a1 :: a2 :: a3 :: a4 :: a5 :: a6 :: a7 :: a8 :: some (.ref x) :: t) (.ref x :: rest)) : G o γ cells slots n σ pc (a0 :: a1 :: a2 :: a3 :: a4 :: a5 :: a6 :: a7 :: a8 :: some (.ref x) :: t) rest := g_aload X (i := 9) hd rfl k
theorem g_astore_9 (X : gX o γ cc nL own) {a0 a1 a2 a3 a4 a5 a6 a7 a8 : Option Value} {b : Option Value} {t : List (Option Value)} {x : Nat} (hd : decode cc pc = .ok (.astore 9, 2)) (hlt : 9 < nL) (ho : okst a8 = true) (k : G o γ cells slots n σ (pc + 2) (a0 :: a1 :: a2 :: a3 :: a4 :: a5 :: a6 :: a7 :: a8 :: some (.ref x) :: t) rest) : G o γ cells slots n σ pc (a0 :: a1 :: a2 :: a3 :: a4 :: a5 :: a6 :: a7 :: a8 :: b :: t) (.ref x :: rest) := g_astore X (i := 9) hd hlt ho k
theorem g_iinc_9 (X : gX o γ cc nL own) {a0 a1 a2 a3 a4 a5 a6 a7 a8 : Option Value} {t : List (Option Value)} {z : Int} {x v : Int32} (hd : decode cc pc = .ok (.iinc 9 z, 3)) (hv : x + Int32.ofInt z = v) (hlt : 9 < nL) (ho : okst a8 = true) (k : G o γ cells slots n σ (pc + 3) (a0 :: a1 :: a2 :: a3 :: a4 :: a5 :: a6 :: a7 :: a8 :: some (.int v) :: t) rest) : G o γ cells slots n σ pc (a0 :: a1 :: a2 :: a3 :: a4 :: a5 :: a6 :: a7 :: a8 :: some (.int x) :: t) rest := g_iinc X (i := 9) hd hv rfl hlt ho k
theorem g_iload_10 (X : gX o γ cc nL own) {a0 a1 a2 a3 a4 a5 a6 a7 a8 a9 : Option Value} {t : List (Option Value)} {x : Int32} (hd : decode cc pc = .ok (.iload 10, 2)) (k : G o γ cells slots n σ (pc + 2) (a0 :: a1 :: a2 :: a3 :: a4 :: a5 :: a6 :: a7 :: a8 :: a9 :: some (.int x) :: t) (.int x :: rest)) : G o γ cells slots n σ pc (a0 :: a1 :: a2 :: a3 :: a4 :: a5 :: a6 :: a7 :: a8 :: a9 :: some (.int x) :: t) rest := g_iload X (i := 10) hd rfl k
theorem g_istore_10 (X : gX o γ cc nL own) {a0 a1 a2 a3 a4 a5 a6 a7 a8 a9 : Option Value} {b : Option Value} {t : List (Option Value)} {x : Int32} (hd : decode cc pc = .ok (.istore 10, 2)) (hlt : 10 < nL) (ho : okst a9 = true) (k : G o γ cells slots n σ (pc + 2) (a0 :: a1 :: a2 :: a3 :: a4 :: a5 :: a6 :: a7 :: a8 :: a9 :: some (.int x) :: t) rest) : G o γ cells slots n σ pc (a0 :: a1 :: a2 :: a3 :: a4 :: a5 :: a6 :: a7 :: a8 :: a9 :: b :: t) (.int x :: rest) := g_istore X (i := 10) hd hlt ho k
theorem g_lload_10 (X : gX o γ cc nL own) {a0 a1 a2 a3 a4 a5 a6 a7 a8 a9 : Option Value} {t : List (Option Value)} {x : Int64} (hd : decode cc pc = .ok (.lload 10, 2)) (k : G o γ cells slots n σ (pc + 2) (a0 :: a1 :: a2 :: a3 :: a4 :: a5 :: a6 :: a7 :: a8 :: a9 :: some (.long x) :: t) (.long x :: rest)) : G o γ cells slots n σ pc (a0 :: a1 :: a2 :: a3 :: a4 :: a5 :: a6 :: a7 :: a8 :: a9 :: some (.long x) :: t) rest := g_lload X (i := 10) hd rfl k
theorem g_lstore_10 (X : gX o γ cc nL own) {a0 a1 a2 a3 a4 a5 a6 a7 a8 a9 : Option Value} {b b2 : Option Value} {t : List (Option Value)} {x : Int64} (hd : decode cc pc = .ok (.lstore 10, 2)) (hlt : 10 + 1 < nL) (ho : okst a9 = true) (k : G o γ cells slots n σ (pc + 2) (a0 :: a1 :: a2 :: a3 :: a4 :: a5 :: a6 :: a7 :: a8 :: a9 :: some (.long x) :: none :: t) rest) : G o γ cells slots n σ pc (a0 :: a1 :: a2 :: a3 :: a4 :: a5 :: a6 :: a7 :: a8 :: a9 :: b :: b2 :: t) (.long x :: rest) := g_lstore X (i := 10) hd hlt ho k
theorem g_aload_10 (X : gX o γ cc nL own) {a0 a1 a2 a3 a4 a5 a6 a7 a8 a9 : Option Value} {t : List (Option Value)} {x : Nat} (hd : decode cc pc = .ok (.aload 10, 2)) (k : G o γ cells slots n σ (pc + 2) (a0 :: a1 :: a2 :: a3 :: a4 :: a5 :: a6 :: a7 :: a8 :: a9 :: some (.ref x) :: t) (.ref x :: rest)) : G o γ cells slots n σ pc (a0 :: a1 :: a2 :: a3 :: a4 :: a5 :: a6 :: a7 :: a8 :: a9 :: some (.ref x) :: t) rest := g_aload X (i := 10) hd rfl k
theorem g_astore_10 (X : gX o γ cc nL own) {a0 a1 a2 a3 a4 a5 a6 a7 a8 a9 : Option Value} {b : Option Value} {t : List (Option Value)} {x : Nat} (hd : decode cc pc = .ok (.astore 10, 2)) (hlt : 10 < nL) (ho : okst a9 = true) (k : G o γ cells slots n σ (pc + 2) (a0 :: a1 :: a2 :: a3 :: a4 :: a5 :: a6 :: a7 :: a8 :: a9 :: some (.ref x) :: t) rest) : G o γ cells slots n σ pc (a0 :: a1 :: a2 :: a3 :: a4 :: a5 :: a6 :: a7 :: a8 :: a9 :: b :: t) (.ref x :: rest) := g_astore X (i := 10) hd hlt ho k
theorem g_iinc_10 (X : gX o γ cc nL own) {a0 a1 a2 a3 a4 a5 a6 a7 a8 a9 : Option Value} {t : List (Option Value)} {z : Int} {x v : Int32} (hd : decode cc pc = .ok (.iinc 10 z, 3)) (hv : x + Int32.ofInt z = v) (hlt : 10 < nL) (ho : okst a9 = true) (k : G o γ cells slots n σ (pc + 3) (a0 :: a1 :: a2 :: a3 :: a4 :: a5 :: a6 :: a7 :: a8 :: a9 :: some (.int v) :: t) rest) : G o γ cells slots n σ pc (a0 :: a1 :: a2 :: a3 :: a4 :: a5 :: a6 :: a7 :: a8 :: a9 :: some (.int x) :: t) rest := g_iinc X (i := 10) hd hv rfl hlt ho k
theorem g_iload_11 (X : gX o γ cc nL own) {a0 a1 a2 a3 a4 a5 a6 a7 a8 a9 a10 : Option Value} {t : List (Option Value)} {x : Int32} (hd : decode cc pc = .ok (.iload 11, 2)) (k : G o γ cells slots n σ (pc + 2) (a0 :: a1 :: a2 :: a3 :: a4 :: a5 :: a6 :: a7 :: a8 :: a9 :: a10 :: some (.int x) :: t) (.int x :: rest)) : G o γ cells slots n σ pc (a0 :: a1 :: a2 :: a3 :: a4 :: a5 :: a6 :: a7 :: a8 :: a9 :: a10 :: some (.int x) :: t) rest := g_iload X (i := 11) hd rfl k
theorem g_istore_11 (X : gX o γ cc nL own) {a0 a1 a2 a3 a4 a5 a6 a7 a8 a9 a10 : Option Value} {b : Option Value} {t : List (Option Value)} {x : Int32} (hd : decode cc pc = .ok (.istore 11, 2)) (hlt : 11 < nL) (ho : okst a10 = true) (k : G o γ cells slots n σ (pc + 2) (a0 :: a1 :: a2 :: a3 :: a4 :: a5 :: a6 :: a7 :: a8 :: a9 :: a10 :: some (.int x) :: t) rest) : G o γ cells slots n σ pc (a0 :: a1 :: a2 :: a3 :: a4 :: a5 :: a6 :: a7 :: a8 :: a9 :: a10 :: b :: t) (.int x :: rest) := g_istore X (i := 11) hd hlt ho k
theorem g_lload_11 (X : gX o γ cc nL own) {a0 a1 a2 a3 a4 a5 a6 a7 a8 a9 a10 : Option Value} {t : List (Option Value)} {x : Int64} (hd : decode cc pc = .ok (.lload 11, 2)) (k : G o γ cells slots n σ (pc + 2) (a0 :: a1 :: a2 :: a3 :: a4 :: a5 :: a6 :: a7 :: a8 :: a9 :: a10 :: some (.long x) :: t) (.long x :: rest)) : G o γ cells slots n σ pc (a0 :: a1 :: a2 :: a3 :: a4 :: a5 :: a6 :: a7 :: a8 :: a9 :: a10 :: some (.long x) :: t) rest := g_lload X (i := 11) hd rfl k
theorem g_lstore_11 (X : gX o γ cc nL own) {a0 a1 a2 a3 a4 a5 a6 a7 a8 a9 a10 : Option Value} {b b2 : Option Value} {t : List (Option Value)} {x : Int64} (hd : decode cc pc = .ok (.lstore 11, 2)) (hlt : 11 + 1 < nL) (ho : okst a10 = true) (k : G o γ cells slots n σ (pc + 2) (a0 :: a1 :: a2 :: a3 :: a4 :: a5 :: a6 :: a7 :: a8 :: a9 :: a10 :: some (.long x) :: none :: t) rest) : G o γ cells slots n σ pc (a0 :: a1 :: a2 :: a3 :: a4 :: a5 :: a6 :: a7 :: a8 :: a9 :: a10 :: b :: b2 :: t) (.long x :: rest) := g_lstore X (i := 11) hd hlt ho k
theorem g_aload_11 (X : gX o γ cc nL own) {a0 a1 a2 a3 a4 a5 a6 a7 a8 a9 a10 : Option Value} {t : List (Option Value)} {x : Nat} (hd : decode cc pc = .ok (.aload 11, 2)) (k : G o γ cells slots n σ (pc + 2) (a0 :: a1 :: a2 :: a3 :: a4 :: a5 :: a6 :: a7 :: a8 :: a9 :: a10 :: some (.ref x) :: t) (.ref x :: rest)) : G o γ cells slots n σ pc (a0 :: a1 :: a2 :: a3 :: a4 :: a5 :: a6 :: a7 :: a8 :: a9 :: a10 :: some (.ref x) :: t) rest := g_aload X (i := 11) hd rfl k
theorem g_astore_11 (X : gX o γ cc nL own) {a0 a1 a2 a3 a4 a5 a6 a7 a8 a9 a10 : Option Value} {b : Option Value} {t : List (Option Value)} {x : Nat} (hd : decode cc pc = .ok (.astore 11, 2)) (hlt : 11 < nL) (ho : okst a10 = true) (k : G o γ cells slots n σ (pc + 2) (a0 :: a1 :: a2 :: a3 :: a4 :: a5 :: a6 :: a7 :: a8 :: a9 :: a10 :: some (.ref x) :: t) rest) : G o γ cells slots n σ pc (a0 :: a1 :: a2 :: a3 :: a4 :: a5 :: a6 :: a7 :: a8 :: a9 :: a10 :: b :: t) (.ref x :: rest) := g_astore X (i := 11) hd hlt ho k
theorem g_iinc_11 (X : gX o γ cc nL own) {a0 a1 a2 a3 a4 a5 a6 a7 a8 a9 a10 : Option Value} {t : List (Option Value)} {z : Int} {x v : Int32} (hd : decode cc pc = .ok (.iinc 11 z, 3)) (hv : x + Int32.ofInt z = v) (hlt : 11 < nL) (ho : okst a10 = true) (k : G o γ cells slots n σ (pc + 3) (a0 :: a1 :: a2 :: a3 :: a4 :: a5 :: a6 :: a7 :: a8 :: a9 :: a10 :: some (.int v) :: t) rest) : G o γ cells slots n σ pc (a0 :: a1 :: a2 :: a3 :: a4 :: a5 :: a6 :: a7 :: a8 :: a9 :: a10 :: some (.int x) :: t) rest := g_iinc X (i := 11) hd hv rfl hlt ho k
theorem g_iload_12 (X : gX o γ cc nL own) {a0 a1 a2 a3 a4 a5 a6 a7 a8 a9 a10 a11 : Option Value} {t : List (Option Value)} {x : Int32} (hd : decode cc pc = .ok (.iload 12, 2)) (k : G o γ cells slots n σ (pc + 2) (a0 :: a1 :: a2 :: a3 :: a4 :: a5 :: a6 :: a7 :: a8 :: a9 :: a10 :: a11 :: some (.int x) :: t) (.int x :: rest)) : G o γ cells slots n σ pc (a0 :: a1 :: a2 :: a3 :: a4 :: a5 :: a6 :: a7 :: a8 :: a9 :: a10 :: a11 :: some (.int x) :: t) rest := g_iload X (i := 12) hd rfl k
theorem g_istore_12 (X : gX o γ cc nL own) {a0 a1 a2 a3 a4 a5 a6 a7 a8 a9 a10 a11 : Option Value} {b : Option Value} {t : List (Option Value)} {x : Int32} (hd : decode cc pc = .ok (.istore 12, 2)) (hlt : 12 < nL) (ho : okst a11 = true) (k : G o γ cells slots n σ (pc + 2) (a0 :: a1 :: a2 :: a3 :: a4 :: a5 :: a6 :: a7 :: a8 :: a9 :: a10 :: a11 :: some (.int x) :: t) rest) : G o γ cells slots n σ pc (a0 :: a1 :: a2 :: a3 :: a4 :: a5 :: a6 :: a7 :: a8 :: a9 :: a10 :: a11 :: b :: t) (.int x :: rest) := g_istore X (i := 12) hd hlt ho k
theorem g_lload_12 (X : gX o γ cc nL own) {a0 a1 a2 a3 a4 a5 a6 a7 a8 a9 a10 a11 : Option Value} {t : List (Option Value)} {x : Int64} (hd : decode cc pc = .ok (.lload 12, 2)) (k : G o γ cells slots n σ (pc + 2) (a0 :: a1 :: a2 :: a3 :: a4 :: a5 :: a6 :: a7 :: a8 :: a9 :: a10 :: a11 :: some (.long x) :: t) (.long x :: rest)) : G o γ cells slots n σ pc (a0 :: a1 :: a2 :: a3 :: a4 :: a5 :: a6 :: a7 :: a8 :: a9 :: a10 :: a11 :: some (.long x) :: t) rest := g_lload X (i := 12) hd rfl k
theorem g_lstore_12 (X : gX o γ cc nL own) {a0 a1 a2 a3 a4 a5 a6 a7 a8 a9 a10 a11 : Option Value} {b b2 : Option Value} {t : List (Option Value)} {x : Int64} (hd : decode cc pc = .ok (.lstore 12, 2)) (hlt : 12 + 1 < nL) (ho : okst a11 = true) (k : G o γ cells slots n σ (pc + 2) (a0 :: a1 :: a2 :: a3 :: a4 :: a5 :: a6 :: a7 :: a8 :: a9 :: a10 :: a11 :: some (.long x) :: none :: t) rest) : G o γ cells slots n σ pc (a0 :: a1 :: a2 :: a3 :: a4 :: a5 :: a6 :: a7 :: a8 :: a9 :: a10 :: a11 :: b :: b2 :: t) (.long x :: rest) := g_lstore X (i := 12) hd hlt ho k
theorem g_aload_12 (X : gX o γ cc nL own) {a0 a1 a2 a3 a4 a5 a6 a7 a8 a9 a10 a11 : Option Value} {t : List (Option Value)} {x : Nat} (hd : decode cc pc = .ok (.aload 12, 2)) (k : G o γ cells slots n σ (pc + 2) (a0 :: a1 :: a2 :: a3 :: a4 :: a5 :: a6 :: a7 :: a8 :: a9 :: a10 :: a11 :: some (.ref x) :: t) (.ref x :: rest)) : G o γ cells slots n σ pc (a0 :: a1 :: a2 :: a3 :: a4 :: a5 :: a6 :: a7 :: a8 :: a9 :: a10 :: a11 :: some (.ref x) :: t) rest := g_aload X (i := 12) hd rfl k
theorem g_astore_12 (X : gX o γ cc nL own) {a0 a1 a2 a3 a4 a5 a6 a7 a8 a9 a10 a11 : Option Value} {b : Option Value} {t : List (Option Value)} {x : Nat} (hd : decode cc pc = .ok (.astore 12, 2)) (hlt : 12 < nL) (ho : okst a11 = true) (k : G o γ cells slots n σ (pc + 2) (a0 :: a1 :: a2 :: a3 :: a4 :: a5 :: a6 :: a7 :: a8 :: a9 :: a10 :: a11 :: some (.ref x) :: t) rest) : G o γ cells slots n σ pc (a0 :: a1 :: a2 :: a3 :: a4 :: a5 :: a6 :: a7 :: a8 :: a9 :: a10 :: a11 :: b :: t) (.ref x :: rest) := g_astore X (i := 12) hd hlt ho k
theorem g_iinc_12 (X : gX o γ cc nL own) {a0 a1 a2 a3 a4 a5 a6 a7 a8 a9 a10 a11 : Option Value} {t : List (Option Value)} {z : Int} {x v : Int32} (hd : decode cc pc = .ok (.iinc 12 z, 3)) (hv : x + Int32.ofInt z = v) (hlt : 12 < nL) (ho : okst a11 = true) (k : G o γ cells slots n σ (pc + 3) (a0 :: a1 :: a2 :: a3 :: a4 :: a5 :: a6 :: a7 :: a8 :: a9 :: a10 :: a11 :: some (.int v) :: t) rest) : G o γ cells slots n σ pc (a0 :: a1 :: a2 :: a3 :: a4 :: a5 :: a6 :: a7 :: a8 :: a9 :: a10 :: a11 :: some (.int x) :: t) rest := g_iinc X (i := 12) hd hv rfl hlt ho k
theorem g_iload_13 (X : gX o γ cc nL own) {a0 a1 a2 a3 a4 a5 a6 a7 a8 a9 a10 a11 a12 : Option Value} {t : List (Option Value)} {x : Int32} (hd : decode cc pc = .ok (.iload 13, 2)) (k : G o γ cells slots n σ (pc + 2) (a0 :: a1 :: a2 :: a3 :: a4 :: a5 :: a6 :: a7 :: a8 :: a9 :: a10 :: a11 :: a12 :: some (.int x) :: t) (.int x :: rest)) : G o γ cells slots n σ pc (a0 :: a1 :: a2 :: a3 :: a4 :: a5 :: a6 :: a7 :: a8 :: a9 :: a10 :: a11 :: a12 :: some (.int x) :: t) rest := g_iload X (i := 13) hd rfl k
theorem g_istore_13 (X : gX o γ cc nL own) {a0 a1 a2 a3 a4 a5 a6 a7 a8 a9 a10 a11 a12 : Option Value} {b : Option Value} {t : List (Option Value)} {x : Int32} (hd : decode cc pc = .ok (.istore 13, 2)) (hlt : 13 < nL) (ho : okst a12 = true) (k : G o γ cells slots n σ (pc + 2) (a0 :: a1 :: a2 :: a3 :: a4 :: a5 :: a6 :: a7 :: a8 :: a9 :: a10 :: a11 :: a12 :: some (.int x) :: t) rest) : G o γ cells slots n σ pc (a0 :: a1 :: a2 :: a3 :: a4 :: a5 :: a6 :: a7 :: a8 :: a9 :: a10 :: a11 :: a12 :: b :: t) (.int x :: rest) := g_istore X (i := 13) hd hlt ho k
theorem g_lload_13 (X : gX o γ cc nL own) {a0 a1 a2 a3 a4 a5 a6 a7 a8 a9 a10 a11 a12 : Option Value} {t : List (Option Value)} {x : Int64} (hd : decode cc pc = .ok (.lload 13, 2)) (k : G o γ cells slots n σ (pc + 2) (a0 :: a1 :: a2 :: a3 :: a4 :: a5 :: a6 :: a7 :: a8 :: a9 :: a10 :: a11 :: a12 :: some (.long x) :: t) (.long x :: rest)) : G o γ cells slots n σ pc (a0 :: a1 :: a2 :: a3 :: a4 :: a5 :: a6 :: a7 :: a8 :: a9 :: a10 :: a11 :: a12 :: some (.long x) :: t) rest := g_lload X (i := 13) hd rfl k
theorem g_lstore_13 (X : gX o γ cc nL own) {a0 a1 a2 a3 a4 a5 a6 a7 a8 a9 a10 a11 a12 : Option Value} {b b2 : Option Value} {t : List (Option Value)} {x : Int64} (hd : decode cc pc = .ok (.lstore 13, 2)) (hlt : 13 + 1 < nL) (ho : okst a12 = true) (k : G o γ cells slots n σ (pc + 2) (a0 :: a1 :: a2 :: a3 :: a4 :: a5 :: a6 :: a7 :: a8 :: a9 :: a10 :: a11 :: a12 :: some (.long x) :: none :: t) rest) : G o γ cells slots n σ pc (a0 :: a1 :: a2 :: a3 :: a4 :: a5 :: a6 :: a7 :: a8 :: a9 :: a10 :: a11 :: a12 :: b :: b2 :: t) (.long x :: rest) := g_lstore X (i := 13) hd hlt ho k
theorem g_aload_13 (X : gX o γ cc nL own) {a0 a1 a2 a3 a4 a5 a6 a7 a8 a9 a10 a11 a12 : Option Value} {t : List (Option Value)} {x : Nat} (hd : decode cc pc = .ok (.aload 13, 2)) (k : G o γ cells slots n σ (pc + 2) (a0 :: a1 :: a2 :: a3 :: a4 :: a5 :: a6 :: a7 :: a8 :: a9 :: a10 :: a11 :: a12 :: some (.ref x) :: t) (.ref x :: rest)) : G o γ cells slots n σ pc (a0 :: a1 :: a2 :: a3 :: a4 :: a5 :: a6 :: a7 :: a8 :: a9 :: a10 :: a11 :: a12 :: some (.ref x) :: t) rest := g_aload X (i := 13) hd rfl k
theorem g_astore_13 (X : gX o γ cc nL own) {a0 a1 a2 a3 a4 a5 a6 a7 a8 a9 a10 a11 a12 : Option Value} {b : Option Value} {t : List (Option Value)} {x : Nat} (hd : decode cc pc = .ok (.astore 13, 2)) (hlt : 13 < nL) (ho : okst a12 = true) (k : G o γ cells slots n σ (pc + 2) (a0 :: a1 :: a2 :: a3 :: a4 :: a5 :: a6 :: a7 :: a8 :: a9 :: a10 :: a11 :: a12 :: some (.ref x) :: t) rest) : G o γ cells slots n σ pc (a0 :: a1 :: a2 :: a3 :: a4 :: a5 :: a6 :: a7 :: a8 :: a9 :: a10 :: a11 :: a12 :: b :: t) (.ref x :: rest) := g_astore X (i := 13) hd hlt ho k
theorem g_iinc_13 (X : gX o γ cc nL own) {a0 a1 a2 a3 a4 a5 a6 a7 a8 a9 a10 a11 a12 : Option Value} {t : List (Option Value)} {z : Int} {x v : Int32} (hd : decode cc pc = .ok (.iinc 13 z, 3)) (hv : x + Int32.ofInt z = v) (hlt : 13 < nL) (ho : okst a12 = true) (k : G o γ cells slots n σ (pc + 3) (a0 :: a1 :: a2 :: a3 :: a4 :: a5 :: a6 :: a7 :: a8 :: a9 :: a10 :: a11 :: a12 :: some (.int v) :: t) rest) : G o γ cells slots n σ pc (a0 :: a1 :: a2 :: a3 :: a4 :: a5 :: a6 :: a7 :: a8 :: a9 :: a10 :: a11 :: a12 :: some (.int x) :: t) rest := g_iinc X (i := 13) hd hv rfl hlt ho k
theorem g_iload_14 (X : gX o γ cc nL own) {a0 a1 a2 a3 a4 a5 a6 a7 a8 a9 a10 a11 a12 a13 : Option Value} {t : List (Option Value)} {x : Int32} (hd : decode cc pc = .ok (.iload 14, 2)) (k : G o γ cells slots n σ (pc + 2) (a0 :: a1 :: a2 :: a3 :: a4 :: a5 :: a6 :: a7 :: a8 :: a9 :: a10 :: a11 :: a12 :: a13 :: some (.int x) :: t) (.int x :: rest)) : G o γ cells slots n σ pc (a0 :: a1 :: a2 :: a3 :: a4 :: a5 :: a6 :: a7 :: a8 :: a9 :: a10 :: a11 :: a12 :: a13 :: some (.int x) :: t) rest := g_iload X (i := 14) hd rfl k
theorem g_istore_14 (X : gX o γ cc nL own) {a0 a1 a2 a3 a4 a5 a6 a7 a8 a9 a10 a11 a12 a13 : Option Value} {b : Option Value} {t : List (Option Value)} {x : Int32} (hd : decode cc pc = .ok (.istore 14, 2)) (hlt : 14 < nL) (ho : okst a13 = true) (k : G o γ cells slots n σ (pc + 2) (a0 :: a1 :: a2 :: a3 :: a4 :: a5 :: a6 :: a7 :: a8 :: a9 :: a10 :: a11 :: a12 :: a13 :: some (.int x) :: t) rest) : G o γ cells slots n σ pc (a0 :: a1 :: a2 :: a3 :: a4 :: a5 :: a6 :: a7 :: a8 :: a9 :: a10 :: a11 :: a12 :: a13 :: b :: t) (.int x :: rest) := g_istore X (i := 14) hd hlt ho k
theorem g_lload_14 (X : gX o γ cc nL own) {a0 a1 a2 a3 a4 a5 a6 a7 a8 a9 a10 a11 a12 a13 : Option Value} {t : List (Option Value)} {x : Int64} (hd : decode cc pc = .ok (.lload 14, 2)) (k : G o γ cells slots n σ (pc + 2) (a0 :: a1 :: a2 :: a3 :: a4 :: a5 :: a6 :: a7 :: a8 :: a9 :: a10 :: a11 :: a12 :: a13 :: some (.long x) :: t) (.long x :: rest)) : G o γ cells slots n σ pc (a0 :: a1 :: a2 :: a3 :: a4 :: a5 :: a6 :: a7 :: a8 :: a9 :: a10 :: a11 :: a12 :: a13 :: some (.long x) :: t) rest := g_lload X (i := 14) hd rfl k
theorem g_lstore_14 (X : gX o γ cc nL own) {a0 a1 a2 a3 a4 a5 a6 a7 a8 a9 a10 a11 a12 a13 : Option Value} {b b2 : Option Value} {t : List (Option Value)} {x : Int64} (hd : decode cc pc = .ok (.lstore 14, 2)) (hlt : 14 + 1 < nL) (ho : okst a13 = true) (k : G o γ cells slots n σ (pc + 2) (a0 :: a1 :: a2 :: a3 :: a4 :: a5 :: a6 :: a7 :: a8 :: a9 :: a10 :: a11 :: a12 :: a13 :: some (.long x) :: none :: t) rest) : G o γ cells slots n σ pc (a0 :: a1 :: a2 :: a3 :: a4 :: a5 :: a6 :: a7 :: a8 :: a9 :: a10 :: a11 :: a12 :: a13 :: b :: b2 :: t) (.long x :: rest) := g_lstore X (i := 14) hd hlt ho k
theorem g_aload_14 (X : gX o γ cc nL own) {a0 a1 a2 a3 a4 a5 a6 a7 a8 a9 a10 a11 a12 a13 : Option Value} {t : List (Option Value)} {x : Nat} (hd : decode cc pc = .ok (.aload 14, 2)) (k : G o γ cells slots n σ (pc + 2) (a0 :: a1 :: a2 :: a3 :: a4 :: a5 :: a6 :: a7 :: a8 :: a9 :: a10 :: a11 :: a12 :: a13 :: some (.ref x) :: t) (.ref x :: rest)) : G o γ cells slots n σ pc (a0 :: a1 :: a2 :: a3 :: a4 :: a5 :: a6 :: a7 :: a8 :: a9 :: a10 :: a11 :: a12 :: a13 :: some (.ref x) :: t) rest := g_aload X (i := 14) hd rfl k
theorem g_astore_14 (X : gX o γ cc nL own) {a0 a1 a2 a3 a4 a5 a6 a7 a8 a9 a10 a11 a12 a13 : Option Value} {b : Option Value} {t : List (Option Value)} {x : Nat} (hd : decode cc pc = .ok (.astore 14, 2)) (hlt : 14 < nL) (ho : okst a13 = true) (k : G o γ cells slots n σ (pc + 2) (a0 :: a1 :: a2 :: a3 :: a4 :: a5 :: a6 :: a7 :: a8 :: a9 :: a10 :: a11 :: a12 :: a13 :: some (.ref x) :: t) rest) : G o γ cells slots n σ pc (a0 :: a1 :: a2 :: a3 :: a4 :: a5 :: a6 :: a7 :: a8 :: a9 :: a10 :: a11 :: a12 :: a13 :: b :: t) (.ref x :: rest) := g_astore X (i := 14) hd hlt ho k
theorem g_iinc_14 (X : gX o γ cc nL own) {a0 a1 a2 a3 a4 a5 a6 a7 a8 a9 a10 a11 a12 a13 : Option Value} {t : List (Option Value)} {z : Int} {x v : Int32} (hd : decode cc pc = .ok (.iinc 14 z, 3)) (hv : x + Int32.ofInt z = v) (hlt : 14 < nL) (ho : okst a13 = true) (k : G o γ cells slots n σ (pc + 3) (a0 :: a1 :: a2 :: a3 :: a4 :: a5 :: a6 :: a7 :: a8 :: a9 :: a10 :: a11 :: a12 :: a13 :: some (.int v) :: t) rest) : G o γ cells slots n σ pc (a0 :: a1 :: a2 :: a3 :: a4 :: a5 :: a6 :: a7 :: a8 :: a9 :: a10 :: a11 :: a12 :: a13 :: some (.int x) :: t) rest := g_iinc X (i := 14) hd hv rfl hlt ho k
theorem g_iload_15 (X : gX o γ cc nL own) {a0 a1 a2 a3 a4 a5 a6 a7 a8 a9 a10 a11 a12 a13 a14 : Option Value} {t : List (Option Value)} {x : Int32} (hd : decode cc pc = .ok (.iload 15, 2)) (k : G o γ cells slots n σ (pc + 2) (a0 :: a1 :: a2 :: a3 :: a4 :: a5 :: a6 :: a7 :: a8 :: a9 :: a10 :: a11 :: a12 :: a13 :: a14 :: some (.int x) :: t) (.int x :: rest)) : G o γ cells slots n σ pc (a0 :: a1 :: a2 :: a3 :: a4 :: a5 :: a6 :: a7 :: a8 :: a9 :: a10 :: a11 :: a12 :: a13 :: a14 :: some (.int x) :: t) rest := g_iload X (i := 15) hd rfl k
theorem g_istore_15 (X : gX o γ cc nL own) {a0 a1 a2 a3 a4 a5 a6 a7 a8 a9 a10 a11 a12 a13 a14 : Option Value} {b : Option Value} {t : List (Option Value)} {x : Int32} (hd : decode cc pc = .ok (.istore 15, 2)) (hlt : 15 < nL) (ho : okst a14 = true) (k : G o γ cells slots n σ (pc + 2) (a0 :: a1 :: a2 :: a3 :: a4 :: a5 :: a6 :: a7 :: a8 :: a9 :: a10 :: a11 :: a12 :: a13 :: a14 :: some (.int x) :: t) rest) : G o γ cells slots n σ pc (a0 :: a1 :: a2 :: a3 :: a4 :: a5 :: a6 :: a7 :: a8 :: a9 :: a10 :: a11 :: a12 :: a13 :: a14 :: b :: t) (.int x :: rest) := g_istore X (i := 15) hd hlt ho k
theorem g_lload_15 (X : gX o γ cc nL own) {a0 a1 a2 a3 a4 a5 a6 a7 a8 a9 a10 a11 a12 a13 a14 : Option Value} {t : List (Option Value)} {x : Int64} (hd : decode cc pc = .ok (.lload 15, 2)) (k : G o γ cells slots n σ (pc + 2) (a0 :: a1 :: a2 :: a3 :: a4 :: a5 :: a6 :: a7 :: a8 :: a9 :: a10 :: a11 :: a12 :: a13 :: a14 :: some (.long x) :: t) (.long x :: rest)) : G o γ cells slots n σ pc (a0 :: a1 :: a2 :: a3 :: a4 :: a5 :: a6 :: a7 :: a8 :: a9 :: a10 :: a11 :: a12 :: a13 :: a14 :: some (.long x) :: t) rest := g_lload X (i := 15) hd rfl k
theorem g_lstore_15 (X : gX o γ cc nL own) {a0 a1 a2 a3 a4 a5 a6 a7 a8 a9 a10 a11 a12 a13 a14 : Option Value} {b b2 : Option Value} {t : List (Option Value)} {x : Int64} (hd : decode cc pc = .ok (.lstore 15, 2)) (hlt : 15 + 1 < nL) (ho : okst a14 = true) (k : G o γ cells slots n σ (pc + 2) (a0 :: a1 :: a2 :: a3 :: a4 :: a5 :: a6 :: a7 :: a8 :: a9 :: a10 :: a11 :: a12 :: a13 :: a14 :: some (.long x) :: none :: t) rest) : G o γ cells slots n σ pc (a0 :: a1 :: a2 :: a3 :: a4 :: a5 :: a6 :: a7 :: a8 :: a9 :: a10 :: a11 :: a12 :: a13 :: a14 :: b :: b2 :: t) (.long x :: rest) := g_lstore X (i := 15) hd hlt ho k
theorem g_aload_15 (X : gX o γ cc nL own) {a0 a1 a2 a3 a4 a5 a6 a7 a8 a9 a10 a11 a12 a13 a14 : Option Value} {t : List (Option Value)} {x : Nat} (hd : decode cc pc = .ok (.aload 15, 2)) (k : G o γ cells slots n σ (pc + 2) (a0 :: a1 :: a2 :: a3 :: a4 :: a5 :: a6 :: a7 :: a8 :: a9 :: a10 :: a11 :: a12 :: a13 :: a14 :: some (.ref x) :: t) (.ref x :: rest)) : G o γ cells slots n σ pc (a0 :: a1 :: a2 :: a3 :: a4 :: a5 :: a6 :: a7 :: a8 :: a9 :: a10 :: a11 :: a12 :: a13 :: a14 :: some (.ref x) :: t) rest := g_aload X (i := 15) hd rfl k
theorem g_astore_15 (X : gX o γ cc nL own) {a0 a1 a2 a3 a4 a5 a6 a7 a8 a9 a10 a11 a12 a13 a14 : Option Value} {b : Option Value} {t : List (Option Value)} {x : Nat} (hd : decode cc pc = .ok (.astore 15, 2)) (hlt : 15 < nL) (ho : okst a14 = true) (k : G o γ cells slots n σ (pc + 2) (a0 :: a1 :: a2 :: a3 :: a4 :: a5 :: a6 :: a7 :: a8 :: a9 :: a10 :: a11 :: a12 :: a13 :: a14 :: some (.ref x) :: t) rest) : G o γ cells slots n σ pc (a0 :: a1 :: a2 :: a3 :: a4 :: a5 :: a6 :: a7 :: a8 :: a9 :: a10 :: a11 :: a12 :: a13 :: a14 :: b :: t) (.ref x :: rest) := g_astore X (i := 15) hd hlt ho k
theorem g_iinc_15 (X : gX o γ cc nL own) {a0 a1 a2 a3 a4 a5 a6 a7 a8 a9 a10 a11 a12 a13 a14 : Option Value} {t : List (Option Value)} {z : Int} {x v : Int32} (hd : decode cc pc = .ok (.iinc 15 z, 3)) (hv : x + Int32.ofInt z = v) (hlt : 15 < nL) (ho : okst a14 = true) (k : G o γ cells slots n σ (pc + 3) (a0 :: a1 :: a2 :: a3 :: a4 :: a5 :: a6 :: a7 :: a8 :: a9 :: a10 :: a11 :: a12 :: a13 :: a14 :: some (.int v) :: t) rest) : G o γ cells slots n σ pc (a0 :: a1 :: a2 :: a3 :: a4 :: a5 :: a6 :: a7 :: a8 :: a9 :: a10 :: a11 :: a12 :: a13 :: a14 :: some (.int x) :: t) rest := g_iinc X (i := 15) hd hv rfl hlt ho k
theorem g_iload_16 (X : gX o γ cc nL own) {a0 a1 a2 a3 a4 a5 a6 a7 a8 a9 a10 a11 a12 a13 a14 a15 : Option Value} {t : List (Option Value)} {x : Int32} (hd : decode cc pc = .ok (.iload 16, 2)) (k : G o γ cells slots n σ (pc + 2) (a0 :: a1 :: a2 :: a3 :: a4 :: a5 :: a6 :: a7 :: a8 :: a9 :: a10 :: a11 :: a12 :: a13 :: a14 :: a15 :: some (.int x) :: t) (.int x :: rest)) : G o γ cells slots n σ pc (a0 :: a1 :: a2 :: a3 :: a4 :: a5 :: a6 :: a7 :: a8 :: a9 :: a10 :: a11 :: a12 :: a13 :: a14 :: a15 :: some (.int x) :: t) rest := g_iload X (i := 16) hd rfl k
theorem g_istore_16 (X : gX o γ cc nL own) {a0 a1 a2 a3 a4 a5 a6 a7 a8 a9 a10 a11 a12 a13 a14 a15 : Option Value} {b : Option Value} {t : List (Option Value)} {x : Int32} (hd : decode cc pc = .ok (.istore 16, 2)) (hlt : 16 < nL) (ho : okst a15 = true) (k : G o γ cells slots n σ (pc + 2) (a0 :: a1 :: a2 :: a3 :: a4 :: a5 :: a6 :: a7 :: a8 :: a9 :: a10 :: a11 :: a12 :: a13 :: a14 :: a15 :: some (.int x) :: t) rest) : G o γ cells slots n σ pc (a0 :: a1 :: a2 :: a3 :: a4 :: a5 :: a6 :: a7 :: a8 :: a9 :: a10 :: a11 :: a12 :: a13 :: a14 :: a15 :: b :: t) (.int x :: rest) := g_istore X (i := 16) hd hlt ho k
theorem g_lload_16 (X : gX o γ cc nL own) {a0 a1 a2 a3 a4 a5 a6 a7 a8 a9 a10 a11 a12 a13 a14 a15 : Option Value} {t : List (Option Value)} {x : Int64} (hd : decode cc pc = .ok (.lload 16, 2)) (k : G o γ cells slots n σ (pc + 2) (a0 :: a1 :: a2 :: a3 :: a4 :: a5 :: a6 :: a7 :: a8 :: a9 :: a10 :: a11 :: a12 :: a13 :: a14 :: a15 :: some (.long x) :: t) (.long x :: rest)) : G o γ cells slots n σ pc (a0 :: a1 :: a2 :: a3 :: a4 :: a5 :: a6 :: a7 :: a8 :: a9 :: a10 :: a11 :: a12 :: a13 :: a14 :: a15 :: some (.long x) :: t) rest := g_lload X (i := 16) hd rfl k
theorem g_lstore_16 (X : gX o γ cc nL own) {a0 a1 a2 a3 a4 a5 a6 a7 a8 a9 a10 a11 a12 a13 a14 a15 : Option Value} {b b2 : Option Value} {t : List (Option Value)} {x : Int64} (hd : decode cc pc = .ok (.lstore 16, 2)) (hlt : 16 + 1 < nL) (ho : okst a15 = true) (k : G o γ cells slots n σ (pc + 2) (a0 :: a1 :: a2 :: a3 :: a4 :: a5 :: a6 :: a7 :: a8 :: a9 :: a10 :: a11 :: a12 :: a13 :: a14 :: a15 :: some (.long x) :: none :: t) rest) : G o γ cells slots n σ pc (a0 :: a1 :: a2 :: a3 :: a4 :: a5 :: a6 :: a7 :: a8 :: a9 :: a10 :: a11 :: a12 :: a13 :: a14 :: a15 :: b :: b2 :: t) (.long x :: rest) := g_lstore X (i := 16) hd hlt ho k
theorem g_aload_16 (X : gX o γ cc nL own) {a0 a1 a2 a3 a4 a5 a6 a7 a8 a9 a10 a11 a12 a13 a14 a15 : Option Value} {t : List (Option Value)} {x : Nat} (hd : decode cc pc = .ok (.aload 16, 2)) (k : G o γ cells slots n σ (pc + 2) (a0 :: a1 :: a2 :: a3 :: a4 :: a5 :: a6 :: a7 :: a8 :: a9 :: a10 :: a11 :: a12 :: a13 :: a14 :: a15 :: some (.ref x) :: t) (.ref x :: rest)) : G o γ cells slots n σ pc (a0 :: a1 :: a2 :: a3 :: a4 :: a5 :: a6 :: a7 :: a8 :: a9 :: a10 :: a11 :: a12 :: a13 :: a14 :: a15 :: some (.ref x) :: t) rest := g_aload X (i := 16) hd rfl k
theorem g_astore_16 (X : gX o γ cc nL own) {a0 a1 a2 a3 a4 a5 a6 a7 a8 a9 a10 a11 a12 a13 a14 a15 : Option Value} {b : Option Value} {t : List (Option Value)} {x : Nat} (hd : decode cc pc = .ok (.astore 16, 2)) (hlt : 16 < nL) (ho : okst a15 = true) (k : G o γ cells slots n σ (pc + 2) (a0 :: a1 :: a2 :: a3 :: a4 :: a5 :: a6 :: a7 :: a8 :: a9 :: a10 :: a11 :: a12 :: a13 :: a14 :: a15 :: some (.ref x) :: t) rest) : G o γ cells slots n σ pc (a0 :: a1 :: a2 :: a3 :: a4 :: a5 :: a6 :: a7 :: a8 :: a9 :: a10 :: a11 :: a12 :: a13 :: a14 :: a15 :: b :: t) (.ref x :: rest) := g_astore X (i := 16) hd hlt ho k
theorem g_iinc_16 (X : gX o γ cc nL own) {a0 a1 a2 a3 a4 a5 a6 a7 a8 a9 a10 a11 a12 a13 a14 a15 : Option Value} {t : List (Option Value)} {z : Int} {x v : Int32} (hd : decode cc pc = .ok (.iinc 16 z, 3)) (hv : x + Int32.ofInt z = v) (hlt : 16 < nL) (ho : okst a15 = true) (k : G o γ cells slots n σ (pc + 3) (a0 :: a1 :: a2 :: a3 :: a4 :: a5 :: a6 :: a7 :: a8 :: a9 :: a10 :: a11 :: a12 :: a13 :: a14 :: a15 :: some (.int v) :: t) rest) : G o γ cells slots n σ pc (a0 :: a1 :: a2 :: a3 :: a4 :: a5 :: a6 :: a7 :: a8 :: a9 :: a10 :: a11 :: a12 :: a13 :: a14 :: a15 :: some (.int x) :: t) rest := g_iinc X (i := 16) hd hv rfl hlt ho k
theorem ent_i {o : gOm} {σ : gSt} {k len : Nat} (h : lay k = (0, len)) : ent o σ k = .inl (o.2.1 0, len, .inl (σ.1 k)) := by simp only [ent, h]
theorem ent_l {o : gOm} {σ : gSt} {k len : Nat} (h : lay k = (1, len)) : ent o σ k = .inl (o.2.1 1, len, .inr (.inl (σ.2.1 k))) := by simp only [ent, h]
theorem ent_z {o : gOm} {σ : gSt} {k len : Nat} (h : lay k = (2, len)) : ent o σ k = .inl (o.2.1 2, len, .inl (σ.1 k)) := by simp only [ent, h]
theorem ent_o {o : gOm} {σ : gSt} {k c x : Nat} (h : lay k = (c + 3, x)) : ent o σ k = .inr (c, (List.range (gN c)).map (gfld o σ c k)) := by simp only [ent, h]
theorem vp_inI {j : Int32} {a len : Nat} (ha : j.toNatClampNeg = a) (h0 : ¬ j < 0) (hlt : a < len) : vp_in j len := by
  subst ha
  rintro (h | h)
  · exact h0 h
  · omega
theorem sI_self {σ : gSt} {k j : Nat} {x : Int32} : (sI σ k j x).1 k = upd (σ.1 k) j x := by simp [sI]
theorem sL_self {σ : gSt} {k j : Nat} {x : Int64} : (sL σ k j x).2.1 k = vp_updL (σ.2.1 k) j x := by simp [sL]
theorem gWd_set {n k : Nat} {σ' : gSt} {H H1 : Heap} {e : va_E} (hW : gWd o n σ H) (hk : k < n) (he : ent o σ' k = e) (h : ∀ a, a ≠ k → ent o σ' a = ent o σ a) (hat : va_at o.1 classes (ad o k, e) H1) (z : H1.size = H.size) (oq : ∀ q : Nat, q ≠ ad o k → H1[q]? = H[q]?) : gWd o n σ' H1 := by
  refine ⟨?_, fun h => by rw [z]; exact hW.2.1 h, by rw [z]; exact hW.2.2⟩
  rw [← wl_set (σ := σ) he h]
  exact hW.1.set (A := gA o) wl_D (wl_get hk) hat oq
theorem g_iaload (X : gX o γ cc nL own) {k len a : Nat} {j : Int32} (hd : decode cc pc = .ok (.iaload, 1)) (hlay : lay k = (0, len)) (hk : k < n) (ha : j.toNatClampNeg = a) (h0 : ¬ j < 0) (hlt : a < len) (kk : G o γ cells slots n σ (pc + 1) ls (.int (σ.1 k a) :: rest)) : G o γ cells slots n σ pc ls (.int j :: .ref (ad o k) :: rest) := by
  obtain ⟨p, l, e, R, s, m, args, below, meth, c, Q⟩ := γ
  obtain ⟨hx, hb, hml, hown, hts, hK, hbase, hlk, hfx⟩ := X
  intro H locs lsC hW hS hn hl
  dsimp only at hn hl hS
  subst ha
  exact va_iald hx hb hK hW.1 k 0 (by rw [wl_get hk, ent_i hlay]) rfl (vp_inI rfl h0 hlt) hd (kk H locs lsC hW hS hn hl)
theorem g_baload (X : gX o γ cc nL own) {k len a : Nat} {j : Int32} (hd : decode cc pc = .ok (.baload, 1)) (hlay : lay k = (2, len)) (hk : k < n) (ha : j.toNatClampNeg = a) (h0 : ¬ j < 0) (hlt : a < len) (kk : G o γ cells slots n σ (pc + 1) ls (.int (σ.1 k a) :: rest)) : G o γ cells slots n σ pc ls (.int j :: .ref (ad o k) :: rest) := by
  obtain ⟨p, l, e, R, s, m, args, below, meth, c, Q⟩ := γ
  obtain ⟨hx, hb, hml, hown, hts, hK, hbase, hlk, hfx⟩ := X
  intro H locs lsC hW hS hn hl
  dsimp only at hn hl hS
  subst ha
  exact va_zald hx hb hK hW.1 k 2 (by rw [wl_get hk, ent_z hlay]) rfl (vp_inI rfl h0 hlt) hd (kk H locs lsC hW hS hn hl)
theorem g_laload (X : gX o γ cc nL own) {k len a : Nat} {j : Int32} (hd : decode cc pc = .ok (.laload, 1)) (hlay : lay k = (1, len)) (hk : k < n) (ha : j.toNatClampNeg = a) (h0 : ¬ j < 0) (hlt : a < len) (kk : G o γ cells slots n σ (pc + 1) ls (.long (σ.2.1 k a) :: rest)) : G o γ cells slots n σ pc ls (.int j :: .ref (ad o k) :: rest) := by
  obtain ⟨p, l, e, R, s, m, args, below, meth, c, Q⟩ := γ
  obtain ⟨hx, hb, hml, hown, hts, hK, hbase, hlk, hfx⟩ := X
  intro H locs lsC hW hS hn hl
  dsimp only at hn hl hS
  subst ha
  exact va_lald hx hb hK hW.1 k 1 (by rw [wl_get hk, ent_l hlay]) rfl (vp_inI rfl h0 hlt) hd (kk H locs lsC hW hS hn hl)
theorem g_iastore (X : gX o γ cc nL own) {k len a : Nat} {j : Int32} {x : Int32} (hd : decode cc pc = .ok (.iastore, 1)) (hlay : lay k = (0, len)) (hk : k < n) (ha : j.toNatClampNeg = a) (h0 : ¬ j < 0) (hlt : a < len) (kk : G o γ cells slots n (sI σ k a x) (pc + 1) ls rest) : G o γ cells slots n σ pc ls (.int x :: .int j :: .ref (ad o k) :: rest) := by
  obtain ⟨p, l, e, R, s, m, args, below, meth, c, Q⟩ := γ
  obtain ⟨hx, hb, hml, hown, hts, hK, hbase, hlk, hfx⟩ := X
  intro H locs lsC hW hS hn hl
  dsimp only at hn hl hS
  subst ha
  have hin := vp_inI rfl h0 hlt
  have hc := hW.1 k _ (wl_get hk)
  rw [ent_i hlay] at hc
  refine W.iast hx hb hc ((hK.2 0 _ rfl).1 len (fun b => .int (σ.1 k b))) (fun q => by cases q) (by show ¬ (_ ∨ (arrV _ _ _).slots.size ≤ _); rw [arrV_size]; exact hin) rfl rfl hd fun H1 e1 z oq => ?_
  refine kk H1 _ lsC (gWd_set hW hk (by rw [ent_i hlay, sI_self]) (fun b hb => ent_sI b hb) ?_ z oq) (hS.put z oq (Nat.le_add_right _ _)) hn hl
  show H1[ad o k]? = some (vp_cell _ _)
  rw [e1, vp_cell_i, vp_cell_i, arrV_store]
  congr 2
  funext q
  by_cases hq : q = j.toNatClampNeg
  · subst hq
    simp [updV, upd]
    try rfl
  · simp [updV, upd, hq]
theorem g_lastore (X : gX o γ cc nL own) {k len a : Nat} {j : Int32} {x : Int64} (hd : decode cc pc = .ok (.lastore, 1)) (hlay : lay k = (1, len)) (hk : k < n) (ha : j.toNatClampNeg = a) (h0 : ¬ j < 0) (hlt : a < len) (kk : G o γ cells slots n (sL σ k a x) (pc + 1) ls rest) : G o γ cells slots n σ pc ls (.long x :: .int j :: .ref (ad o k) :: rest) := by
  obtain ⟨p, l, e, R, s, m, args, below, meth, c, Q⟩ := γ
  obtain ⟨hx, hb, hml, hown, hts, hK, hbase, hlk, hfx⟩ := X
  intro H locs lsC hW hS hn hl
  dsimp only at hn hl hS
  subst ha
  have hin := vp_inI rfl h0 hlt
  have hc := hW.1 k _ (wl_get hk)
  rw [ent_l hlay] at hc
  refine W.last hx hb hc ((hK.2 1 _ rfl).1 len (fun b => .long (σ.2.1 k b))) (fun q => by cases q) (by show ¬ (_ ∨ (arrV _ _ _).slots.size ≤ _); rw [arrV_size]; exact hin) rfl rfl hd fun H1 e1 z oq => ?_
  refine kk H1 _ lsC (gWd_set hW hk (by rw [ent_l hlay, sL_self]) (fun b hb => ent_sL b hb) ?_ z oq) (hS.put z oq (Nat.le_add_right _ _)) hn hl
  show H1[ad o k]? = some (vp_cell _ _)
  rw [e1, vp_cell_l, vp_cell_l, arrV_store]
  congr 2
  funext q
  by_cases hq : q = j.toNatClampNeg
  · subst hq
    simp [updV, vp_updL]
    try rfl
  · simp [updV, vp_updL, hq]
theorem g_bastore (X : gX o γ cc nL own) {k len a : Nat} {j : Int32} {x : Int32} (hd : decode cc pc = .ok (.bastore, 1)) (hlay : lay k = (2, len)) (hk : k < n) (ha : j.toNatClampNeg = a) (h0 : ¬ j < 0) (hlt : a < len) (kk : G o γ cells slots n (sI σ k a (vp_nar .boolean x)) (pc + 1) ls rest) : G o γ cells slots n σ pc ls (.int x :: .int j :: .ref (ad o k) :: rest) := by
  obtain ⟨p, l, e, R, s, m, args, below, meth, c, Q⟩ := γ
  obtain ⟨hx, hb, hml, hown, hts, hK, hbase, hlk, hfx⟩ := X
  intro H locs lsC hW hS hn hl
  dsimp only at hn hl hS
  subst ha
  have hin := vp_inI rfl h0 hlt
  have hc := hW.1 k _ (wl_get hk)
  rw [ent_z hlay] at hc
  refine W.zast hx hb hc ((hK.2 2 _ rfl).1 len (fun b => .int (σ.1 k b))) (fun q => by cases q) (by show ¬ (_ ∨ (arrV _ _ _).slots.size ≤ _); rw [arrV_size]; exact hin) rfl rfl hd fun H1 e1 z oq => ?_
  refine kk H1 _ lsC (gWd_set hW hk (by rw [ent_z hlay, sI_self]) (fun b hb => ent_sI b hb) ?_ z oq) (hS.put z oq (Nat.le_add_right _ _)) hn hl
  show H1[ad o k]? = some (vp_cell _ _)
  rw [e1, vp_cell_i, vp_cell_i, arrV_store]
  congr 2
  funext q
  by_cases hq : q = j.toNatClampNeg
  · subst hq
    simp [updV, upd, vp_nar]
    try rfl
  · simp [updV, upd, hq]
theorem gcls {ci : Nat} (h : classes[ci]? = some (gcn ci, gcT ci, gNL.getD ci 0)) : gN ci = gNL.getD ci 0 := rfl
theorem g_getf (X : gX o γ cc nL own) {k ci x j i : Nat} (hd : decode cc pc = .ok (.getfield i, 3)) (hlay : lay k = (ci + 3, x)) (hk : k < n) (hF : FL own i ci j) (kk : G o γ cells slots n σ (pc + 3) ls (gfld o σ ci k j :: rest)) : G o γ cells slots n σ pc ls (.ref (ad o k) :: rest) := by
  obtain ⟨p, l, e, R, s, m, args, below, meth, c, Q⟩ := γ
  obtain ⟨hx, hb, hml, hown, hts, hK, hbase, hlk, hfx⟩ := X
  intro H locs lsC hW hS hn hl
  dsimp only at hn hl hS
  obtain ⟨h1, h2, h3⟩ := hF
  exact va_get (C := gcn ci) (T := gcT ci) (N := gNL.getD ci 0) hx hb hts (gin h2) hown hK hW.1 k (by rw [wl_get hk, ent_o hlay]) h2 j h3 (hts _ h1) (fun _ h9 => h9) (v := gfld o σ ci k j) (by rw [List.getElem?_map, List.getElem?_range (show j < gN ci from h3)]; rfl) hd (kk H locs lsC hW hS hn hl)
theorem g_getI (X : gX o γ cc nL own) {k ci x j i : Nat} (hd : decode cc pc = .ok (.getfield i, 3)) (hlay : lay k = (ci + 3, x)) (hk : k < n) (hF : FL own i ci j) (hty : gty ci j = .int ∨ gty ci j = .boolean) (kk : G o γ cells slots n σ (pc + 3) ls (.int (σ.1 k j) :: rest)) : G o γ cells slots n σ pc ls (.ref (ad o k) :: rest) :=
  g_getf X hd hlay hk hF (by rcases hty with h | h <;> (simp only [gfld, h]; exact kk))
theorem g_getL (X : gX o γ cc nL own) {k ci x j i : Nat} (hd : decode cc pc = .ok (.getfield i, 3)) (hlay : lay k = (ci + 3, x)) (hk : k < n) (hF : FL own i ci j) (hty : gty ci j = .long) (kk : G o γ cells slots n σ (pc + 3) ls (.long (σ.2.1 k j) :: rest)) : G o γ cells slots n σ pc ls (.ref (ad o k) :: rest) :=
  g_getf X hd hlay hk hF (by simp only [gfld, hty]; exact kk)
def isRefTy : FieldType → Bool
  | .object _ => true
  | .array _ => true
  | _ => false
theorem g_getR (X : gX o γ cc nL own) {k ci x j i t : Nat} (hd : decode cc pc = .ok (.getfield i, 3)) (hlay : lay k = (ci + 3, x)) (hk : k < n) (hF : FL own i ci j) (hty : isRefTy (gty ci j) = true) (hr : σ.2.2 k j = some t) (kk : G o γ cells slots n σ (pc + 3) ls (.ref (ad o t) :: rest)) : G o γ cells slots n σ pc ls (.ref (ad o k) :: rest) := by
  refine g_getf X hd hlay hk hF ?_
  have h : gfld o σ ci k j = .ref (ad o t) := by
    unfold gfld
    generalize gty ci j = ty at hty
    cases ty <;> first | (simp [isRefTy] at hty; done) | (simp only [hr]; rfl)
  rw [h]
  exact kk
theorem fld_set {ci k j : Nat} {σ' : gSt} {v : Value} (hj : j < gN ci) (h1 : gfld o σ' ci k j = v) (h2 : ∀ b, b ≠ j → gfld o σ' ci k b = gfld o σ ci k b) : ((List.range (gN ci)).map (gfld o σ ci k)).set j v = (List.range (gN ci)).map (gfld o σ' ci k) := by
  apply List.ext_getElem?
  intro i
  by_cases hi : i < gN ci
  · rw [List.getElem?_map, List.getElem?_range hi]
    by_cases hij : i = j
    · subst hij
      rw [List.getElem?_set_self (by simpa using hi)]
      exact congrArg some h1.symm
    · rw [List.getElem?_set_ne (Ne.symm hij), List.getElem?_map, List.getElem?_range hi]
      exact congrArg some (h2 i hij).symm
  · rw [List.getElem?_eq_none (by simp; omega), List.getElem?_eq_none (by simp; omega)]
theorem gty_ok {ci j : Nat} (h : classes[ci]? = some (gcn ci, gcT ci, gNL.getD ci 0)) (hj : j < gNL.getD ci 0) : parseFieldDescriptor (gcT ci j).2.2.1 = some (gty ci j) := gty_all ci h j hj
theorem g_putf (X : gX o γ cc nL own) {k ci x j i : Nat} {v : Value} {σ' : gSt} (hd : decode cc pc = .ok (.putfield i, 3)) (hlay : lay k = (ci + 3, x)) (hk : k < n) (hF : FL own i ci j) (hfin : (gcT ci j).2.2.2 = false) (hn1 : narrow (gty ci j) v = v) (hfit : fits (gty ci j) v = true) (h1 : gfld o σ' ci k j = v) (h2 : ∀ b, b ≠ j → gfld o σ' ci k b = gfld o σ ci k b) (h3 : ∀ a, a ≠ k → ent o σ' a = ent o σ a) (kk : G o γ cells slots n σ' (pc + 3) ls rest) : G o γ cells slots n σ pc ls (v :: .ref (ad o k) :: rest) := by
  obtain ⟨p, l, e, R, s, m, args, below, meth, c, Q⟩ := γ
  obtain ⟨hx, hb, hml, hown, hts, hK, hbase, hlk, hfx⟩ := X
  intro H locs lsC hW hS hn hl
  dsimp only at hn hl hS
  obtain ⟨g1, g2, g3⟩ := hF
  have he := hW.1 k _ (wl_get hk)
  rw [ent_o hlay] at he
  have hap := va_apart (own := own) hts (gin g2) (gty ci) (fun j hj => gty_ok g2 hj) (gnm ci g2) hK g2
  obtain ⟨r, r1, cell, q1, q2, q3, q4⟩ := he
  have hr : r = (gcn ci, gcT ci, gNL.getD ci 0) := Option.some.inj (r1.symm.trans g2)
  subst hr
  obtain ⟨hSl, hfc, kC, hkC, hkind⟩ := hK.1 ci _ g2
  obtain ⟨cf, kf, fi, f, hi, hsl⟩ := hSl j g3
  have hly := hts _ (gin g2 _ (u_in_lay g3))
  unfold u_lay at hly
  rw [if_neg (by rw [hfin]; decide)] at hly
  have hst := (u_facts hfc hkC (u_lays hts (gin g2) g3) hi).1
  have h6 := u_store hfc hkC hkind hly hi (gty_ok g2 g3) hn1 hfit
  refine W.putK hx hb (f := f) ⟨hown, hts _ g1, ⟨_, _, _, hi⟩, hst⟩ (by rw [q2]; exact h6) q1 q3 (by rw [hsl]; exact k2_hasslot (q4 j g3)) rfl rfl hd fun H' e1 e2 e3 => ?_
  rw [hsl] at e1 ⊢
  refine kk H' _ lsC (gWd_set hW hk (ent_o hlay) h3 ?_ e2 e3) (hS.put e2 e3 (Nat.le_add_right _ _)) hn hl
  rw [← fld_set g3 h1 h2]
  exact ⟨_, g2, t_OB.to (V := updV (vp_V _) j v) ⟨_, e1, q2, q3, t_set q4 hap g3 v⟩ (fun b _ => vp_updV_set (by rw [List.length_map, List.length_range]; exact g3) v b)⟩
theorem g_putfF (X : gX o γ cc nL own) {k ci x j i : Nat} {v : Value} {σ' : gSt} (hd : decode cc pc = .ok (.putfield i, 3)) (hlay : lay k = (ci + 3, x)) (hk : k < n) (hF : FL own i ci j) (hfin : (gcT ci j).2.2.2 = true) (hin2 : γ.2.2.2.2.2.2.2.2.1.name = "<init>") (hdecl : (gcT ci j).1 = own) (hn1 : narrow (gty ci j) v = v) (hfit : fits (gty ci j) v = true) (h1 : gfld o σ' ci k j = v) (h2 : ∀ b, b ≠ j → gfld o σ' ci k b = gfld o σ ci k b) (h3 : ∀ a, a ≠ k → ent o σ' a = ent o σ a) (kk : G o γ cells slots n σ' (pc + 3) ls rest) : G o γ cells slots n σ pc ls (v :: .ref (ad o k) :: rest) := by
  obtain ⟨p, l, e, R, s, m, args, below, meth, c, Q⟩ := γ
  obtain ⟨hx, hb, hml, hown, hts, hK, hbase, hlk, hfx⟩ := X
  intro H locs lsC hW hS hn hl
  dsimp only at hn hl hS
  obtain ⟨g1, g2, g3⟩ := hF
  have he := hW.1 k _ (wl_get hk)
  rw [ent_o hlay] at he
  have hap := va_apart (own := own) hts (gin g2) (gty ci) (fun j hj => gty_ok g2 hj) (gnm ci g2) hK g2
  obtain ⟨r, r1, cell, q1, q2, q3, q4⟩ := he
  have hr : r = (gcn ci, gcT ci, gNL.getD ci 0) := Option.some.inj (r1.symm.trans g2)
  subst hr
  obtain ⟨hSl, hfc, kC, hkC, hkind⟩ := hK.1 ci _ g2
  obtain ⟨cf, kf, fi, f, hi, hsl⟩ := hSl j g3
  have hly := hts _ (gin g2 _ (u_in_lay g3))
  unfold u_lay at hly
  rw [if_pos hfin] at hly
  have hst := (u_facts hfc hkC (u_lays hts (gin g2) g3) hi).1
  have hcf : m.cls = cf := by
    obtain ⟨_, _, c', _, _, _, -, -, hf', -, -, -, hown2, -⟩ := Cond.laysFinal_spec hly
    have e1 : c' = cf := by have := hi.symm.trans hf'; simp at this; exact this.1.symm
    rw [hdecl] at hown2
    rw [← e1]; exact Option.some.inj (hown.symm.trans hown2)
  have h6 := u_fits hfc hkC hkind (Or.inr hly) hi (gty_ok g2 g3) hn1 hfit
  refine W.putFinK hx hb hown (hts _ g1) hi hst hcf hin2 (by rw [q2]; exact h6) q1 q3 (by rw [hsl]; exact k2_hasslot (q4 j g3)) rfl rfl hd fun H' e1 e2 e3 => ?_
  rw [hsl] at e1 ⊢
  refine kk H' _ lsC (gWd_set hW hk (ent_o hlay) h3 ?_ e2 e3) (hS.put e2 e3 (Nat.le_add_right _ _)) hn hl
  rw [← fld_set g3 h1 h2]
  exact ⟨_, g2, t_OB.to (V := updV (vp_V _) j v) ⟨_, e1, q2, q3, t_set q4 hap g3 v⟩ (fun b _ => vp_updV_set (by rw [List.length_map, List.length_range]; exact g3) v b)⟩
/-! CONTRACTS -/
def gRm (d mc ms : Nat) : Room := { frames := d, cells := mc, slots := ms, locals := 40 * d }
def gws (M : gM) : List Cond := Cond.code M.1 M.2.1 M.2.2.1 M.2.2.2.1 :: BIG
def gQS (o : gOm) (n' : Nat) (post : Option Value → gSt → Prop) : Array Value → State → Outcome → State → Prop := fun _ st oc t => (∃ (r : Option Value) (σ' : gSt), oc = .returned r ∧ post r σ' ∧ gWd o n' σ' t.heap) ∧ va_F (gA o) st t
/-- from every state that holds the world σ: M returns, and post says what and which world then -/
def Sp (o : gOm) (l : Launch) (M : gM) (d mc ms : Nat) (av : List Value) (n n' : Nat) (σ : gSt) (post : Option Value → gSt → Prop) : Prop :=
  Met l M.1 (gws M) (gRm d mc ms) (va_Pc av (fun U => gWS o n σ U)) (gQS o n' post) mc ms (gA o)
def pI (P : Int32 → gSt → Prop) : Option Value → gSt → Prop := fun r σ => ∃ x, r = some (.int x) ∧ P x σ
def pL (P : Int64 → gSt → Prop) : Option Value → gSt → Prop := fun r σ => ∃ x, r = some (.long x) ∧ P x σ
def pA (P : Nat → gSt → Prop) : Option Value → gSt → Prop := fun r σ => ∃ x, r = some (.ref x) ∧ P x σ
def pV (P : gSt → Prop) : Option Value → gSt → Prop := fun r σ => r = none ∧ P σ
/-- what the frame's end wants -/
def gE (o : gOm) (γ : gCx) (d mc ms n' : Nat) (ret : Option FieldType) (post : Option Value → gSt → Prop) : Prop := match γ with
  | (p, l, e, R, s, m, args, below, meth, c, Q) => R = gRm d mc ms ∧ meth.sig.returnType = ret ∧ ∀ (H : Heap) (locs : List Loc) (cells slots : Nat) (g : JFrame), W p l e R s m args below meth c H locs cells slots (MQ below (gQS o n' post) args s mc ms (gA o)) g → W p l e R s m args below meth c H locs cells slots Q g
theorem gws_good {M : gM} (hM : MI M) : GoodIn BIG (gws M) := by
  intro w hw
  rcases List.mem_cons.mp hw with h | h
  · subst h
    exact ⟨hM.1, good_of_word (big_good _ hM.1)⟩
  · exact ⟨h, good_of_word (big_good _ h)⟩
theorem gWS_blind {av : List Value} : FrameBlind (va_Pc av (fun U => gWS o n σ U)) := by
  rintro a U g mk ⟨h1, h2, h3, h4, h5⟩
  exact ⟨h1, h2, va_K.moved (u := U) (U := U.calling g mk a) (Vm.Alike.refl U.vm) h3, h4, gFix.same (u := U) (U := U.calling g mk a) rfl h5⟩
def gls (av : List Value) : List (Option Value) := match av with
  | [] => []
  | v :: t => if v.category = 2 then some v :: none :: gls t else some v :: gls t
theorem gls_args : ∀ (av : List Value) (i : Nat) (q : Nat × Value), i ≤ q.1 → (gls av)[q.1 - i]? = some (some q.2) → q ∈ lv_args i av
  | [], i, q, _, h => by simp [gls] at h
  | v :: t, i, (a, x), hi, h => by
    dsimp only at hi h
    by_cases hc : v.category = 2
    · rw [gls, if_pos hc] at h
      rw [lv_args]
      by_cases h0 : a = i
      · subst h0
        rw [Nat.sub_self] at h
        cases h
        simp [hc]
      · by_cases h1 : a = i + 1
        · subst h1
          rw [show i + 1 - i = 1 by omega] at h
          cases h
        · have hr := gls_args t (i + 2) (a, x) (by show i + 2 ≤ a; omega) (by
            show (gls t)[a - (i + 2)]? = _
            rw [show a - i = (a - (i + 2)) + 1 + 1 by omega] at h
            exact h)
          simp [hc, hr]
    · rw [gls, if_neg hc] at h
      rw [lv_args]
      by_cases h0 : a = i
      · subst h0
        rw [Nat.sub_self] at h
        cases h
        simp [hc]
      · have hr := gls_args t (i + 1) (a, x) (by show i + 1 ≤ a; omega) (by
          show (gls t)[a - (i + 1)]? = _
          rw [show a - i = (a - (i + 1)) + 1 by omega] at h
          exact h)
        simp [hc, hr]
end GR
