/-! objects and arrays are made: the next number of the layout -/
section GM
variable {o : gOm} {γ : gCx} {cc : ByteArray} {nL : Nat} {own : String} {cells slots n : Nat} {σ : gSt} {pc : Nat} {ls : List (Option Value)} {rest : List Value}
def okTy : FieldType → Bool
  | .int => true
  | .long => true
  | .boolean => true
  | .object _ => true
  | .array _ => true
  | _ => false
theorem gty_okTy : ∀ ci, ci < 13 → ∀ j, j < gNL.getD ci 0 → okTy (gty ci j) = true := by decide +kernel
theorem cls_lt {ci : Nat} (h : classes[ci]? = some (gcn ci, gcT ci, gNL.getD ci 0)) : ci < 13 := (List.getElem?_eq_some_iff.mp h).1
theorem gWd_push {H H1 : Heap} {e : va_E} (hW : gWd o n σ H) (hn : n < 116) (he : ent o (sZ σ n) n = e) (hat : va_at o.1 classes (ad o n, e) H1) (z : H1.size = H.size + 1) (oq : ∀ q : Nat, q < H.size → H1[q]? = H[q]?) : gWd o (n + 1) (sZ σ n) H1 := by
  have hz := hW.2.1 hn
  refine ⟨?_, fun _ => by omega, by omega⟩
  rw [← wl_succ (σ := σ) he (fun a ha => ent_sZ a (Nat.ne_of_lt ha))]
  refine va_P.app (hW.1.kept fun k q hk => oq q.1 (hW.1 k q hk).lt) (fun k q hk => ?_)
  have hk0 : k = 0 := by
    have := (List.getElem?_eq_some_iff.mp hk).1
    simp at this
    exact this
  subst hk0
  cases hk
  exact hat
theorem va_S_push {s : State} {H H1 : Heap} {locs : List Loc} (hS : va_S (gA o) s.heap H locs) (z : H1.size = H.size + 1) (oq : ∀ q : Nat, q < H.size → H1[q]? = H[q]?) : va_S (gA o) s.heap H1 locs :=
  ⟨by have := hS.1; omega, fun q h1 h2 => (oq q (Nat.lt_of_lt_of_le h1 hS.1)).trans (hS.2.1 q h1 h2), hS.2.2⟩
theorem g_new (X : gX o γ cc nL own) {d mc ms n0 : Nat} {ret : Option FieldType} {pst : Option Value → gSt → Prop} (Y : gE o γ d mc ms n0 ret pst) {idx ci x : Nat} (hd : decode cc pc = .ok (.new idx, 3)) (hcl : Cond.classLink own idx (gcn ci) ∈ BIG) (hinst : Cond.instantiable (gcn ci) (gN ci) ∈ BIG) (hini : Cond.initialized (gcn ci) ∈ BIG) (hci : classes[ci]? = some (gcn ci, gcT ci, gNL.getD ci 0)) (hlay : lay n = (ci + 3, x)) (hn : n < 116) (hc : cells + 1 ≤ mc) (hs : slots + gN ci ≤ ms) (kk : G o γ (cells + 1) (slots + gN ci) (n + 1) (sZ σ n) (pc + 3) ls (.ref (ad o n) :: rest)) : G o γ cells slots n σ pc ls rest := by
  obtain ⟨p, l, e, R, s, m, args, below, meth, c, Q⟩ := γ
  obtain ⟨hx, hb, hml, hown, hts, hK, hbase, hlk, hfx⟩ := X
  have hR := Y.1
  subst hR
  intro H locs lsC hW hS hln hl
  have hz := hW.2.1 hn
  have hKn := hK.1 ci _ hci
  refine W.newcK hx hb hown (hts _ hcl) (hts _ hinst) (hts _ hini) rfl hd hc hs hKn.2.1 (h := ad o n) hz fun H1 kC hkC e1 z1 o1 => ?_
  rw [show ad o n = H.size from hz.symm] at z1 o1
  refine kk H1 locs lsC (gWd_push hW hn (ent_o hlay) ?_ z1 o1) (va_S_push hS z1 o1) hln hl
  refine ⟨_, hci, (u_born (gty ci) hts (gin hci) hKn hkC e1 (fun j hj => gty_ok hci hj)).to (fun j hj => ?_)⟩
  have hok := gty_okTy ci (cls_lt hci) j hj
  rw [show vp_V ((List.range (gN ci)).map (gfld o (sZ σ n) ci n)) j = gfld o (sZ σ n) ci n j by simp [vp_V, show j < gN ci from hj]]
  unfold gfld
  generalize gty ci j = ty at hok
  cases ty <;> first | (simp [okTy] at hok; done) | (simp [sZ]; rfl) | simp [sZ, va_rf]
theorem g_newai (X : gX o γ cc nL own) {d mc ms n0 : Nat} {ret : Option FieldType} {pst : Option Value → gSt → Prop} (Y : gE o γ d mc ms n0 ret pst) {len : Nat} (hd : decode cc pc = .ok (.newarray .int, 2)) (hlay : lay n = (0, len)) (hn : n < 116) (hc : cells + 1 ≤ mc) (hs : slots + len ≤ ms) (kk : G o γ (cells + 1) (slots + len) (n + 1) (sZ σ n) (pc + 2) ls (.ref (ad o n) :: rest)) : G o γ cells slots n σ pc ls (.int (nI len) :: rest) := by
  have hsm := lay_small hlay
  obtain ⟨p, l, e, R, s, m, args, below, meth, c, Q⟩ := γ
  obtain ⟨hx, hb, hml, hown, hts, hK, hbase, hlk, hfx⟩ := X
  have hR := Y.1
  subst hR
  intro H locs lsC hW hS hln hl
  have hz := hW.2.1 hn
  refine va_newaK (atype := .int) hx hb (hts _ (show Cond.arrayClass (newarray.typeOf .int) ∈ BIG from ac_int)) rfl hd rfl (nI_pos (by omega)) (nI_clamp (n := len) (by omega)) (by have h9 : componentBytes (newarray.typeOf .int) ≤ 8 := (by decide); have := Nat.mul_le_mul_left len h9; omega) hc hs (h := ad o n) hz fun H1 cA e1 z1 o1 hAr hNm => ?_
  rw [show ad o n = H.size from hz.symm] at z1 o1
  have hcA : o.2.1 0 = cA := by
    have h1 := (hK.2 0 _ rfl).2
    exact Option.some.inj (h1.symm.trans hNm)
  refine kk H1 locs lsC (gWd_push hW hn (ent_i hlay) ?_ z1 o1) (va_S_push hS z1 o1) hln hl
  show H1[ad o n]? = some (vp_cell _ _)
  rw [e1, hcA, vp_cell_i]
  congr 2
  funext q
  simp [sZ]
  try rfl
theorem g_newal (X : gX o γ cc nL own) {d mc ms n0 : Nat} {ret : Option FieldType} {pst : Option Value → gSt → Prop} (Y : gE o γ d mc ms n0 ret pst) {len : Nat} (hd : decode cc pc = .ok (.newarray .long, 2)) (hlay : lay n = (1, len)) (hn : n < 116) (hc : cells + 1 ≤ mc) (hs : slots + len ≤ ms) (kk : G o γ (cells + 1) (slots + len) (n + 1) (sZ σ n) (pc + 2) ls (.ref (ad o n) :: rest)) : G o γ cells slots n σ pc ls (.int (nI len) :: rest) := by
  have hsm := lay_small hlay
  obtain ⟨p, l, e, R, s, m, args, below, meth, c, Q⟩ := γ
  obtain ⟨hx, hb, hml, hown, hts, hK, hbase, hlk, hfx⟩ := X
  have hR := Y.1
  subst hR
  intro H locs lsC hW hS hln hl
  have hz := hW.2.1 hn
  refine va_newaK (atype := .long) hx hb (hts _ (show Cond.arrayClass (newarray.typeOf .long) ∈ BIG from ac_long)) rfl hd rfl (nI_pos (by omega)) (nI_clamp (n := len) (by omega)) (by have h9 : componentBytes (newarray.typeOf .long) ≤ 8 := (by decide); have := Nat.mul_le_mul_left len h9; omega) hc hs (h := ad o n) hz fun H1 cA e1 z1 o1 hAr hNm => ?_
  rw [show ad o n = H.size from hz.symm] at z1 o1
  have hcA : o.2.1 1 = cA := by
    have h1 := (hK.2 1 _ rfl).2
    exact Option.some.inj (h1.symm.trans hNm)
  refine kk H1 locs lsC (gWd_push hW hn (ent_l hlay) ?_ z1 o1) (va_S_push hS z1 o1) hln hl
  show H1[ad o n]? = some (vp_cell _ _)
  rw [e1, hcA, vp_cell_l]
  congr 2
  funext q
  simp [sZ]
  try rfl
theorem g_newaz (X : gX o γ cc nL own) {d mc ms n0 : Nat} {ret : Option FieldType} {pst : Option Value → gSt → Prop} (Y : gE o γ d mc ms n0 ret pst) {len : Nat} (hd : decode cc pc = .ok (.newarray .boolean, 2)) (hlay : lay n = (2, len)) (hn : n < 116) (hc : cells + 1 ≤ mc) (hs : slots + len ≤ ms) (kk : G o γ (cells + 1) (slots + len) (n + 1) (sZ σ n) (pc + 2) ls (.ref (ad o n) :: rest)) : G o γ cells slots n σ pc ls (.int (nI len) :: rest) := by
  have hsm := lay_small hlay
  obtain ⟨p, l, e, R, s, m, args, below, meth, c, Q⟩ := γ
  obtain ⟨hx, hb, hml, hown, hts, hK, hbase, hlk, hfx⟩ := X
  have hR := Y.1
  subst hR
  intro H locs lsC hW hS hln hl
  have hz := hW.2.1 hn
  refine va_newaK (atype := .boolean) hx hb (hts _ (show Cond.arrayClass (newarray.typeOf .boolean) ∈ BIG from ac_boolean)) rfl hd rfl (nI_pos (by omega)) (nI_clamp (n := len) (by omega)) (by have h9 : componentBytes (newarray.typeOf .boolean) ≤ 8 := (by decide); have := Nat.mul_le_mul_left len h9; omega) hc hs (h := ad o n) hz fun H1 cA e1 z1 o1 hAr hNm => ?_
  rw [show ad o n = H.size from hz.symm] at z1 o1
  have hcA : o.2.1 2 = cA := by
    have h1 := (hK.2 2 _ rfl).2
    exact Option.some.inj (h1.symm.trans hNm)
  refine kk H1 locs lsC (gWd_push hW hn (ent_z hlay) ?_ z1 o1) (va_S_push hS z1 o1) hln hl
  show H1[ad o n]? = some (vp_cell _ _)
  rw [e1, hcA, vp_cell_i]
  congr 2
  funext q
  simp [sZ]
  try rfl
theorem oi_ins : Cond.instanceMethod Lib.objectInit ∈ BIG := tb_1 34 (by decide +kernel) (by decide +kernel)
theorem oi_code : Cond.code Lib.objectInit ⟨#[0xb1]⟩ 1 none ∈ BIG := tb_1 35 (by decide +kernel) (by decide +kernel)
theorem oi_X11 : Cond.methodLink RX11 3 Lib.objectInit ∈ BIG := tb_1 33 (by decide +kernel) (by decide +kernel)
theorem oi_X0 : Cond.methodLink RX0 3 Lib.objectInit ∈ BIG := tb_2 22 (by decide +kernel) (by decide +kernel)
theorem oi_X1 : Cond.methodLink RX1 3 Lib.objectInit ∈ BIG := tb_1 41 (by decide +kernel) (by decide +kernel)
theorem oi_X2 : Cond.methodLink RX2 3 Lib.objectInit ∈ BIG := tb_1 227 (by decide +kernel) (by decide +kernel)
theorem oi_X3 : Cond.methodLink RX3 3 Lib.objectInit ∈ BIG := tb_1 191 (by decide +kernel) (by decide +kernel)
theorem oi_X4 : Cond.methodLink RX4 3 Lib.objectInit ∈ BIG := tb_1 151 (by decide +kernel) (by decide +kernel)
theorem oi_X5 : Cond.methodLink RX5 3 Lib.objectInit ∈ BIG := tb_2 120 (by decide +kernel) (by decide +kernel)
theorem oi_X6 : Cond.methodLink RX6 3 Lib.objectInit ∈ BIG := tb_2 97 (by decide +kernel) (by decide +kernel)
theorem oi_X7 : Cond.methodLink RX7 3 Lib.objectInit ∈ BIG := tb_1 62 (by decide +kernel) (by decide +kernel)
theorem oi_X8 : Cond.methodLink RX8 3 Lib.objectInit ∈ BIG := tb_2 66 (by decide +kernel) (by decide +kernel)
theorem oi_X9 : Cond.methodLink RX9 3 Lib.objectInit ∈ BIG := tb_1 68 (by decide +kernel) (by decide +kernel)
theorem oi_X10 : Cond.methodLink RX10 3 Lib.objectInit ∈ BIG := tb_2 160 (by decide +kernel) (by decide +kernel)
theorem oi_X12 : Cond.methodLink RX12 7 Lib.objectInit ∈ BIG := tb_7 76 (by decide +kernel) (by decide +kernel)
theorem g_objInit (X : gX o γ cc nL own) {d mc ms n0 : Nat} {ret : Option FieldType} {pst : Option Value → gSt → Prop} (Y : gE o γ d mc ms n0 ret pst) {idx k : Nat} (hd : decode cc pc = .ok (.invokespecial idx, 3)) (hlk : Cond.methodLink own idx Lib.objectInit ∈ BIG) (h1 : 1 ≤ d) (hcat : (rest.map fun v => v.category).sum ≤ 8) (kk : G o γ cells slots n σ (pc + 3) ls rest) : G o γ cells slots n σ pc ls (.ref (ad o k) :: rest) := by
  obtain ⟨p, l, e, R, s, m, args, below, meth, c, Q⟩ := γ
  obtain ⟨hx, hb, hml, hown, hts, hK, hbase, hlk2, hfx⟩ := X
  intro H locs lsC hW hS hn hl
  have hR := Y.1
  subst hR
  exact W.objInit hx hb hown (hts _ hlk) (hts _ oi_ins) (hts _ oi_code) rfl hl.1 rfl hd h1 (by show 2 * 0 + _ + 12 ≤ 40 * d; omega) (kk H locs lsC hW hS hn hl)
end GM
