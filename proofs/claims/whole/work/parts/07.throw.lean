/-! contracts of methods that may throw -/
section GT
variable {o : gOm} {γ : gCx} {cc : ByteArray} {nL : Nat} {own : String} {cells slots n : Nat} {σ : gSt} {pc : Nat} {ls : List (Option Value)} {rest : List Value}
def gXC (o : gOm) (n : Nat) (postX : String → gSt → Prop) : String → State → State → Prop := fun E st t => (∃ σ' : gSt, postX E σ' ∧ gWd o n σ' t.heap) ∧ va_F (gA o) st t
def SpX (o : gOm) (l : Launch) (M : gM) (d mc ms : Nat) (av : List Value) (n : Nat) (σ : gSt) (post : Option Value → gSt → Prop) (postX : String → gSt → Prop) : Prop :=
  vx_Met l M.1 (gws M) (gRm d mc ms) (va_Pc av (fun U => gWS o n σ U)) (gQS o n post) (gXC o n postX) mc ms (gA o)
def gT (o : gOm) (γ : gCx) (mc ms n : Nat) (post : Option Value → gSt → Prop) (postX : String → gSt → Prop) : Prop := match γ with
  | (p, l, e, R, s, m, args, below, meth, c, Q) => Q = vx_MQ below (gQS o n post) (gXC o n postX) args s mc ms (gA o) ∧ (∀ x ∈ c.exceptionTable.toList, False) ∧ l.stackTraces = false
theorem SpX.of {l : Launch} {M : gM} {d mc ms n : Nat} {av : List Value} {σ : gSt} {post : Option Value → gSt → Prop} {postX : String → gSt → Prop} {ls0 : List (Option Value)} (hst : l.stackTraces = false) (hM : MI M) (hls : gls av ++ List.replicate (M.2.2.1 - (gls av).length) none = ls0) (hlen : (lg_sl av).length ≤ M.2.2.1) (hlen2 : ls0.length = M.2.2.1)
    (body : ∀ γ : gCx, γ.2.1 = l → gX o γ M.2.1 M.2.2.1 M.1.cls → gE o γ d mc ms n M.2.2.2.1 post → gT o γ mc ms n post postX → G o γ 0 0 n σ 0 ls0 []) : SpX o l M d mc ms av n σ post postX := by
  refine vx_ofW (cc := M.2.1) (maxL := M.2.2.1) (ret := M.2.2.2.1) hM.2.1 rfl ?_
  rintro p e s m args below meth c s₁ B hml htab ⟨rfl, hw, hK, hb, hf⟩
  have hx := B.exec
  have hts : ∀ w ∈ BIG, w.before av.toArray s = true := fun w h => atoms_spec (ws := gws M) B.pre w (List.mem_cons_of_mem _ h)
  have hown : s.vm.findClass M.1.cls = some m.cls := findClass_of_methodNamed B.named
  have hbody := body (p, l, e, gRm d mc ms, s, m, av.toArray, below, meth, c, vx_MQ below (gQS o n post) (gXC o n postX) av.toArray s mc ms (gA o)) rfl ⟨hx, B.bytes, hml, hown, hts, hK, hb, B.notSynchronized, hf⟩ ⟨rfl, B.returns, fun _ _ _ _ _ h => vx_ret h⟩ ⟨rfl, htab, hst⟩
  rw [lg_entry_eq]
  have hl := lv_entry av (n := M.2.2.1) hlen
  refine hbody s.heap [] _ hw va_S.rf (hlen2.trans hml.symm) ?_
  rw [show (p, l, e, gRm d mc ms, s, m, av.toArray, below, meth, c, vx_MQ below (gQS o n post) (gXC o n postX) av.toArray s mc ms (gA o)).2.2.2.2.2.2.2.2.2.1.maxLocals = M.2.2.1 from hml]
  refine lv_has_mono hl (fun q hq => ?_)
  have h1 := mem_asc.mp hq
  rw [← hls] at h1
  by_cases hlt : q.1 < (gls av).length
  · rw [List.getElem?_append_left hlt] at h1
    exact gls_args av 0 q (Nat.zero_le _) h1
  · rw [List.getElem?_append_right (Nat.le_of_not_lt hlt), List.getElem?_replicate] at h1
    split at h1 <;> cases h1
/-- an exception of class E over the frame -/
def GX (o : gOm) (γ : gCx) (cells slots n : Nat) (σ : gSt) (E : String) (pc : Nat) (ls : List (Option Value)) (rest : List Value) : Prop := match γ with
  | (p, l, e, R, s, m, args, below, meth, c, Q) => ∀ (H : Heap) (locs : List Loc) (lsC : Array Slot) (q : Addr) (ce : Cell), gWd o n σ H → va_S (gA o) s.heap H locs → ls.length = c.maxLocals → lv_has lsC c.maxLocals (asc ls) → H[q]? = some ce → ce.vm = .none → s.vm.findClass E = some ce.cls → vx_W p l e R s m args below meth c H locs cells slots Q (F0 m pc lsC rest) q
theorem gWd_grow {H H1 : Heap} (hW : gWd o 116 σ H) (hz : H.size ≤ H1.size) (hk : ∀ q : Nat, q < H.size → H1[q]? = H[q]?) : gWd o 116 σ H1 :=
  ⟨hW.1.kept fun k q h => hk q.1 (hW.1 k q h).lt, fun h => absurd h (by decide), Nat.le_trans hW.2.2 hz⟩
/-- not caught here -/
theorem g_out (X : gX o γ cc nL own) {mc ms : Nat} {post : Option Value → gSt → Prop} {postX : String → gSt → Prop} {E : String} (T : gT o γ mc ms n post postX) (hp : postX E σ) (hc : cells ≤ mc) (hs : slots ≤ ms) : GX o γ cells slots n σ E pc ls rest := by
  obtain ⟨p, l, e, R, s, m, args, below, meth, c, Q⟩ := γ
  obtain ⟨hx, hb, hml, hown, hts, hK, hbase, hlk, hfx⟩ := X
  obtain ⟨rfl, htab, hst⟩ := T
  intro H locs lsC q ce hW hS hn hl h1 h2 h3
  exact vx_out (fun x hx => (htab x hx).elim) hlk h1 h2 h3 (fun t ht hv => ⟨⟨σ, hp, by rw [ht]; exact hW⟩, hS.F ht⟩) hS.2.2 hc hs
/-- 'throw new E()' -/
theorem g_throw (X : gX o γ cc nL own) {d mc ms n0 : Nat} {ret : Option FieldType} {pst post : Option Value → gSt → Prop} {postX : String → gSt → Prop} (Y : gE o γ d mc ms n0 ret pst) (T : gT o γ mc ms 116 post postX) {cls : String} {names : List String} {ik ic : Nat} (hcls : Bundle.fit cls = true) (hnames : ∀ n ∈ names, Bundle.fit n = true)
    (hk : Cond.classLink own ik cls ∈ BIG) (hini : Cond.initialized cls ∈ BIG) (hat : ∀ w ∈ vx_at0 own ic cls names, w ∈ BIG ∨ w ∈ gXw)
    (d0 : decode cc pc = .ok (.new ik, 3)) (d3 : decode cc (pc + 3) = .ok (.dup, 1)) (d4 : decode cc (pc + 4) = .ok (.invokespecial ic, 3)) (d7 : decode cc (pc + 7) = .ok (.athrow, 1))
    (hd : names.length + 3 < d) (hd2 : 13 * (names.length + 1) + 50 ≤ 40 * d) (hcat : (rest.map fun v => v.category).sum ≤ 8) (hc : cells + 1 ≤ mc) (hs : slots + 6 ≤ ms) (hp : postX cls σ) : G o γ cells slots 116 σ pc ls rest := by
  obtain ⟨p, l, e, R, s, m, args, below, meth, c, Q⟩ := γ
  obtain ⟨hx, hb, hml, hown, hts, hK, hbase, hlk, hfx⟩ := X
  obtain ⟨rfl, htab, hst⟩ := T
  have hR := Y.1
  subst hR
  intro H locs lsC hW hS hn hl
  refine vx_throw0 hx hb hst hown hcls hnames (hts _ hk) (hts _ hini) (fun w h => (hat w h).elim (hts w) (fun h1 => va_Nw.use (gXw_tab w h1) (hfx.2.2.2.2.2.2.1 w h1))) ?_ hfx.2.1 hfx.2.2.1 hS hl.1 d0 d3 d4 d7 (fun x hx => (htab x hx).elim) hd (by show _ ≤ 40 * d; omega) hc hs hlk (fun t hv hz hq => ⟨⟨σ, hp, gWd_grow hW hz hq⟩, Nat.le_trans hS.1 hz, fun q h1 h2 => (hq q (Nat.lt_of_lt_of_le h1 hS.1)).trans (hS.2.1 q h1 h2)⟩) hS.2.2 hc hs
  intro w hw
  have hg : w.onTables = true ∨ goodWord w = true := by
    rcases List.mem_cons.mp hw with h | hw
    · subst h; exact .inr (big_good _ hk)
    rcases List.mem_cons.mp hw with h | hw
    · subst h; exact .inr (big_good _ hini)
    · exact (hat w hw).elim (fun h => .inr (big_good _ h)) (fun h => .inl (gXw_tab w h))
  rcases hg with hg | hg <;> simp [vx_ot, hg]
theorem g_backX {p : Program} {l : Launch} {e : Env} {R : Room} {s : State} {m : MethodId} {args : Array Value} {below : List Frame} {meth : Method} {c : Code} {Q : State → Prop} {H : Heap} {locs : List Loc} {lsC : Array Slot} {mc ms n' : Nat} {st0 : List Value} {a : Array Value} {post : Option Value → gSt → Prop} {postX : String → gSt → Prop} (hS : va_S (gA o) s.heap H locs) (hn : ls.length = c.maxLocals) (hl : lv_has lsC c.maxLocals (asc ls))
    (hr : vx_Run p l e R s m args below meth c H locs cells slots mc ms (F0 m pc lsC st0) rest (gQS o n' post a) (gXC o n' postX) (gA o))
    (kx : ∀ (E : String) (σ' : gSt), postX E σ' → GX o (p, l, e, R, s, m, args, below, meth, c, Q) (cells + mc) (slots + ms) n' σ' E pc ls rest)
    (kk : ∀ (r : Option Value) (σ' : gSt), post r σ' → G o (p, l, e, R, s, m, args, below, meth, c, Q) (cells + mc) (slots + ms) n' σ' (pc + 3) ls (r.toList ++ rest)) : gW (p, l, e, R, s, m, args, below, meth, c, Q) H locs cells slots pc lsC st0 := by
  intro T hT X
  have key : ∀ {st₀ t T' : State} {L : List Loc}, st₀.heap = H → T'.heap = t.heap → va_F (gA o) st₀ t → (∀ q ∈ L, gA o q.base) → va_S (gA o) s.heap T'.heap (locs ++ L) := by
    intro st₀ t T' L h0 e1 ⟨hz, hk⟩ hL
    rw [h0] at hz hk
    exact ⟨Nat.le_trans hS.1 (by rw [e1]; exact hz), fun q h1 h2 => by rw [e1, hk q (Nat.lt_of_lt_of_le h1 hS.1) h2]; exact hS.2.1 q h1 h2, fun q hq => by
      rcases List.mem_append.mp hq with h | h
      · exact hS.2.2 q h
      · exact hL q h⟩
  rcases hr T hT X with ⟨v, st₀, t, T', L, h0, X', hL, e1, e2, ⟨⟨r, σ', hv, hp, hw⟩, hF⟩, st⟩ | ⟨q, st₀, t, T', L, E, ce, h0, X', hL, e1, e2, ⟨⟨σ', hp, hw⟩, hF⟩, hq, hvm, hcl, st⟩
  · cases hv
    obtain ⟨t2, a1, b1⟩ := kk v σ' hp T'.heap (locs ++ L) lsC (by rw [e1]; exact hw) (key h0 e1 hF hL) hn hl T' rfl X'
    exact ⟨t2, st t2 a1, b1⟩
  · obtain ⟨t2, a1, b1⟩ := kx E σ' hp T'.heap (locs ++ L) lsC q ce (by rw [e1]; exact hw) (key h0 e1 hF hL) hn hl (by rw [e1]; exact hq) hvm hcl T' rfl X'
    exact ⟨t2, st.trans a1, b1⟩
/-- a virtual call of a method that may throw -/
theorem g_callVX (X : gX o γ cc nL own) {d mc ms n0 : Nat} {ret : Option FieldType} {pst : Option Value → gSt → Prop} (Y : gE o γ d mc ms n0 ret pst) {M : gM} {idx d' mc' ms' b ci x : Nat} {as : List Value} {post : Option Value → gSt → Prop} {postX : String → gSt → Prop} (hd : decode cc pc = .ok (.invokevirtual idx, 3)) (hM : MI M) (hlk : LV own idx M) (hSp : SpX o γ.2.1 M d' mc' ms' (.ref (ad o b) :: as) n σ post postX) (hlay : lay b = (ci + 3, x)) (hb : b < n) (hcn : gcn ci = M.1.cls) (hci : ∃ q, classes[ci]? = some (gcn ci, q)) (hn : as.length = M.2.2.2.2)
    (hrm : d' + 1 ≤ d ∧ 8 + (M.2.2.1 + 11) + 40 * d' ≤ 40 * d) (hc : cells + mc' ≤ mc ∧ slots + ms' ≤ ms) (hcat : (rest.map fun v => v.category).sum ≤ 8) {st0 : List Value} (hst : st0 = as.reverse ++ .ref (ad o b) :: rest)
    (kx : ∀ (E : String) (σ' : gSt), postX E σ' → GX o γ (cells + mc') (slots + ms') n σ' E pc ls rest)
    (kk : ∀ (r : Option Value) (σ' : gSt), post r σ' → G o γ (cells + mc') (slots + ms') n σ' (pc + 3) ls (r.toList ++ rest)) : G o γ cells slots n σ pc ls st0 := by
  obtain ⟨p, l, e, R, s, m, args, below, meth, c, Q⟩ := γ
  obtain ⟨hx, hbc, hml, hown, hts, hK, hbase, hlock, hfx⟩ := X
  intro H locs lsC hW hS hln hl
  obtain ⟨q9, hq9⟩ := hci
  have hrec := va_recv (q0 := b) hK hW.1 hq9 (by rw [wl_get hb, ent_o hlay])
  have hR := Y.1
  refine g_backX hS hln hl (vx_runV (nL := nL) (Ts := BIG) (own := own) (C := M.1.cls) (b := ad o b) (As := as) (rest := rest) ⟨hx, hbc, hml, hown, hts⟩ hSp ⟨gcall_B hts hM hlk.1 hR hrm, hts _ hlk.2.1, hts _ hlk.2.2⟩ ⟨gWS_blind, by rw [← hcn]; exact hrec, fun U hU hWm => ⟨rfl, gWS_at hW hK hbase hfx hS hU hWm⟩⟩ rfl hn (hl.1.trans hml) hst (lv_room hcat) hd ?_) kx kk
  rw [hR]
  exact hc
theorem g_callSX (X : gX o γ cc nL own) {d mc ms n0 : Nat} {ret : Option FieldType} {pst : Option Value → gSt → Prop} (Y : gE o γ d mc ms n0 ret pst) {M : gM} {idx d' mc' ms' : Nat} {as : List Value} {post : Option Value → gSt → Prop} {postX : String → gSt → Prop} (hd : decode cc pc = .ok (.invokestatic idx, 3)) (hM : MI M) (hlk : LSt own idx M) (hSp : SpX o γ.2.1 M d' mc' ms' as n σ post postX) (hn : as.length = M.2.2.2.2)
    (hrm : d' + 1 ≤ d ∧ 8 + (M.2.2.1 + 11) + 40 * d' ≤ 40 * d) (hc : cells + mc' ≤ mc ∧ slots + ms' ≤ ms) (hcat : (rest.map fun v => v.category).sum ≤ 8) {st0 : List Value} (hst : st0 = as.reverse ++ rest)
    (kx : ∀ (E : String) (σ' : gSt), postX E σ' → GX o γ (cells + mc') (slots + ms') n σ' E pc ls rest)
    (kk : ∀ (r : Option Value) (σ' : gSt), post r σ' → G o γ (cells + mc') (slots + ms') n σ' (pc + 3) ls (r.toList ++ rest)) : G o γ cells slots n σ pc ls st0 := by
  obtain ⟨p, l, e, R, s, m, args, below, meth, c, Q⟩ := γ
  obtain ⟨hx, hbc, hml, hown, hts, hK, hbase, hlock, hfx⟩ := X
  intro H locs lsC hW hS hln hl
  have hR := Y.1
  refine g_backX hS hln hl (vx_runS (nL := nL) (Ts := BIG) (own := own) (As := as) (rest := rest) ⟨hx, hbc, hml, hown, hts⟩ hSp ⟨gcall_B hts hM hlk.1 hR hrm, hts _ hlk.2⟩ ⟨gWS_blind, fun U hU hWm => ⟨rfl, gWS_at hW hK hbase hfx hS hU hWm⟩⟩ rfl hn (hl.1.trans hml) hst (lv_room hcat) hd ?_) kx kk
  rw [hR]
  exact hc
end GT
