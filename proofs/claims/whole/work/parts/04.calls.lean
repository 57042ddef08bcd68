/-! contracts' starts and ends, calls -/
section GC
variable {o : gOm} {γ : gCx} {cc : ByteArray} {nL : Nat} {own : String} {cells slots n : Nat} {σ : gSt} {pc : Nat} {ls : List (Option Value)} {rest : List Value}
theorem Sp.of {l : Launch} {M : gM} {d mc ms n n' : Nat} {av : List Value} {σ : gSt} {post : Option Value → gSt → Prop} {ls0 : List (Option Value)} (hM : MI M) (hls : gls av ++ List.replicate (M.2.2.1 - (gls av).length) none = ls0) (hlen : (lg_sl av).length ≤ M.2.2.1) (hlen2 : ls0.length = M.2.2.1)
    (body : ∀ γ : gCx, γ.2.1 = l → γ.2.2.2.2.2.2.2.2.1.name = M.1.name → gX o γ M.2.1 M.2.2.1 M.1.cls → gE o γ d mc ms n' M.2.2.2.1 post → G o γ 0 0 n σ 0 ls0 []) : Sp o l M d mc ms av n n' σ post := by
  refine Met.ofW (cc := M.2.1) (maxL := M.2.2.1) (ret := M.2.2.2.1) hM.2.1 rfl ?_
  rintro p e s m args below meth c s₁ B hml ⟨rfl, hw, hK, hb, hf⟩
  have hx := B.exec
  have hts : ∀ w ∈ BIG, w.before av.toArray s = true := fun w h => atoms_spec (ws := gws M) B.pre w (List.mem_cons_of_mem _ h)
  have hown : s.vm.findClass M.1.cls = some m.cls := findClass_of_methodNamed B.named
  have hnm : meth.name = M.1.name := (name_of_methodNamed B.named B.method).1
  have hbody := body (p, l, e, gRm d mc ms, s, m, av.toArray, below, meth, c, MQ below (gQS o n' post) av.toArray s mc ms (gA o)) rfl hnm ⟨hx, B.bytes, hml, hown, hts, hK, hb, B.notSynchronized, hf⟩ ⟨rfl, B.returns, fun _ _ _ _ _ h => h⟩
  rw [lg_entry_eq]
  have hl := lv_entry av (n := M.2.2.1) hlen
  refine hbody s.heap [] _ hw va_S.rf (hlen2.trans hml.symm) ?_
  rw [show (p, l, e, gRm d mc ms, s, m, av.toArray, below, meth, c, MQ below (gQS o n' post) av.toArray s mc ms (gA o)).2.2.2.2.2.2.2.2.2.1.maxLocals = M.2.2.1 from hml]
  refine lv_has_mono hl (fun q hq => ?_)
  have h1 := mem_asc.mp hq
  rw [← hls] at h1
  by_cases hlt : q.1 < (gls av).length
  · rw [List.getElem?_append_left hlt] at h1
    exact gls_args av 0 q (Nat.zero_le _) h1
  · rw [List.getElem?_append_right (Nat.le_of_not_lt hlt), List.getElem?_replicate] at h1
    split at h1 <;> cases h1
theorem gE_fin {d mc ms n' : Nat} {ret : Option FieldType} {post : Option Value → gSt → Prop} {p l e R s m args below meth c Q} (Y : gE o (p, l, e, R, s, m, args, below, meth, c, Q) d mc ms n' ret post) (hc : cells ≤ mc) (hs : slots ≤ ms) {H : Heap} {locs : List Loc} {lsC : Array Slot} {st : List Value}
    (k : W p l e R s m args below meth c H locs mc ms (MQ below (gQS o n' post) args s mc ms (gA o)) (F0 m pc lsC st)) : gW (p, l, e, R, s, m, args, below, meth, c, Q) H locs cells slots pc lsC st :=
  Y.2.2 H locs cells slots _ (W.widen hc hs k)
theorem g_ireturn (X : gX o γ cc nL own) {v : Int32} {d mc ms : Nat} {post : Option Value → gSt → Prop} (Y : gE o γ d mc ms n (some .int) post) (hd : decode cc pc = .ok (.ireturn, 1)) (hc : cells ≤ mc) (hs : slots ≤ ms) (hp : post (some (.int v)) σ) : G o γ cells slots n σ pc ls [.int v] := by
  obtain ⟨p, l, e, R, s, m, args, below, meth, c, Q⟩ := γ
  obtain ⟨hx, hb, hml, hown, hts, hK, hbase, hlk, hfx⟩ := X
  intro H locs lsC hW hS hn hl
  refine gE_fin Y hc hs ?_
  exact W.iret hx hb Y.2.1 (fun t ht hWm => ⟨⟨_, σ, rfl, hp, by rw [ht]; exact hW⟩, hS.F ht⟩) hS.2.2 hd hlk
theorem g_zreturn (X : gX o γ cc nL own) {v : Int32} {d mc ms : Nat} {post : Option Value → gSt → Prop} (Y : gE o γ d mc ms n (some .boolean) post) (hd : decode cc pc = .ok (.ireturn, 1)) (hv : v = 0 ∨ v = 1) (hc : cells ≤ mc) (hs : slots ≤ ms) (hp : post (some (.int v)) σ) : G o γ cells slots n σ pc ls [.int v] := by
  obtain ⟨p, l, e, R, s, m, args, below, meth, c, Q⟩ := γ
  obtain ⟨hx, hb, hml, hown, hts, hK, hbase, hlk, hfx⟩ := X
  intro H locs lsC hW hS hn hl
  refine gE_fin Y hc hs ?_
  exact W.zret hx hb Y.2.1 (by rcases hv with rfl | rfl <;> rfl) (fun t ht hWm => ⟨⟨_, σ, rfl, hp, by rw [ht]; exact hW⟩, hS.F ht⟩) hS.2.2 hd hlk
theorem g_lreturn (X : gX o γ cc nL own) {v : Int64} {d mc ms : Nat} {post : Option Value → gSt → Prop} (Y : gE o γ d mc ms n (some .long) post) (hd : decode cc pc = .ok (.lreturn, 1)) (hc : cells ≤ mc) (hs : slots ≤ ms) (hp : post (some (.long v)) σ) : G o γ cells slots n σ pc ls [.long v] := by
  obtain ⟨p, l, e, R, s, m, args, below, meth, c, Q⟩ := γ
  obtain ⟨hx, hb, hml, hown, hts, hK, hbase, hlk, hfx⟩ := X
  intro H locs lsC hW hS hn hl
  refine gE_fin Y hc hs ?_
  exact W.lret hx hb Y.2.1 (fun t ht hWm => ⟨⟨_, σ, rfl, hp, by rw [ht]; exact hW⟩, hS.F ht⟩) hS.2.2 hd hlk
theorem g_return (X : gX o γ cc nL own) {d mc ms : Nat} {post : Option Value → gSt → Prop} (Y : gE o γ d mc ms n none post) (hd : decode cc pc = .ok (.return_, 1)) (hc : cells ≤ mc) (hs : slots ≤ ms) (hp : post none σ) : G o γ cells slots n σ pc ls [] := by
  obtain ⟨p, l, e, R, s, m, args, below, meth, c, Q⟩ := γ
  obtain ⟨hx, hb, hml, hown, hts, hK, hbase, hlk, hfx⟩ := X
  intro H locs lsC hW hS hn hl
  refine gE_fin Y hc hs ?_
  exact W.vret hx hb Y.2.1 (fun t ht hWm => ⟨⟨_, σ, rfl, hp, by rw [ht]; exact hW⟩, hS.F ht⟩) hS.2.2 hd hlk
theorem g_areturn (X : gX o γ cc nL own) {v : Nat} {rt : FieldType} {d mc ms : Nat} {post : Option Value → gSt → Prop} (Y : gE o γ d mc ms n (some rt) post) (hd : decode cc pc = .ok (.areturn, 1)) (hrt : isRefTy rt = true) (hc : cells ≤ mc) (hs : slots ≤ ms) (hp : post (some (.ref v)) σ) : G o γ cells slots n σ pc ls [.ref v] := by
  obtain ⟨p, l, e, R, s, m, args, below, meth, c, Q⟩ := γ
  obtain ⟨hx, hb, hml, hown, hts, hK, hbase, hlk, hfx⟩ := X
  intro H locs lsC hW hS hn hl
  refine gE_fin Y hc hs ?_
  exact W.aret hx hb Y.2.1 (by cases rt <;> first | (exact Or.inl ⟨_, rfl⟩) | (exact Or.inr ⟨_, rfl⟩) | (simp [isRefTy] at hrt; done)) (Or.inr ⟨_, rfl⟩) (fun t ht hWm => ⟨⟨_, σ, rfl, hp, by rw [ht]; exact hW⟩, hS.F ht⟩) hS.2.2 hd hlk
/-- what comes behind any call -/
theorem g_back {p : Program} {l : Launch} {e : Env} {R : Room} {s : State} {m : MethodId} {args : Array Value} {below : List Frame} {meth : Method} {c : Code} {Q : State → Prop} {H : Heap} {locs : List Loc} {lsC : Array Slot} {mc ms n' : Nat} {st0 : List Value} {a : Array Value} {post : Option Value → gSt → Prop} (hbase : gB o ≤ s.heap.size) (hS : va_S (gA o) s.heap H locs) (hn : ls.length = c.maxLocals) (hl : lv_has lsC c.maxLocals (asc ls))
    (hr : va_Run p l e R s m args below meth c H locs cells slots mc ms (F0 m pc lsC st0) rest (gQS o n' post a) (gA o))
    (kk : ∀ (r : Option Value) (σ' : gSt), post r σ' → G o (p, l, e, R, s, m, args, below, meth, c, Q) (cells + mc) (slots + ms) n' σ' (pc + 3) ls (r.toList ++ rest)) : gW (p, l, e, R, s, m, args, below, meth, c, Q) H locs cells slots pc lsC st0 := by
  intro T hT X
  obtain ⟨v, st₀, t, T', L, h0, X', hL, e1, e2, ⟨⟨r, σ', hv, hp, hw⟩, hz, hk⟩, st⟩ := hr T hT X
  cases hv
  rw [h0] at hz hk
  obtain ⟨t2, a1, b1⟩ := kk v σ' hp T'.heap (locs ++ L) lsC (by rw [e1]; exact hw) ⟨Nat.le_trans hS.1 (by rw [e1]; exact hz), fun q h1 h2 => by rw [e1, hk q (Nat.lt_of_lt_of_le h1 hS.1) h2]; exact hS.2.1 q h1 h2, fun q hq => by
      rcases List.mem_append.mp hq with h | h
      · exact hS.2.2 q h
      · exact hL q h⟩ hn hl T' rfl X'
  exact ⟨t2, st t2 a1, b1⟩
theorem gWS_at {s U : State} {H : Heap} {locs : List Loc} (hW : gWd o n σ H) (hK : va_K o.1 classes (gtys o) s) (hbase : gB o ≤ s.heap.size) (hfx : gFix o s s.heap) (hS : va_S (gA o) s.heap H locs) (hU : U.heap = H) (hWm : s.WarmedH U.vm) : gWS o n σ U := by
  refine ⟨by rw [hU]; exact hW, va_K.moved hWm.alike hK, by rw [hU]; exact Nat.le_trans hbase hS.1, ?_⟩
  rw [hU]
  exact gFix.moved hWm (hfx.kept fun a h1 h2 => hS.2.1 a h1 h2)
theorem gcall_B {R : Room} {s : State} {args : Array Value} {M : gM} {idx d mc ms d' mc' ms' : Nat} (hts : ∀ w ∈ BIG, w.before args s = true) (hM : MI M) (hlk : Cond.methodLink own idx M.1 ∈ BIG) (hR : R = gRm d mc ms) (hrm : d' + 1 ≤ d ∧ 8 + (M.2.2.1 + 11) + 40 * d' ≤ 40 * d) : CallB R s args own idx M.1 M.2.1 M.2.2.1 M.2.2.2.1 (gws M) (gRm d' mc' ms') mc' ms' M.2.2.2.2 := by
  subst hR
  exact callB_of M.2.2.2.2 hts (gws_good hM) rfl rfl rfl (hts _ hM.2.2.2) (hts _ hlk) hM.2.2.1 hrm
/-- a virtual call -/
theorem g_callV (X : gX o γ cc nL own) {d mc ms n0 : Nat} {ret : Option FieldType} {pst : Option Value → gSt → Prop} (Y : gE o γ d mc ms n0 ret pst) {M : gM} {idx d' mc' ms' n' b ci x : Nat} {as : List Value} {post : Option Value → gSt → Prop} (hd : decode cc pc = .ok (.invokevirtual idx, 3)) (hM : MI M) (hlk : LV own idx M) (hSp : Sp o γ.2.1 M d' mc' ms' (.ref (ad o b) :: as) n n' σ post) (hlay : lay b = (ci + 3, x)) (hb : b < n) (hcn : gcn ci = M.1.cls) (hci : ∃ q, classes[ci]? = some (gcn ci, q)) (hn : as.length = M.2.2.2.2)
    (hrm : d' + 1 ≤ d ∧ 8 + (M.2.2.1 + 11) + 40 * d' ≤ 40 * d) (hc : cells + mc' ≤ mc ∧ slots + ms' ≤ ms) (hcat : (rest.map fun v => v.category).sum ≤ 8) {st0 : List Value} (hst : st0 = as.reverse ++ .ref (ad o b) :: rest)
    (kk : ∀ (r : Option Value) (σ' : gSt), post r σ' → G o γ (cells + mc') (slots + ms') n' σ' (pc + 3) ls (r.toList ++ rest)) : G o γ cells slots n σ pc ls st0 := by
  obtain ⟨p, l, e, R, s, m, args, below, meth, c, Q⟩ := γ
  obtain ⟨hx, hbc, hml, hown, hts, hK, hbase, hlock, hfx⟩ := X
  intro H locs lsC hW hS hln hl
  obtain ⟨q9, hq9⟩ := hci
  have hrec := va_recv (q0 := b) hK hW.1 hq9 (by rw [wl_get hb, ent_o hlay])
  have hR := Y.1
  refine g_back hbase hS hln hl (va_runV (nL := nL) (Ts := BIG) (own := own) (C := M.1.cls) (b := ad o b) (As := as) (rest := rest) ⟨hx, hbc, hml, hown, hts⟩ hSp ⟨gcall_B hts hM hlk.1 hR hrm, hts _ hlk.2.1, hts _ hlk.2.2⟩ ⟨gWS_blind, by rw [← hcn]; exact hrec, fun U hU hWm => ⟨rfl, gWS_at hW hK hbase hfx hS hU hWm⟩⟩ rfl hn (hl.1.trans hml) hst (lv_room hcat) hd ?_) kk
  rw [hR]
  exact hc
/-- a static call -/
theorem g_callS (X : gX o γ cc nL own) {d mc ms n0 : Nat} {ret : Option FieldType} {pst : Option Value → gSt → Prop} (Y : gE o γ d mc ms n0 ret pst) {M : gM} {idx d' mc' ms' n' : Nat} {as : List Value} {post : Option Value → gSt → Prop} (hd : decode cc pc = .ok (.invokestatic idx, 3)) (hM : MI M) (hlk : LSt own idx M) (hSp : Sp o γ.2.1 M d' mc' ms' as n n' σ post) (hn : as.length = M.2.2.2.2)
    (hrm : d' + 1 ≤ d ∧ 8 + (M.2.2.1 + 11) + 40 * d' ≤ 40 * d) (hc : cells + mc' ≤ mc ∧ slots + ms' ≤ ms) (hcat : (rest.map fun v => v.category).sum ≤ 8) {st0 : List Value} (hst : st0 = as.reverse ++ rest)
    (kk : ∀ (r : Option Value) (σ' : gSt), post r σ' → G o γ (cells + mc') (slots + ms') n' σ' (pc + 3) ls (r.toList ++ rest)) : G o γ cells slots n σ pc ls st0 := by
  obtain ⟨p, l, e, R, s, m, args, below, meth, c, Q⟩ := γ
  obtain ⟨hx, hbc, hml, hown, hts, hK, hbase, hlock, hfx⟩ := X
  intro H locs lsC hW hS hln hl
  have hR := Y.1
  refine g_back hbase hS hln hl (va_runS (nL := nL) (Ts := BIG) (own := own) (As := as) (rest := rest) ⟨hx, hbc, hml, hown, hts⟩ hSp ⟨gcall_B hts hM hlk.1 hR hrm, hts _ hlk.2⟩ ⟨gWS_blind, fun U hU hWm => ⟨rfl, gWS_at hW hK hbase hfx hS hU hWm⟩⟩ rfl hn (hl.1.trans hml) hst (lv_room hcat) hd ?_) kk
  rw [hR]
  exact hc
/-- a static call of a nest mate's private method -/
theorem g_callSN (X : gX o γ cc nL own) {d mc ms n0 : Nat} {ret : Option FieldType} {pst : Option Value → gSt → Prop} (Y : gE o γ d mc ms n0 ret pst) {M : gM} {idx d' mc' ms' n' : Nat} {host : String} {as : List Value} {post : Option Value → gSt → Prop} (hd : decode cc pc = .ok (.invokestatic idx, 3)) (hM : MI M) (hlk : LSN own idx host M) (hSp : Sp o γ.2.1 M d' mc' ms' as n n' σ post) (hn : as.length = M.2.2.2.2)
    (hrm : d' + 1 ≤ d ∧ 8 + (M.2.2.1 + 11) + 40 * d' ≤ 40 * d) (hc : cells + mc' ≤ mc ∧ slots + ms' ≤ ms) (hcat : (rest.map fun v => v.category).sum ≤ 8) {st0 : List Value} (hst : st0 = as.reverse ++ rest)
    (kk : ∀ (r : Option Value) (σ' : gSt), post r σ' → G o γ (cells + mc') (slots + ms') n' σ' (pc + 3) ls (r.toList ++ rest)) : G o γ cells slots n σ pc ls st0 := by
  obtain ⟨p, l, e, R, s, m, args, below, meth, c, Q⟩ := γ
  obtain ⟨hx, hbc, hml, hown, hts, hK, hbase, hlock, hfx⟩ := X
  intro H locs lsC hW hS hln hl
  have hR := Y.1
  subst hR
  refine g_back hbase hS hln hl (va_runSN (nL := nL) (Ts := BIG) (own := own) (As := as) (rest := rest) ⟨hx, hbc, hml, hown, hts⟩ hSp ⟨va_cnB M.2.2.2.2 hts (gws_good hM) rfl rfl rfl (hfx.1 _ hlk.1) (hts _ hM.2.2.2) hM.2.2.1 hrm, hts _ hlk.2, trivial⟩ ⟨gWS_blind, fun U hU hWm => ⟨rfl, gWS_at hW hK hbase hfx hS hU hWm⟩⟩ rfl hn (hl.1.trans hml) hst (lv_room hcat) hd hc) kk
/-- a constructor's call -/
theorem g_callI (X : gX o γ cc nL own) {d mc ms n0 : Nat} {ret : Option FieldType} {pst : Option Value → gSt → Prop} (Y : gE o γ d mc ms n0 ret pst) {y : MethodName} {bytes : ByteArray} {maxL na idx d' mc' ms' n' b : Nat} {as : List Value} {post : Option Value → gSt → Prop} (hd : decode cc pc = .ok (.invokespecial idx, 3)) (hM : MI (y, bytes, maxL, none, na)) (hlk : LI own idx (y, bytes, maxL, none, na)) (hSp : Sp o γ.2.1 (y, bytes, maxL, none, na) d' mc' ms' (.ref (ad o b) :: as) n n' σ post) (hn : as.length = na)
    (hrm : d' + 1 ≤ d ∧ 8 + (maxL + 11) + 40 * d' ≤ 40 * d) (hc : cells + mc' ≤ mc ∧ slots + ms' ≤ ms) (hcat : (rest.map fun v => v.category).sum ≤ 8) {st0 : List Value} (hst : st0 = as.reverse ++ .ref (ad o b) :: rest)
    (kk : ∀ (r : Option Value) (σ' : gSt), post r σ' → G o γ (cells + mc') (slots + ms') n' σ' (pc + 3) ls (r.toList ++ rest)) : G o γ cells slots n σ pc ls st0 := by
  obtain ⟨p, l, e, R, s, m, args, below, meth, c, Q⟩ := γ
  obtain ⟨hx, hbc, hml, hown, hts, hK, hbase, hlock, hfx⟩ := X
  intro H locs lsC hW hS hln hl
  have hR := Y.1
  refine g_back hbase hS hln hl (va_runI (nL := nL) (Ts := BIG) (own := own) (b := ad o b) (As := as) (rest := rest) ⟨hx, hbc, hml, hown, hts⟩ hSp ⟨gcall_B hts hM hlk.1 hR hrm, hlk.2.2, hts _ hlk.2.1⟩ ⟨gWS_blind, fun U hU hWm => ⟨rfl, gWS_at hW hK hbase hfx hS hU hWm⟩⟩ rfl hn (hl.1.trans hml) hst (lv_room hcat) hd ?_) kk
  rw [hR]
  exact hc
/-- .. of a nest mate's private one -/
theorem g_callIN (X : gX o γ cc nL own) {d mc ms n0 : Nat} {ret : Option FieldType} {pst : Option Value → gSt → Prop} (Y : gE o γ d mc ms n0 ret pst) {y : MethodName} {bytes : ByteArray} {maxL na idx d' mc' ms' n' b : Nat} {host : String} {as : List Value} {post : Option Value → gSt → Prop} (hd : decode cc pc = .ok (.invokespecial idx, 3)) (hM : MI (y, bytes, maxL, none, na)) (hlk : LIN own idx host (y, bytes, maxL, none, na)) (hSp : Sp o γ.2.1 (y, bytes, maxL, none, na) d' mc' ms' (.ref (ad o b) :: as) n n' σ post) (hn : as.length = na)
    (hrm : d' + 1 ≤ d ∧ 8 + (maxL + 11) + 40 * d' ≤ 40 * d) (hc : cells + mc' ≤ mc ∧ slots + ms' ≤ ms) (hcat : (rest.map fun v => v.category).sum ≤ 8) {st0 : List Value} (hst : st0 = as.reverse ++ .ref (ad o b) :: rest)
    (kk : ∀ (r : Option Value) (σ' : gSt), post r σ' → G o γ (cells + mc') (slots + ms') n' σ' (pc + 3) ls (r.toList ++ rest)) : G o γ cells slots n σ pc ls st0 := by
  obtain ⟨p, l, e, R, s, m, args, below, meth, c, Q⟩ := γ
  obtain ⟨hx, hbc, hml, hown, hts, hK, hbase, hlock, hfx⟩ := X
  intro H locs lsC hW hS hln hl
  have hR := Y.1
  subst hR
  refine g_back hbase hS hln hl (va_runIN (nL := nL) (Ts := BIG) (own := own) (b := ad o b) (As := as) (rest := rest) ⟨hx, hbc, hml, hown, hts⟩ hSp ⟨va_cnB na hts (gws_good hM) rfl rfl rfl (hfx.1 _ hlk.1) (hts _ hM.2.2.2) hM.2.2.1 hrm, hlk.2.2, hts _ hlk.2.1⟩ ⟨gWS_blind, fun U hU hWm => ⟨rfl, gWS_at hW hK hbase hfx hS hU hWm⟩⟩ rfl hn (hl.1.trans hml) hst (lv_room hcat) hd hc) kk
end GC
