/-! alone, with what the reference answers known to be 0 or 1 -/
def OKZ2 (A : (Int32 → gSt → Prop) → (String → gSt → Prop) → gSt → Prop) (B : (Int32 → gSt → Prop) → gSt → Prop) (code : String → Int32 → Prop) (σ : gSt) : Prop :=
  A (fun v s => (v = nI 0 ∨ v = nI 1) ∧ ∀ s2, s2 = sL s 115 0 (i2l v) → B (fun w t => (w = nI 0 ∨ w = nI 1) ∧ fin (nI 0) (i2l w) t) s2) (fun E s => ∃ k, code E k ∧ B (fun _ t => fin k (lN 0) t) s) σ
theorem op_alone2 {b : Bool} {σ : gSt} (hI : Inv b σ) (p : Int32) : OKZ2 (fun Q QX s => W_X11_alone p Q QX s) (W_X12_alone p) cdE σ := by
  obtain ⟨N, h, h30, hN1, hN, hsz, hh⟩ := hI.hd
  have hR := hI.1
  unfold OKZ2 W_X11_alone
  rcases ent_or p N (by omega) with ⟨a, ha, rfl⟩ | ⟨hp, -⟩
  · obtain ⟨a1, a2, a3, a4⟩ := hh a ha
    have hcanon : ∀ i, i < N → lst h i = h i := fun i hi => lst_canon hi (fun j hj => (hh j hj).2.2)
    have hpa : (fun i => decide (h i = h a)) a = true := by simp
    -- the reference's part: from any state that has its heaping
    have hm : ∀ (s : gSt) (g : Nat → Nat) (v : Nat), v ≤ 1 → Off [34, 35] σ s → (∀ i, i < N → s.1 34 i = nI (lst g i)) → (∀ x y, x < N → y < N → ((if x = a then 100 + a else h x) = (if y = a then 100 + a else h y) ↔ g x = g y)) → v = (if fa_cnt (fun i => decide (h i = h a)) N ≤ 1 then 0 else 1) → ∀ s2, s2 = sL s 115 0 (i2l (nI v)) → W_X12_alone (nI a) (fun w t => (w = nI 0 ∨ w = nI 1) ∧ fin (nI 0) (i2l w) t) s2 := by
      rintro s g v hv1 hO hs hg hv s2 rfl
      have n1 : (sI (sL s 115 0 (i2l (nI v))) 65 0 (nI 0)).1 65 1 = nI N := by show s.1 65 1 = _; rw [(hO.1 65 (by decide)).1]; exact hN
      have e71 : (sI (sL s 115 0 (i2l (nI v))) 65 0 (nI 0)).1 71 = σ.1 71 := (hO.1 71 (by decide)).1
      refine fI_i (p_isE (N := N) n1 h30 rfl ha (bq_f (by decide) (rI_i (by omega) ?_)))
      rw [e71, a2]
      refine p_sizeOf (N := N) h30 n1 (f := h) (fun i hi => ⟨by rw [e71]; exact (hh i hi).2.1, by have := (hh i hi).2.2.1; omega⟩) (by omega) ?_
      have hcl := fa_cnt_le (fun i => decide (h i = h a)) N
      refine jn1 (nI v) (fun J hJ => br_le (by omega) (by omega) (fun h1 => by rw [hv, if_pos h1] at hJ; exact hJ) (fun h1 => by rw [hv, if_neg (by omega)] at hJ; exact hJ)) ?_
      unfold W_X12_fresh
      rw [nI_add]
      refine wI_i (by omega) ?_
      refine p_number (N := N) (f := fun i => if i = a then 100 + a else h i) h30 (by exact n1) (fun i hi => ?_) (fun t hOt ht => ⟨?_, ?_⟩)
      · have := hh i hi
        rw [sI_get]
        by_cases e : i = a
        · subst e; rw [if_pos ⟨rfl, rfl⟩]; simp only [if_true]; exact ⟨trivial, by omega⟩
        · rw [if_neg (fun q => e q.2), e71]; simp only [if_neg e]; exact ⟨this.2.1, by omega⟩
      · rcases (show v = 0 ∨ v = 1 by omega) with rfl | rfl
        · exact .inl rfl
        · exact .inr rfl
      · refine ⟨by
          rcases (show v = 0 ∨ v = 1 by omega) with rfl | rfl
          · exact .inl rfl
          · exact .inr rfl, ?_⟩
        refine hand_end hI h30 hN hO hs ((Fr.rf.i (by simp) (by decide)).trans (Fr.of hOt (by decide))) (fun i hi => ?_)
        rw [ht i hi, lst_cong hi (fun x y hx hy => hg x y hx hy)]
    refine q_need hN1 h30 ha ⟨_, fun o l => s_isAlone hR h30 hsz (fun i hi => (hh i hi).1) (fun i hi => by have := (hh i hi).2.2.1; omega) a ha, ?_⟩
    refine br_z (fun hf => ?_) (fun ht => ?_)
    · have hne : ¬ fa_cnt (fun i => decide (h i = h a)) N ≤ 1 := by
        rw [cnt_le1 ha hpa, ← or_one (by omega) ha hpa]
        exact of_decide_eq_false hf
      refine ⟨_, fun o l => s_moveOut hR h30 hsz (fun i hi => (hh i hi).1) (fun i hi => by have := (hh i hi).2.2.1; omega) a ha, fun r s hp => ?_⟩
      obtain ⟨rfl, hO, hv⟩ := hp
      refine ⟨rfl, hO.2, .inr rfl, hm s (fun i => if i = a then 30 else h i) 1 (by omega) hO (fun i hi => by rw [hv i, if_pos hi]) (fun x y hx hy => ?_) (by rw [if_neg hne])⟩
      have := (hh x hx).2.2.1
      have := (hh y hy).2.2.1
      by_cases ex : x = a <;> by_cases ey : y = a <;> simp only [ex, ey, if_true, if_false] <;> omega
    · have hone := (or_one (by omega) ha hpa).mp (of_decide_eq_true ht)
      have hle := (cnt_le1 ha hpa).mpr hone
      refine ⟨.inl rfl, hm σ h 0 (by omega) Off.rf (fun i hi => by rw [hcanon i hi]; exact (hh i hi).1) (fun x y hx hy => ?_) (by rw [if_pos hle])⟩
      have h1 := (hh x hx).2.2.1
      have h2 := (hh y hy).2.2.1
      have o1 := hone x hx
      have o2 := hone y hy
      simp only [decide_eq_true_eq] at o1 o2
      by_cases ex : x = a
      · by_cases ey : y = a
        · simp [ex, ey]
        · subst ex
          simp only [if_true, if_neg ey]
          exact ⟨fun q => by omega, fun q => absurd (o2 q.symm) ey⟩
      · by_cases ey : y = a
        · subst ey
          simp only [if_true, if_neg ex]
          exact ⟨fun q => by omega, fun q => absurd (o1 q) ex⟩
        · simp only [if_neg ex, if_neg ey]
  · exact q_need_no hN1 h30 hp ⟨nI 1, ⟨rfl, rfl⟩, fI_i (p_isE_no (N := N) hN h30 rfl hp (bq_t rfl (fin.no hI (.inl rfl))))⟩
/-! the law's helpers: rows for methods with handlers -/
section LWH
variable {o : gOm} {γ : gCx} {cc : ByteArray} {nL : Nat} {own : String} {cells slots n : Nat} {σ : gSt} {pc : Nat} {ls : List (Option Value)} {rest : List Value}
def gTab (γ : gCx) (hh : List (Nat × Nat × Nat × Nat)) : Prop := γ.2.2.2.2.2.2.2.2.2.1.exceptionTable.toList = tableOf hh
theorem g_catch (X : gX o γ cc nL own) {hh : List (Nat × Nat × Nat × Nat)} (T : gTab γ hh) {E name : String} (pre : List ExceptionTableEntry) (x : ExceptionTableEntry) (suf : List ExceptionTableEntry) (hsp : tableOf hh = pre ++ x :: suf)
    (hpass : ∀ z ∈ pre, covers z pc = false ∨ (z.catchType ≠ 0 ∧ ∃ nm : String, Cond.classLink own z.catchType nm ∈ BIG ∧ ∀ s : State, gXs s → va_Nc E nm s)) (hx : covers x pc = true) (h0 : x.catchType ≠ 0) (hlink : Cond.classLink own x.catchType name ∈ BIG) (hcast : Cond.castable E name ∈ gXw)
    (kk : ∀ q : Nat, G o γ cells slots n σ x.handlerPc ls [.ref q]) : GX o γ cells slots n σ E pc ls rest := by
  obtain ⟨p, l, e, R, s, m, args, below, meth, c, Q⟩ := γ
  obtain ⟨hx9, hb, hml, hown, hts, hK, hbase, hlk, hfx⟩ := X
  intro H locs lsC q ce hW hS hn hl h1 h2 h3
  exact vx_catch hown pre x suf (T.trans hsp) (fun z hz => (hpass z hz).imp id (fun ⟨a, nm, b, c⟩ => ⟨a, nm, hts _ b, c s hfx.2.2.2.2.2.2⟩)) hx h0 (hts _ hlink) (va_Nw.use (gXw_tab _ hcast) (hfx.2.2.2.2.2.2.1 _ hcast)) h1 h2 h3 (kk q H locs lsC hW hS hn hl)
def gwsW (M : gM) (hh : List (Nat × Nat × Nat × Nat)) : List Cond := Cond.codeWith M.1 M.2.1 M.2.2.1 M.2.2.2.1 hh :: BIG
def MIW (M : gM) (hh : List (Nat × Nat × Nat × Nat)) : Prop := Cond.codeWith M.1 M.2.1 M.2.2.1 M.2.2.2.1 hh ∈ BIG ∧ plainName M.1.cls = true ∧ (M.1.cls ≠ "java/lang/invoke/MethodHandle" ∧ M.1.cls ≠ "java/lang/invoke/VarHandle" ∧ (parseMethodDescriptor M.1.desc).map (fun d => d.parameters.length) = some M.2.2.2.2) ∧ Cond.initialized M.1.cls ∈ BIG
/-- the contract of a method with handlers -/
def SpW (o : gOm) (l : Launch) (M : gM) (hh : List (Nat × Nat × Nat × Nat)) (d mc ms : Nat) (av : List Value) (n : Nat) (σ : gSt) (post : Option Value → gSt → Prop) : Prop :=
  Met l M.1 (gwsW M hh) (gRm d mc ms) (va_Pc av (fun U => gWS o n σ U)) (gQS o n post) mc ms (gA o)
theorem SpW.of {l : Launch} {M : gM} {hh : List (Nat × Nat × Nat × Nat)} {d mc ms n : Nat} {av : List Value} {σ : gSt} {post : Option Value → gSt → Prop} {ls0 : List (Option Value)} (hM : MIW M hh) (hls : gls av ++ List.replicate (M.2.2.1 - (gls av).length) none = ls0) (hlen : (lg_sl av).length ≤ M.2.2.1) (hlen2 : ls0.length = M.2.2.1)
    (body : ∀ γ : gCx, γ.2.1 = l → gX o γ M.2.1 M.2.2.1 M.1.cls → gE o γ d mc ms n M.2.2.2.1 post → gTab γ hh → G o γ 0 0 n σ 0 ls0 []) : SpW o l M hh d mc ms av n σ post := by
  refine va_MetW (cc := M.2.1) (maxL := M.2.2.1) (ret := M.2.2.2.1) (hh := hh) hM.2.1 rfl ?_
  rintro p e s m args below meth c s₁ B hml ⟨rfl, hw, hK, hb, hf⟩
  have hx := B.exec
  have hts : ∀ w ∈ BIG, w.before av.toArray s = true := fun w h => atoms_spec (ws := gwsW M hh) B.pre w (List.mem_cons_of_mem _ h)
  have htab : c.exceptionTable.toList = tableOf hh := vx_table (x := M.1) B (atoms_spec (ws := gwsW M hh) B.pre _ List.mem_cons_self)
  have hown : s.vm.findClass M.1.cls = some m.cls := findClass_of_methodNamed B.named
  have hbody := body (p, l, e, gRm d mc ms, s, m, av.toArray, below, meth, c, MQ below (gQS o n post) av.toArray s mc ms (gA o)) rfl ⟨hx, B.bytes, hml, hown, hts, hK, hb, B.notSynchronized, hf⟩ ⟨rfl, B.returns, fun _ _ _ _ _ h => h⟩ htab
  rw [lg_entry_eq]
  have hl := lv_entry av (n := M.2.2.1) hlen
  refine hbody s.heap [] _ hw va_S.rf (hlen2.trans hml.symm) ?_
  rw [show (p, l, e, gRm d mc ms, s, m, av.toArray, below, meth, c, MQ below (gQS o n post) av.toArray s mc ms (gA o)).2.2.2.2.2.2.2.2.2.1.maxLocals = M.2.2.1 from hml]
  refine lv_has_mono hl (fun q hq => ?_)
  have h1 := mem_asc.mp hq
  rw [← hls] at h1
  by_cases hlt : q.1 < (gls av).length
  · rw [List.getElem?_append_left hlt] at h1
    exact gls_args av 0 q (Nat.zero_le _) h1
  · rw [List.getElem?_append_right (Nat.le_of_not_lt hlt), List.getElem?_replicate] at h1
    split at h1 <;> cases h1
theorem g_callSW (X : gX o γ cc nL own) {d mc ms n0 : Nat} {ret : Option FieldType} {pst : Option Value → gSt → Prop} (Y : gE o γ d mc ms n0 ret pst) {M : gM} {hh : List (Nat × Nat × Nat × Nat)} {idx d' mc' ms' : Nat} {as : List Value} {PP : Int32 → gSt → Prop} (hd : decode cc pc = .ok (.invokestatic idx, 3)) (hM : MIW M hh) (hlk : LSt own idx M) (hSp : SpW o γ.2.1 M hh d' mc' ms' as n σ (pI PP)) (hn : as.length = M.2.2.2.2)
    (hrm : d' + 1 ≤ d ∧ 8 + (M.2.2.1 + 11) + 40 * d' ≤ 40 * d) (hc : cells + mc' ≤ mc ∧ slots + ms' ≤ ms) (hcat : (rest.map fun v => v.category).sum ≤ 8) {st0 : List Value} (hst : st0 = as.reverse ++ rest)
    (kk : ∀ (x9 : Int32) (σ' : gSt), PP x9 σ' → G o γ (cells + mc') (slots + ms') n σ' (pc + 3) ls (.int x9 :: rest)) : G o γ cells slots n σ pc ls st0 := by
  obtain ⟨p, l, e, R, s, m, args, below, meth, c, Q⟩ := γ
  obtain ⟨hx, hbc, hml, hown, hts, hK, hbase, hlock, hfx⟩ := X
  intro H locs lsC hW hS hln hl
  have hR := Y.1
  subst hR
  have hgood : GoodIn BIG (gwsW M hh) := by
    intro w hw
    rcases List.mem_cons.mp hw with h | h
    · subst h
      exact ⟨hM.1, good_of_word (big_good _ hM.1)⟩
    · exact ⟨h, good_of_word (big_good _ h)⟩
  refine g_back hbase hS hln hl (vx_runSW (hh := hh) (nL := nL) (Ts := BIG) (own := own) (As := as) (rest := rest) (n := M.2.2.2.2) ⟨hx, hbc, hml, hown, hts⟩ hSp ⟨⟨rfl, rfl, hrm.1, hrm.2, pay_in hts hgood, List.mem_cons_self⟩, hts _ hM.1, hts _ hM.2.2.2, ⟨hM.2.2.1.1, hM.2.2.1.2.1⟩, fun sig h => ?_, hts _ hlk.1, hts _ hlk.2⟩ ⟨gWS_blind, fun U hU hWm => ⟨rfl, gWS_at hW hK hbase hfx hS hU hWm⟩⟩ rfl hn (hl.1.trans hml) hst (lv_room hcat) hd hc) (fun r s hp => by obtain ⟨x, rfl, h⟩ := hp; exact kk x s h)
  have h2 := hM.2.2.1.2.2
  rw [h] at h2
  exact (Option.some.inj h2).symm
/-- room given up -/
theorem g_widen {k1 k2 : Nat} (h1 : cells ≤ k1) (h2 : slots ≤ k2) (kk : G o γ k1 k2 n σ pc ls rest) : G o γ cells slots n σ pc ls rest := by
  obtain ⟨p, l, e, R, s, m, args, below, meth, c, Q⟩ := γ
  intro H locs lsC hW hS hn hl
  exact W.widen h1 h2 (kk H locs lsC hW hS hn hl)
end LWH
/-- what a helper leaves: its number, and the reference's call that is to come -/
def LRI (B : (Int32 → gSt → Prop) → gSt → Prop) (k : Int32) (s : gSt) : Prop := (∃ b, s.2.2 = gRf b) ∧ B (fun w t => fin k (i2l w) t) s
def LRL (B : (Int64 → gSt → Prop) → gSt → Prop) (k : Int32) (s : gSt) : Prop := (∃ b, s.2.2 = gRf b) ∧ B (fun w t => fin k w t) s
def LRZ (B : (Int32 → gSt → Prop) → gSt → Prop) (k : Int32) (s : gSt) : Prop := (∃ b, s.2.2 = gRf b) ∧ B (fun w t => (k = 0 → w = nI 0 ∨ w = nI 1) ∧ fin k (i2l w) t) s
