/-! programs as predicates: rI wI .. an access, W_<method> what a method does, and the rows that walk them -/
abbrev rI (σ : gSt) (k len : Nat) (j : Int32) (Q : Int32 → Prop) : Prop := ∃ a, j = nI a ∧ a < len ∧ Q (σ.1 k a)
abbrev rL (σ : gSt) (k len : Nat) (j : Int32) (Q : Int64 → Prop) : Prop := ∃ a, j = nI a ∧ a < len ∧ Q (σ.2.1 k a)
abbrev wI (σ : gSt) (k len : Nat) (j x : Int32) (Q : gSt → Prop) : Prop := ∃ a, j = nI a ∧ a < len ∧ ∀ s, s = sI σ k a x → Q s
abbrev wZ (σ : gSt) (k len : Nat) (j x : Int32) (Q : gSt → Prop) : Prop := (x = 0 ∨ x = 1) ∧ ∃ a, j = nI a ∧ a < len ∧ ∀ s, s = sI σ k a x → Q s
abbrev wL (σ : gSt) (k len : Nat) (j : Int32) (x : Int64) (Q : gSt → Prop) : Prop := ∃ a, j = nI a ∧ a < len ∧ ∀ s, s = sL σ k a x → Q s
abbrev fI (σ : gSt) (k j : Nat) (x : Int32) (Q : gSt → Prop) : Prop := ∀ s, s = sI σ k j x → Q s
abbrev fZ (σ : gSt) (k j : Nat) (x : Int32) (Q : gSt → Prop) : Prop := (x = 0 ∨ x = 1) ∧ ∀ s, s = sI σ k j x → Q s
abbrev fL (σ : gSt) (k j : Nat) (x : Int64) (Q : gSt → Prop) : Prop := ∀ s, s = sL σ k j x → Q s
abbrev cpy (σ : gSt) (k1 len1 k2 len2 : Nat) (j1 j2 m : Int32) (Q : gSt → Prop) : Prop := ∃ a1 a2 m1, j1 = nI a1 ∧ j2 = nI a2 ∧ m = nI m1 ∧ a1 + m1 ≤ len1 ∧ a2 + m1 ≤ len2 ∧ ∀ s, s = sC σ k2 (va_cpy (σ.1 k1) (σ.1 k2) a1 a2 m1) → Q s
def W_J7_fill_53178 (k : Nat) (v : Int32) (Q : gSt → Prop) (σ : gSt) : Prop := ∀ s, Off [k] σ s → (∀ j, s.1 k j = if j < (lay k).2 then v else σ.1 k j) → Q s
def mxI (x y : Int32) : Int32 := if x < y then y else x
def mnI (x y : Int32) : Int32 := if y < x then y else x
/-- a method that is proved already, by any end of it -/
def WSI (M : gM) (d : Nat) (av : gOm → List Value) (Q : Int32 → gSt → Prop) (σ : gSt) : Prop := ∃ post : Option Value → gSt → Prop, (∀ o l, Sp o l M d 0 0 (av o) 116 116 σ post) ∧ ∀ r s, post r s → ∃ x, r = some (.int x) ∧ s.2.2 = σ.2.2 ∧ Q x s
def WSL (M : gM) (d : Nat) (av : gOm → List Value) (Q : Int64 → gSt → Prop) (σ : gSt) : Prop := ∃ post : Option Value → gSt → Prop, (∀ o l, Sp o l M d 0 0 (av o) 116 116 σ post) ∧ ∀ r s, post r s → ∃ x, r = some (.long x) ∧ s.2.2 = σ.2.2 ∧ Q x s
def WSV (M : gM) (d : Nat) (av : gOm → List Value) (Q : gSt → Prop) (σ : gSt) : Prop := ∃ post : Option Value → gSt → Prop, (∀ o l, Sp o l M d 0 0 (av o) 116 116 σ post) ∧ ∀ r s, post r s → r = none ∧ s.2.2 = σ.2.2 ∧ Q s
/-- .. that leaves the store -/
def WPI (M : gM) (d : Nat) (av : gOm → List Value) (Q : Int32 → Prop) (σ : gSt) : Prop := ∃ v, (∀ o l, Sp o l M d 0 0 (av o) 116 116 σ (pI (fun x s => x = v ∧ σ = s))) ∧ Q v
def WPL (M : gM) (d : Nat) (av : gOm → List Value) (Q : Int64 → Prop) (σ : gSt) : Prop := ∃ v, (∀ o l, Sp o l M d 0 0 (av o) 116 116 σ (pL (fun x s => x = v ∧ σ = s))) ∧ Q v
theorem Sp.mono {o : gOm} {l : Launch} {M : gM} {d mc ms : Nat} {av : List Value} {n n' : Nat} {σ : gSt} {post post' : Option Value → gSt → Prop} (h : Sp o l M d mc ms av n n' σ post) (hp : ∀ r s, post r s → post' r s) : Sp o l M d mc ms av n n' σ post' := by
  unfold Sp Met at h ⊢
  refine Jvm.Free.MetFree.mono h (fun _ _ h => h) (fun _ _ _ _ _ h => h) (fun _ _ _ _ _ h => ?_)
  obtain ⟨⟨⟨r, s, h1, h2, h3⟩, h4⟩, h5⟩ := h
  exact ⟨⟨⟨r, s, h1, hp r s h2, h3⟩, h4⟩, h5⟩
section GWp
variable {o : gOm} {γ : gCx} {cc : ByteArray} {nL : Nat} {own : String} {cells slots n : Nat} {σ : gSt} {b : Bool} {pc : Nat} {ls : List (Option Value)} {rest : List Value}
theorem g_iaload_w (X : gX o γ cc nL own) {k len : Nat} {j : Int32} {Q : Int32 → Prop} (hd : decode cc pc = .ok (.iaload, 1)) (hlay : lay k = (0, len)) (hk : k < n) (h : rI σ k len j Q) (kk : ∀ x, Q x → G o γ cells slots n σ (pc + 1) ls (.int x :: rest)) : G o γ cells slots n σ pc ls (.int j :: .ref (ad o k) :: rest) := by
  obtain ⟨a, hj, hlt, h⟩ := h
  exact g_iaload_n X hd hlay hk hj hlt (kk _ h)
theorem g_baload_w (X : gX o γ cc nL own) {k len : Nat} {j : Int32} {Q : Int32 → Prop} (hd : decode cc pc = .ok (.baload, 1)) (hlay : lay k = (2, len)) (hk : k < n) (h : rI σ k len j Q) (kk : ∀ x, Q x → G o γ cells slots n σ (pc + 1) ls (.int x :: rest)) : G o γ cells slots n σ pc ls (.int j :: .ref (ad o k) :: rest) := by
  obtain ⟨a, hj, hlt, h⟩ := h
  exact g_baload_n X hd hlay hk hj hlt (kk _ h)
theorem g_laload_w (X : gX o γ cc nL own) {k len : Nat} {j : Int32} {Q : Int64 → Prop} (hd : decode cc pc = .ok (.laload, 1)) (hlay : lay k = (1, len)) (hk : k < n) (h : rL σ k len j Q) (kk : ∀ x, Q x → G o γ cells slots n σ (pc + 1) ls (.long x :: rest)) : G o γ cells slots n σ pc ls (.int j :: .ref (ad o k) :: rest) := by
  obtain ⟨a, hj, hlt, h⟩ := h
  exact g_laload_n X hd hlay hk hj hlt (kk _ h)
theorem g_iastore_w (X : gX o γ cc nL own) {k len : Nat} {j x : Int32} {Q : gSt → Prop} (hd : decode cc pc = .ok (.iastore, 1)) (hlay : lay k = (0, len)) (hk : k < n) (hR : σ.2.2 = gRf b) (h : wI σ k len j x Q) (kk : ∀ s, s.2.2 = gRf b → Q s → G o γ cells slots n s (pc + 1) ls rest) : G o γ cells slots n σ pc ls (.int x :: .int j :: .ref (ad o k) :: rest) := by
  obtain ⟨a, hj, hlt, h⟩ := h
  exact g_iastore_n X hd hlay hk hj hlt (kk _ hR (h _ rfl))
theorem g_bastore_w (X : gX o γ cc nL own) {k len : Nat} {j x : Int32} {Q : gSt → Prop} (hd : decode cc pc = .ok (.bastore, 1)) (hlay : lay k = (2, len)) (hk : k < n) (hR : σ.2.2 = gRf b) (h : wZ σ k len j x Q) (kk : ∀ s, s.2.2 = gRf b → Q s → G o γ cells slots n s (pc + 1) ls rest) : G o γ cells slots n σ pc ls (.int x :: .int j :: .ref (ad o k) :: rest) := by
  obtain ⟨hx, a, hj, hlt, h⟩ := h
  exact g_bastore_n X hd hlay hk hj hlt hx (kk _ hR (h _ rfl))
theorem g_lastore_w (X : gX o γ cc nL own) {k len : Nat} {j : Int32} {x : Int64} {Q : gSt → Prop} (hd : decode cc pc = .ok (.lastore, 1)) (hlay : lay k = (1, len)) (hk : k < n) (hR : σ.2.2 = gRf b) (h : wL σ k len j x Q) (kk : ∀ s, s.2.2 = gRf b → Q s → G o γ cells slots n s (pc + 1) ls rest) : G o γ cells slots n σ pc ls (.long x :: .int j :: .ref (ad o k) :: rest) := by
  obtain ⟨a, hj, hlt, h⟩ := h
  exact g_lastore_n X hd hlay hk hj hlt (kk _ hR (h _ rfl))
theorem g_putI_w (X : gX o γ cc nL own) {k ci x j i : Nat} {v : Int32} {Q : gSt → Prop} (hd : decode cc pc = .ok (.putfield i, 3)) (hF : FL own i ci j) (hlay : lay k = (ci + 3, x)) (hk : k < n) (hfin : (gcT ci j).2.2.2 = false) (hty : gty ci j = .int) (hR : σ.2.2 = gRf b) (h : fI σ k j v Q) (kk : ∀ s, s.2.2 = gRf b → Q s → G o γ cells slots n s (pc + 3) ls rest) : G o γ cells slots n σ pc ls (.int v :: .ref (ad o k) :: rest) := g_putI X hd hF hlay hk hfin hty (kk _ hR (h _ rfl))
theorem g_putZ_w (X : gX o γ cc nL own) {k ci x j i : Nat} {v : Int32} {Q : gSt → Prop} (hd : decode cc pc = .ok (.putfield i, 3)) (hF : FL own i ci j) (hlay : lay k = (ci + 3, x)) (hk : k < n) (hfin : (gcT ci j).2.2.2 = false) (hty : gty ci j = .boolean) (hR : σ.2.2 = gRf b) (h : fZ σ k j v Q) (kk : ∀ s, s.2.2 = gRf b → Q s → G o γ cells slots n s (pc + 3) ls rest) : G o γ cells slots n σ pc ls (.int v :: .ref (ad o k) :: rest) := g_putZ X hd hF hlay hk hfin hty h.1 (kk _ hR (h.2 _ rfl))
theorem g_putL_w (X : gX o γ cc nL own) {k ci x j i : Nat} {v : Int64} {Q : gSt → Prop} (hd : decode cc pc = .ok (.putfield i, 3)) (hF : FL own i ci j) (hlay : lay k = (ci + 3, x)) (hk : k < n) (hfin : (gcT ci j).2.2.2 = false) (hty : gty ci j = .long) (hR : σ.2.2 = gRf b) (h : fL σ k j v Q) (kk : ∀ s, s.2.2 = gRf b → Q s → G o γ cells slots n s (pc + 3) ls rest) : G o γ cells slots n σ pc ls (.long v :: .ref (ad o k) :: rest) := g_putL X hd hF hlay hk hfin hty (kk _ hR (h _ rfl))
theorem g_copy_w (X : gX o γ cc nL own) {d mc ms n0 : Nat} {ret : Option FieldType} {pst : Option Value → gSt → Prop} (Y : gE o γ d mc ms n0 ret pst) {idx k1 k2 len1 len2 : Nat} {j1 j2 m : Int32} {Q : gSt → Prop} (hd : decode cc pc = .ok (.invokestatic idx, 3)) (hlk : Cond.methodLink own idx arraycopyName ∈ BIG) (h1 : 1 ≤ d) (hl1 : lay k1 = (0, len1)) (hl2 : lay k2 = (0, len2)) (hk1 : k1 < 116) (hk2 : k2 < 116) (hcat : (rest.map fun v => v.category).sum ≤ 8) (hR : σ.2.2 = gRf b) (h : cpy σ k1 len1 k2 len2 j1 j2 m Q) (kk : ∀ s, s.2.2 = gRf b → Q s → G o γ cells slots 116 s (pc + 3) ls rest) : G o γ cells slots 116 σ pc ls (.int m :: .int j2 :: .ref (ad o k2) :: .int j1 :: .ref (ad o k1) :: rest) := by
  obtain ⟨a1, a2, m1, rfl, rfl, rfl, h3, h4, h⟩ := h
  exact g_copy X Y hd hlk h1 hl1 hl2 hk1 hk2 h3 h4 hcat (kk _ hR (h _ rfl))
theorem g_mmax_w (X : gX o γ cc nL own) {d mc ms n0 : Nat} {ret : Option FieldType} {pst : Option Value → gSt → Prop} (Y : gE o γ d mc ms n0 ret pst) {x y : Int32} {idx : Nat} (hd : decode cc pc = .ok (.invokestatic idx, 3)) (hlk : LSt own idx (Lib.Math.max.name, Lib.Math.max.code, 2, some .int, 2)) (h1 : 1 ≤ d) (hc : cells ≤ mc) (hs : slots ≤ ms) (hcat : (rest.map fun v => v.category).sum ≤ 8) (k : G o γ cells slots n σ (pc + 3) ls (.int (mxI x y) :: rest)) : G o γ cells slots n σ pc ls (.int y :: .int x :: rest) := g_mmax X Y hd hlk h1 hc hs hcat k
theorem g_mmin_w (X : gX o γ cc nL own) {d mc ms n0 : Nat} {ret : Option FieldType} {pst : Option Value → gSt → Prop} (Y : gE o γ d mc ms n0 ret pst) {x y : Int32} {idx : Nat} (hd : decode cc pc = .ok (.invokestatic idx, 3)) (hlk : LSt own idx (Lib.Math.min.name, Lib.Math.min.code, 2, some .int, 2)) (h1 : 1 ≤ d) (hc : cells ≤ mc) (hs : slots ≤ ms) (hcat : (rest.map fun v => v.category).sum ≤ 8) (k : G o γ cells slots n σ (pc + 3) ls (.int (mnI x y) :: rest)) : G o γ cells slots n σ pc ls (.int y :: .int x :: rest) := g_mmin X Y hd hlk h1 hc hs hcat k
theorem g_mabs_w (X : gX o γ cc nL own) {d mc ms n0 : Nat} {ret : Option FieldType} {pst : Option Value → gSt → Prop} (Y : gE o γ d mc ms n0 ret pst) {x : Int32} {idx : Nat} (hd : decode cc pc = .ok (.invokestatic idx, 3)) (hlk : LSt own idx (Lib.Math.abs.name, Lib.Math.abs.code, 1, some .int, 1)) (h1 : 1 ≤ d) (hc : cells ≤ mc) (hs : slots ≤ ms) (hcat : (rest.map fun v => v.category).sum ≤ 8) (k : G o γ cells slots n σ (pc + 3) ls (.int (absI x) :: rest)) : G o γ cells slots n σ pc ls (.int x :: rest) := g_mabs X Y hd hlk h1 hc hs hcat k
end GWp
theorem t_J7_fill_53178 {o : gOm} {l : Launch} {σ : gSt} {b : Bool} (hR : σ.2.2 = gRf b) {k : Nat} {v : Int32} {Q : gSt → Prop} (hk : k < 116) (hl : (lay k).1 = 0) (h : W_J7_fill_53178 k v Q σ) : Sp o l mJ7_fill_53178 1 0 0 [.ref (ad o k), .int v] 116 116 σ (pV (fun s => s.2.2 = gRf b ∧ Q s)) :=
  Sp.mono (s_fill v hk (len := (lay k).2) (Prod.ext hl rfl)) (fun r s hp => ⟨hp.1, hp.2.1.2.trans hR, h s hp.2.1 hp.2.2⟩)
theorem t_WSI {o : gOm} {l : Launch} {σ : gSt} {b : Bool} (hR : σ.2.2 = gRf b) {M : gM} {d : Nat} {av : gOm → List Value} {Q : Int32 → gSt → Prop} (h : WSI M d av Q σ) : Sp o l M d 0 0 (av o) 116 116 σ (pI (fun x s => s.2.2 = gRf b ∧ Q x s)) := by
  obtain ⟨post, h1, h2⟩ := h
  exact Sp.mono (h1 o l) (fun r s hp => by obtain ⟨x, e, e2, e3⟩ := h2 r s hp; exact ⟨x, e, e2.trans hR, e3⟩)
theorem t_WSL {o : gOm} {l : Launch} {σ : gSt} {b : Bool} (hR : σ.2.2 = gRf b) {M : gM} {d : Nat} {av : gOm → List Value} {Q : Int64 → gSt → Prop} (h : WSL M d av Q σ) : Sp o l M d 0 0 (av o) 116 116 σ (pL (fun x s => s.2.2 = gRf b ∧ Q x s)) := by
  obtain ⟨post, h1, h2⟩ := h
  exact Sp.mono (h1 o l) (fun r s hp => by obtain ⟨x, e, e2, e3⟩ := h2 r s hp; exact ⟨x, e, e2.trans hR, e3⟩)
theorem t_WSV {o : gOm} {l : Launch} {σ : gSt} {b : Bool} (hR : σ.2.2 = gRf b) {M : gM} {d : Nat} {av : gOm → List Value} {Q : gSt → Prop} (h : WSV M d av Q σ) : Sp o l M d 0 0 (av o) 116 116 σ (pV (fun s => s.2.2 = gRf b ∧ Q s)) := by
  obtain ⟨post, h1, h2⟩ := h
  exact Sp.mono (h1 o l) (fun r s hp => by obtain ⟨e, e2, e3⟩ := h2 r s hp; exact ⟨e, e2.trans hR, e3⟩)
theorem t_WPI {o : gOm} {l : Launch} {σ : gSt} {b : Bool} (_ : σ.2.2 = gRf b) {M : gM} {d : Nat} {av : gOm → List Value} {Q : Int32 → Prop} (h : WPI M d av Q σ) : Sp o l M d 0 0 (av o) 116 116 σ (pI (fun x s => σ = s ∧ Q x)) := by
  obtain ⟨v, h1, h2⟩ := h
  exact Sp.mono (h1 o l) (fun r s hp => by obtain ⟨x, e, rfl, rfl⟩ := hp; exact ⟨_, e, rfl, h2⟩)
theorem t_WPL {o : gOm} {l : Launch} {σ : gSt} {b : Bool} (_ : σ.2.2 = gRf b) {M : gM} {d : Nat} {av : gOm → List Value} {Q : Int64 → Prop} (h : WPL M d av Q σ) : Sp o l M d 0 0 (av o) 116 116 σ (pL (fun x s => σ = s ∧ Q x)) := by
  obtain ⟨v, h1, h2⟩ := h
  exact Sp.mono (h1 o l) (fun r s hp => by obtain ⟨x, e, rfl, rfl⟩ := hp; exact ⟨_, e, rfl, h2⟩)
theorem tsw_out {lo m : Nat} {x : Int32} (hb : lo + m < 1000 ∧ 0 < m) (h : ∀ i, i < m → ¬ x = nI (lo + i)) : x.toInt < (lo : Int) ∨ ((lo + m - 1 : Nat) : Int) < x.toInt := by
  by_cases h1 : x.toInt < (lo : Int)
  · exact .inl h1
  · refine .inr ?_
    by_cases h2 : ((lo + m - 1 : Nat) : Int) < x.toInt
    · exact h2
    · exfalso
      refine h (x.toInt.toNat - lo) (by omega) ?_
      rw [fa_eq, show lo + (x.toInt.toNat - lo) = x.toInt.toNat by omega, nI_toInt (by omega)]
      omega
theorem lsw_out2 {x : Int32} (q0 : ¬ x = nI 0) (q1 : ¬ x = nI 1) : Op.lookupswitch.offset [(0, 28), (1, 52)] 94 x.toInt = 94 := by
  have h0 : ¬ x.toInt = 0 := fun h => q0 (by rw [fa_eq, nI_toInt (by decide)]; exact h)
  have h1 : ¬ x.toInt = 1 := fun h => q1 (by rw [fa_eq, nI_toInt (by decide)]; exact h)
  simp [Op.lookupswitch.offset, Ne.symm h0, Ne.symm h1, h0, h1]
