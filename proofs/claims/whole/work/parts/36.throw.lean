/-! throwers: words, calls by what they answer -/
set_option maxRecDepth 100000 in
theorem hat_X11_382_g : (vx_at0 RX11 382 iaE exN2).all (fun w => goodWord w || decide (w ∈ gXw)) = true := by decide +kernel
set_option maxRecDepth 100000 in
theorem hat_X11_382_t : (vx_at0 RX11 382 iaE exN2).all (fun w => decide (w ∈ lw_tbl)) = true := by decide +kernel
theorem hat_X11_382 : ∀ w ∈ vx_at0 RX11 382 iaE exN2, w ∈ BIG ∨ w ∈ gXw := by
  intro w hw
  have h1 := List.all_eq_true.mp hat_X11_382_g w hw
  have h2 := List.all_eq_true.mp hat_X11_382_t w hw
  simp only [Bool.or_eq_true, decide_eq_true_eq] at h1 h2
  exact h1.elim (fun g => .inl (big_of h2 g)) .inr
set_option maxRecDepth 100000 in
theorem hat_X11_385_g : (vx_at0 RX11 385 nsE exN2).all (fun w => goodWord w || decide (w ∈ gXw)) = true := by decide +kernel
set_option maxRecDepth 100000 in
theorem hat_X11_385_t : (vx_at0 RX11 385 nsE exN2).all (fun w => decide (w ∈ lw_tbl)) = true := by decide +kernel
theorem hat_X11_385 : ∀ w ∈ vx_at0 RX11 385 nsE exN2, w ∈ BIG ∨ w ∈ gXw := by
  intro w hw
  have h1 := List.all_eq_true.mp hat_X11_385_g w hw
  have h2 := List.all_eq_true.mp hat_X11_385_t w hw
  simp only [Bool.or_eq_true, decide_eq_true_eq] at h1 h2
  exact h1.elim (fun g => .inl (big_of h2 g)) .inr
section GWx
variable {o : gOm} {γ : gCx} {cc : ByteArray} {nL : Nat} {own : String} {cells slots n : Nat} {σ : gSt} {pc : Nat} {ls : List (Option Value)} {rest : List Value}
theorem g_callVX_I (X : gX o γ cc nL own) {d mc ms n0 : Nat} {ret : Option FieldType} {pst : Option Value → gSt → Prop} (Y : gE o γ d mc ms n0 ret pst) {M : gM} {idx d' mc' ms' b ci x : Nat} {as : List Value} {PP : Int32 → gSt → Prop} {postX : String → gSt → Prop} (hd : decode cc pc = .ok (.invokevirtual idx, 3)) (hM : MI M) (hlk : LV own idx M) (hSp : SpX o γ.2.1 M d' mc' ms' (.ref (ad o b) :: as) n σ (pI PP) postX) (hlay : lay b = (ci + 3, x)) (hb : b < n) (hcn : gcn ci = M.1.cls) (hci : ∃ q, classes[ci]? = some (gcn ci, q)) (hn : as.length = M.2.2.2.2)
    (hrm : d' + 1 ≤ d ∧ 8 + (M.2.2.1 + 11) + 40 * d' ≤ 40 * d) (hc : cells + mc' ≤ mc ∧ slots + ms' ≤ ms) (hcat : (rest.map fun v => v.category).sum ≤ 8) {st0 : List Value} (hst : st0 = as.reverse ++ .ref (ad o b) :: rest)
    (kx : ∀ (E : String) (σ' : gSt), postX E σ' → GX o γ (cells + mc') (slots + ms') n σ' E pc ls rest)
    (kk : ∀ (x9 : Int32) (σ1 : gSt), PP x9 σ1 → G o γ (cells + mc') (slots + ms') n σ1 (pc + 3) ls (.int x9 :: rest)) : G o γ cells slots n σ pc ls st0 := g_callVX X Y hd hM hlk hSp hlay hb hcn hci hn hrm hc hcat hst kx (fun r s hp => by obtain ⟨x, rfl, h⟩ := hp; exact kk x s h)
theorem g_callVX_L (X : gX o γ cc nL own) {d mc ms n0 : Nat} {ret : Option FieldType} {pst : Option Value → gSt → Prop} (Y : gE o γ d mc ms n0 ret pst) {M : gM} {idx d' mc' ms' b ci x : Nat} {as : List Value} {PP : Int64 → gSt → Prop} {postX : String → gSt → Prop} (hd : decode cc pc = .ok (.invokevirtual idx, 3)) (hM : MI M) (hlk : LV own idx M) (hSp : SpX o γ.2.1 M d' mc' ms' (.ref (ad o b) :: as) n σ (pL PP) postX) (hlay : lay b = (ci + 3, x)) (hb : b < n) (hcn : gcn ci = M.1.cls) (hci : ∃ q, classes[ci]? = some (gcn ci, q)) (hn : as.length = M.2.2.2.2)
    (hrm : d' + 1 ≤ d ∧ 8 + (M.2.2.1 + 11) + 40 * d' ≤ 40 * d) (hc : cells + mc' ≤ mc ∧ slots + ms' ≤ ms) (hcat : (rest.map fun v => v.category).sum ≤ 8) {st0 : List Value} (hst : st0 = as.reverse ++ .ref (ad o b) :: rest)
    (kx : ∀ (E : String) (σ' : gSt), postX E σ' → GX o γ (cells + mc') (slots + ms') n σ' E pc ls rest)
    (kk : ∀ (x9 : Int64) (σ1 : gSt), PP x9 σ1 → G o γ (cells + mc') (slots + ms') n σ1 (pc + 3) ls (.long x9 :: rest)) : G o γ cells slots n σ pc ls st0 := g_callVX X Y hd hM hlk hSp hlay hb hcn hci hn hrm hc hcat hst kx (fun r s hp => by obtain ⟨x, rfl, h⟩ := hp; exact kk x s h)
theorem g_callVX_V (X : gX o γ cc nL own) {d mc ms n0 : Nat} {ret : Option FieldType} {pst : Option Value → gSt → Prop} (Y : gE o γ d mc ms n0 ret pst) {M : gM} {idx d' mc' ms' b ci x : Nat} {as : List Value} {PP : gSt → Prop} {postX : String → gSt → Prop} (hd : decode cc pc = .ok (.invokevirtual idx, 3)) (hM : MI M) (hlk : LV own idx M) (hSp : SpX o γ.2.1 M d' mc' ms' (.ref (ad o b) :: as) n σ (pV PP) postX) (hlay : lay b = (ci + 3, x)) (hb : b < n) (hcn : gcn ci = M.1.cls) (hci : ∃ q, classes[ci]? = some (gcn ci, q)) (hn : as.length = M.2.2.2.2)
    (hrm : d' + 1 ≤ d ∧ 8 + (M.2.2.1 + 11) + 40 * d' ≤ 40 * d) (hc : cells + mc' ≤ mc ∧ slots + ms' ≤ ms) (hcat : (rest.map fun v => v.category).sum ≤ 8) {st0 : List Value} (hst : st0 = as.reverse ++ .ref (ad o b) :: rest)
    (kx : ∀ (E : String) (σ' : gSt), postX E σ' → GX o γ (cells + mc') (slots + ms') n σ' E pc ls rest)
    (kk : ∀ (σ1 : gSt), PP σ1 → G o γ (cells + mc') (slots + ms') n σ1 (pc + 3) ls rest) : G o γ cells slots n σ pc ls st0 := g_callVX X Y hd hM hlk hSp hlay hb hcn hci hn hrm hc hcat hst kx (fun r s hp => by obtain ⟨rfl, h⟩ := hp; exact kk s h)
theorem g_callSX_I (X : gX o γ cc nL own) {d mc ms n0 : Nat} {ret : Option FieldType} {pst : Option Value → gSt → Prop} (Y : gE o γ d mc ms n0 ret pst) {M : gM} {idx d' mc' ms' : Nat} {as : List Value} {PP : Int32 → gSt → Prop} {postX : String → gSt → Prop} (hd : decode cc pc = .ok (.invokestatic idx, 3)) (hM : MI M) (hlk : LSt own idx M) (hSp : SpX o γ.2.1 M d' mc' ms' as n σ (pI PP) postX) (hn : as.length = M.2.2.2.2)
    (hrm : d' + 1 ≤ d ∧ 8 + (M.2.2.1 + 11) + 40 * d' ≤ 40 * d) (hc : cells + mc' ≤ mc ∧ slots + ms' ≤ ms) (hcat : (rest.map fun v => v.category).sum ≤ 8) {st0 : List Value} (hst : st0 = as.reverse ++ rest)
    (kx : ∀ (E : String) (σ' : gSt), postX E σ' → GX o γ (cells + mc') (slots + ms') n σ' E pc ls rest)
    (kk : ∀ (x9 : Int32) (σ1 : gSt), PP x9 σ1 → G o γ (cells + mc') (slots + ms') n σ1 (pc + 3) ls (.int x9 :: rest)) : G o γ cells slots n σ pc ls st0 := g_callSX X Y hd hM hlk hSp hn hrm hc hcat hst kx (fun r s hp => by obtain ⟨x, rfl, h⟩ := hp; exact kk x s h)
theorem g_callSX_L (X : gX o γ cc nL own) {d mc ms n0 : Nat} {ret : Option FieldType} {pst : Option Value → gSt → Prop} (Y : gE o γ d mc ms n0 ret pst) {M : gM} {idx d' mc' ms' : Nat} {as : List Value} {PP : Int64 → gSt → Prop} {postX : String → gSt → Prop} (hd : decode cc pc = .ok (.invokestatic idx, 3)) (hM : MI M) (hlk : LSt own idx M) (hSp : SpX o γ.2.1 M d' mc' ms' as n σ (pL PP) postX) (hn : as.length = M.2.2.2.2)
    (hrm : d' + 1 ≤ d ∧ 8 + (M.2.2.1 + 11) + 40 * d' ≤ 40 * d) (hc : cells + mc' ≤ mc ∧ slots + ms' ≤ ms) (hcat : (rest.map fun v => v.category).sum ≤ 8) {st0 : List Value} (hst : st0 = as.reverse ++ rest)
    (kx : ∀ (E : String) (σ' : gSt), postX E σ' → GX o γ (cells + mc') (slots + ms') n σ' E pc ls rest)
    (kk : ∀ (x9 : Int64) (σ1 : gSt), PP x9 σ1 → G o γ (cells + mc') (slots + ms') n σ1 (pc + 3) ls (.long x9 :: rest)) : G o γ cells slots n σ pc ls st0 := g_callSX X Y hd hM hlk hSp hn hrm hc hcat hst kx (fun r s hp => by obtain ⟨x, rfl, h⟩ := hp; exact kk x s h)
theorem g_callSX_V (X : gX o γ cc nL own) {d mc ms n0 : Nat} {ret : Option FieldType} {pst : Option Value → gSt → Prop} (Y : gE o γ d mc ms n0 ret pst) {M : gM} {idx d' mc' ms' : Nat} {as : List Value} {PP : gSt → Prop} {postX : String → gSt → Prop} (hd : decode cc pc = .ok (.invokestatic idx, 3)) (hM : MI M) (hlk : LSt own idx M) (hSp : SpX o γ.2.1 M d' mc' ms' as n σ (pV PP) postX) (hn : as.length = M.2.2.2.2)
    (hrm : d' + 1 ≤ d ∧ 8 + (M.2.2.1 + 11) + 40 * d' ≤ 40 * d) (hc : cells + mc' ≤ mc ∧ slots + ms' ≤ ms) (hcat : (rest.map fun v => v.category).sum ≤ 8) {st0 : List Value} (hst : st0 = as.reverse ++ rest)
    (kx : ∀ (E : String) (σ' : gSt), postX E σ' → GX o γ (cells + mc') (slots + ms') n σ' E pc ls rest)
    (kk : ∀ (σ1 : gSt), PP σ1 → G o γ (cells + mc') (slots + ms') n σ1 (pc + 3) ls rest) : G o γ cells slots n σ pc ls st0 := g_callSX X Y hd hM hlk hSp hn hrm hc hcat hst kx (fun r s hp => by obtain ⟨rfl, h⟩ := hp; exact kk s h)
end GWx
