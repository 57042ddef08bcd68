/-! strings: the JDK's own members over the sixteen texts -/
theorem sw_value : Cond.fieldLink RJ0 9 "java/lang/String" "value" "[B" ∈ BIG := tb_10 134 rfl (by decide +kernel)
theorem sw_coder : Cond.fieldLink RJ0 15 "java/lang/String" "coder" "B" ∈ BIG := tb_10 135 rfl (by decide +kernel)
theorem sw_compact : Cond.fieldLink RJ0 38 "java/lang/String" "COMPACT_STRINGS" "Z" ∈ BIG := tb_5 36 rfl (by decide +kernel)
theorem sw_sioobe : Cond.fieldLink RJ0 1053 "jdk/internal/util/Preconditions" "SIOOBE_FORMATTER" "Ljava/util/function/BiFunction;" ∈ BIG := tb_5 52 rfl (by decide +kernel)
section GSTR
variable {o : gOm} {γ : gCx} {cc : ByteArray} {nL : Nat} {own : String} {cells slots n : Nat} {σ : gSt} {pc : Nat} {ls : List (Option Value)} {rest : List Value}
theorem g_sret (X : gX o γ cc nL own) {v : Int32} {d mc ms : Nat} {ty : FieldType} {post : Option Value → gSt → Prop} (Y : gE o γ d mc ms n (some ty) post) (hd : decode cc pc = .ok (.ireturn, 1)) (hv : narrow ty (.int v) = .int v) (hc : cells ≤ mc) (hs : slots ≤ ms) (hp : post (some (.int v)) σ) : G o γ cells slots n σ pc ls [.int v] := by
  obtain ⟨p, l, e, R, s, m, args, below, meth, c, Q⟩ := γ
  obtain ⟨hx, hb, hml, hown, hts, hK, hbase, hlk, hfx⟩ := X
  intro H locs lsC hW hS hn hl
  refine gE_fin Y hc hs ?_
  exact W.zret hx hb Y.2.1 hv (fun t ht hWm => ⟨⟨_, σ, rfl, hp, by rw [ht]; exact hW⟩, hS.F ht⟩) hS.2.2 hd hlk
theorem g_getOF (X : gX o γ cc nL own) {idx q : Nat} {o9 n9 d9 : String} {v : Value} (hd : decode cc pc = .ok (.getfield idx, 3)) (hlk : Cond.fieldLink own idx o9 n9 d9 ∈ BIG) (hE : ∀ s : State, gFix o s s.heap → va_OF o9 n9 d9 v q (gA o) s s.heap) (kk : G o γ cells slots n σ (pc + 3) ls (v :: rest)) : G o γ cells slots n σ pc ls (.ref q :: rest) := by
  obtain ⟨p, l, e, R, s, m, args, below, meth, c, Q⟩ := γ
  obtain ⟨hx, hb, hml, hown, hts, hK, hbase, hlk9, hfx⟩ := X
  intro H locs lsC hW hS hn hl
  exact vk_getf hx hb (hE s hfx) hS hown (hts _ hlk) (fun x h => h) hd (kk H locs lsC hW hS hn hl)
theorem g_getZ (X : gX o γ cc nL own) {idx : Nat} {o9 n9 d9 : String} {v : Value} (hd : decode cc pc = .ok (.getstatic idx, 3)) (hlk : Cond.fieldLink own idx o9 n9 d9 ∈ BIG) (hE : ∀ s : State, gFix o s s.heap → va_Z o9 n9 d9 v (gA o) s s.heap) (kk : G o γ cells slots n σ (pc + 3) ls (v :: rest)) : G o γ cells slots n σ pc ls rest := by
  obtain ⟨p, l, e, R, s, m, args, below, meth, c, Q⟩ := γ
  obtain ⟨hx, hb, hml, hown, hts, hK, hbase, hlk9, hfx⟩ := X
  intro H locs lsC hW hS hn hl
  exact va_gets hx hb (hE s hfx) hS hown (hts _ hlk) (fun x h => h) hd (kk H locs lsC hW hS hn hl)
theorem g_getZq (X : gX o γ cc nL own) {idx : Nat} {o9 n9 d9 : String} (hd : decode cc pc = .ok (.getstatic idx, 3)) (hlk : Cond.fieldLink own idx o9 n9 d9 ∈ BIG) (hE : ∀ s : State, gFix o s s.heap → va_Zq o9 n9 d9 (gA o) s s.heap) (k0 : G o γ cells slots n σ (pc + 3) ls (.null :: rest)) (k1 : ∀ t : Nat, G o γ cells slots n σ (pc + 3) ls (.ref t :: rest)) : G o γ cells slots n σ pc ls rest := by
  obtain ⟨p, l, e, R, s, m, args, below, meth, c, Q⟩ := γ
  obtain ⟨hx, hb, hml, hown, hts, hK, hbase, hlk9, hfx⟩ := X
  intro H locs lsC hW hS hn hl
  rcases hE s hfx with h | ⟨t, h⟩
  · exact va_gets hx hb h hS hown (hts _ hlk) (fun x h => h) hd (k0 H locs lsC hW hS hn hl)
  · exact va_gets hx hb h hS hown (hts _ hlk) (fun x h => h) hd (k1 t H locs lsC hW hS hn hl)
theorem g_tlen (X : gX o γ cc nL own) {t N : Nat} {ty : FieldType} {f : Nat → Value} (hd : decode cc pc = .ok (.arraylength, 1)) (hE : ∀ s : State, gFix o s s.heap → va_T ty t N f (gA o) s s.heap) (kk : G o γ cells slots n σ (pc + 1) ls (.int (nI N) :: rest)) : G o γ cells slots n σ pc ls (.ref t :: rest) := by
  obtain ⟨p, l, e, R, s, m, args, below, meth, c, Q⟩ := γ
  obtain ⟨hx, hb, hml, hown, hts, hK, hbase, hlk9, hfx⟩ := X
  intro H locs lsC hW hS hn hl
  exact va_tlen hx hb (hE s hfx) hS rfl hd (kk H locs lsC hW hS hn hl)
theorem g_tby (X : gX o γ cc nL own) {t N j : Nat} {f : Nat → Value} {v : Value} (hd : decode cc pc = .ok (.baload, 1)) (hE : ∀ s : State, gFix o s s.heap → va_T .byte t N f (gA o) s s.heap) (hj : j < N) (hN : N < 2147483648) (hv : f j = v) (kk : G o γ cells slots n σ (pc + 1) ls (v :: rest)) : G o γ cells slots n σ pc ls (.int (nI j) :: .ref t :: rest) := by
  obtain ⟨p, l, e, R, s, m, args, below, meth, c, Q⟩ := γ
  obtain ⟨hx, hb, hml, hown, hts, hK, hbase, hlk9, hfx⟩ := X
  intro H locs lsC hW hS hn hl
  have e1 : (nI j).toNatClampNeg = j := nI_clamp (by omega)
  exact va_tb hx hb (hE s hfx) hS (i := nI j) (fun w => by
    rcases w with w | w
    · exact nI_pos (by omega) w
    · rw [e1] at w; omega) (by rw [e1]; exact hv) hd (kk H locs lsC hW hS hn hl)
theorem g_ldcS (X : gX o γ cc nL own) {idx q : Nat} {tx : String} (hd : decode cc pc = .ok (.ldc idx, 2)) (hE : ∀ s : State, gFix o s s.heap → vk_R own idx tx q s) (kk : G o γ cells slots n σ (pc + 2) ls (.ref q :: rest)) : G o γ cells slots n σ pc ls rest := by
  obtain ⟨p, l, e, R, s, m, args, below, meth, c, Q⟩ := γ
  obtain ⟨hx, hb, hml, hown, hts, hK, hbase, hlk9, hfx⟩ := X
  intro H locs lsC hW hS hn hl
  exact va_ldcS hx hb hown (hE s hfx) hd (kk H locs lsC hW hS hn hl)
theorem g_i2c (X : gX o γ cc nL own) {x v : Int32} (hd : decode cc pc = .ok (.i2c, 1)) (hv : (x.toUInt32 % 65536).toInt32 = v) (kk : G o γ cells slots n σ (pc + 1) ls (.int v :: rest)) : G o γ cells slots n σ pc ls (.int x :: rest) := by
  obtain ⟨p, l, e, R, s, m, args, below, meth, c, Q⟩ := γ
  obtain ⟨hx, hb, hml, hown, hts, hK, hbase, hlk9, hfx⟩ := X
  intro H locs lsC hW hS hn hl
  exact lv_i2c hx hb hd hv (kk H locs lsC hW hS hn hl)
theorem g_popv (X : gX o γ cc nL own) {x : Int32} (hd : decode cc pc = .ok (.pop, 1)) (kk : G o γ cells slots n σ (pc + 1) ls rest) : G o γ cells slots n σ pc ls (.int x :: rest) := g_pop X hd rfl kk
/-- a call of a text's own member -/
theorem g_callVS (X : gX o γ cc nL own) {d mc ms n0 : Nat} {ret : Option FieldType} {pst : Option Value → gSt → Prop} (Y : gE o γ d mc ms n0 ret pst) {M : gM} {idx d' i : Nat} {as : List Value} {PP : Int32 → gSt → Prop} (hi : i < 16) (hd : decode cc pc = .ok (.invokevirtual idx, 3)) (hM : MI M) (hlk : LV own idx M) (hcn : M.1.cls = "java/lang/String") (hSp : Sp o γ.2.1 M d' 0 0 (.ref (o.2.2.2.1 i) :: as) n n σ (pI PP)) (hn : as.length = M.2.2.2.2)
    (hrm : d' + 1 ≤ d ∧ 8 + (M.2.2.1 + 11) + 40 * d' ≤ 40 * d) (hc : cells ≤ mc) (hs : slots ≤ ms) (hcat : (rest.map fun v => v.category).sum ≤ 8) {st0 : List Value} (hst : st0 = as.reverse ++ .ref (o.2.2.2.1 i) :: rest)
    (kk : ∀ (x9 : Int32) (σ' : gSt), PP x9 σ' → G o γ cells slots n σ' (pc + 3) ls (.int x9 :: rest)) : G o γ cells slots n σ pc ls st0 := by
  obtain ⟨p, l, e, R, s, m, args, below, meth, c, Q⟩ := γ
  obtain ⟨hx, hbc, hml, hown, hts, hK, hbase, hlock, hfx⟩ := X
  intro H locs lsC hW hS hln hl
  have hrec := vk_recv hfx.2.2.2.2.2.1 hi hS
  have hR := Y.1
  refine g_back hbase hS hln hl (va_runV (nL := nL) (Ts := BIG) (own := own) (C := M.1.cls) (b := o.2.2.2.1 i) (As := as) (rest := rest) ⟨hx, hbc, hml, hown, hts⟩ hSp ⟨gcall_B hts hM hlk.1 hR hrm, hts _ hlk.2.1, hts _ hlk.2.2⟩ ⟨gWS_blind, by rw [hcn]; exact hrec, fun U hU hWm => ⟨rfl, gWS_at hW hK hbase hfx hS hU hWm⟩⟩ rfl hn (hl.1.trans hml) hst (lv_room hcat) hd ?_) (fun r s hp => by obtain ⟨x, rfl, h⟩ := hp; exact kk x s h)
  rw [hR]
  exact ⟨hc, hs⟩
end GSTR
section STR
variable {o : gOm} {l : Launch} {σ : gSt}
theorem s_coder {i : Nat} (hi : i < 16) : Sp o l mJ0_coder_7d493 1 0 0 [.ref (o.2.2.2.1 i)] 116 116 σ (pI (fun x t => x = 0 ∧ σ = t)) := by
  refine Sp.of (ls0 := [some (.ref (o.2.2.2.1 i))]) miJ0_coder_7d493 rfl (Nat.le_of_ble_eq_true rfl) rfl (fun γ hγ hnm X Y => ?_)
  subst hγ
  have X : gX o γ cJ0_coder_7d493 1 RJ0 := X
  refine g_getZ (pc := 0) X dJ0_coder_7d493_0 sw_compact (fun s h => h.2.2.2.1.1) ?_
  refine g_if_eq (pc := 3) X dJ0_coder_7d493_3 (tgt := 13) (by decide) (fun q => absurd q (by decide)) (fun _ => ?_)
  refine g_aload_0 (pc := 6) X dJ0_coder_7d493_6 ?_
  refine g_getOF (pc := 7) X dJ0_coder_7d493_7 sw_coder (fun s h => (h.2.2.2.2.2.1.1 i hi).2.1) ?_
  refine g_goto (pc := 10) X dJ0_coder_7d493_10 (tgt := 14) (by decide) ?_
  exact g_sret (pc := 14) X Y dJ0_coder_7d493_14 rfl (Nat.le_of_ble_eq_true rfl) (Nat.le_of_ble_eq_true rfl) ⟨_, rfl, rfl, rfl⟩
theorem s_isLatin1 {i : Nat} (hi : i < 16) : Sp o l mJ0_isLatin1_aae02 1 0 0 [.ref (o.2.2.2.1 i)] 116 116 σ (pI (fun x t => x = nI 1 ∧ σ = t)) := by
  refine Sp.of (ls0 := [some (.ref (o.2.2.2.1 i))]) miJ0_isLatin1_aae02 rfl (Nat.le_of_ble_eq_true rfl) rfl (fun γ hγ hnm X Y => ?_)
  subst hγ
  have X : gX o γ cJ0_isLatin1_aae02 1 RJ0 := X
  refine g_getZ (pc := 0) X dJ0_isLatin1_aae02_0 sw_compact (fun s h => h.2.2.2.1.1) ?_
  refine g_if_eq (pc := 3) X dJ0_isLatin1_aae02_3 (tgt := 17) (by decide) (fun q => absurd q (by decide)) (fun _ => ?_)
  refine g_aload_0 (pc := 6) X dJ0_isLatin1_aae02_6 ?_
  refine g_getOF (pc := 7) X dJ0_isLatin1_aae02_7 sw_coder (fun s h => (h.2.2.2.2.2.1.1 i hi).2.1) ?_
  refine g_if_ne (pc := 10) X dJ0_isLatin1_aae02_10 (tgt := 17) (by decide) (fun q => absurd q (by decide)) (fun _ => ?_)
  refine g_iconst (pc := 13) X dJ0_isLatin1_aae02_13 kiconst_1 ?_
  refine g_goto (pc := 14) X dJ0_isLatin1_aae02_14 (tgt := 18) (by decide) ?_
  exact g_zreturn (pc := 18) X Y dJ0_isLatin1_aae02_18 (.inr rfl) (Nat.le_of_ble_eq_true rfl) (Nat.le_of_ble_eq_true rfl) ⟨_, rfl, rfl, rfl⟩
theorem str_sh : ∀ i, i < 16 → nI (strN.getD i 0) >>> ((0 : Int32) &&& 31) = nI (strN.getD i 0) := by decide
theorem str_ch : ∀ i, i < 16 → ∀ k, k < 7 → (((strB.getD i []).getD k 0 &&& 255).toUInt32 % 65536).toInt32 = nI ((spl.getD i []).getD k 0) := by decide
theorem str_len : ∀ i, i < 16 → strN.getD i 0 = (spl.getD i []).length ∧ strN.getD i 0 ≤ 7 := by decide
theorem str_nr : ∀ i, i < 16 → ∀ k, k < 7 → narrow .char (.int (nI ((spl.getD i []).getD k 0))) = .int (nI ((spl.getD i []).getD k 0)) := by decide
theorem s_length {i : Nat} (hi : i < 16) : Sp o l mJ0_length_8abf5 2 0 0 [.ref (o.2.2.2.1 i)] 116 116 σ (pI (fun x t => x = nI (strN.getD i 0) ∧ σ = t)) := by
  refine Sp.of (ls0 := [some (.ref (o.2.2.2.1 i))]) miJ0_length_8abf5 rfl (Nat.le_of_ble_eq_true rfl) rfl (fun γ hγ hnm X Y => ?_)
  subst hγ
  have X : gX o γ cJ0_length_8abf5 1 RJ0 := X
  refine g_aload_0 (pc := 0) X dJ0_length_8abf5_0 ?_
  refine g_getOF (pc := 1) X dJ0_length_8abf5_1 sw_value (fun s h => (h.2.2.2.2.2.1.1 i hi).2.2.1) ?_
  refine g_tlen (pc := 4) X dJ0_length_8abf5_4 (fun s h => (h.2.2.2.2.2.1.1 i hi).2.2.2) ?_
  refine g_aload_0 (pc := 5) X dJ0_length_8abf5_5 ?_
  refine g_callVS (pc := 6) X Y hi dJ0_length_8abf5_6 miJ0_coder_7d493 li_J0_335 rfl (s_coder hi) rfl ⟨Nat.le_of_ble_eq_true rfl, Nat.le_of_ble_eq_true rfl⟩ (Nat.le_of_ble_eq_true rfl) (Nat.le_of_ble_eq_true rfl) (by exact Nat.le_of_ble_eq_true rfl) rfl (fun x9 σ9 hp => ?_)
  obtain ⟨rfl, rfl⟩ := hp
  refine g_ishr (pc := 9) X dJ0_length_8abf5_9 ?_
  rw [str_sh i hi]
  exact g_ireturn (pc := 10) X Y dJ0_length_8abf5_10 (Nat.le_of_ble_eq_true rfl) (Nat.le_of_ble_eq_true rfl) ⟨_, rfl, rfl, rfl⟩
theorem s_pre0 {k N : Nat} (hk : k < N) (hN : N ≤ 7) : Sp o l mJ3_checkIndex_8e157 1 0 0 [.int (nI k), .int (nI N), .null] 116 116 σ (pI (fun x t => σ = t)) := by
  refine Sp.of (ls0 := [some (.int (nI k)), some (.int (nI N)), some .null]) miJ3_checkIndex_8e157 rfl (Nat.le_of_ble_eq_true rfl) rfl (fun γ hγ hnm X Y => ?_)
  subst hγ
  have X : gX o γ cJ3_checkIndex_8e157 3 RJ3 := X
  refine g_iload_0 (pc := 0) X dJ3_checkIndex_8e157_0 ?_
  refine g_if_lt (pc := 1) X dJ3_checkIndex_8e157_1 (tgt := 9) (by decide) (fun q => absurd q (nI_pos (by omega))) (fun _ => ?_)
  refine g_iload_0 (pc := 4) X dJ3_checkIndex_8e157_4 ?_
  refine g_iload_1 (pc := 5) X dJ3_checkIndex_8e157_5 ?_
  refine g_icmp_lt (pc := 6) X dJ3_checkIndex_8e157_6 (tgt := 16) (by decide) (fun _ => ?_) (fun q => absurd ((nI_ltI (by omega) (by omega)).mpr hk) q)
  refine g_iload_0 (pc := 16) X dJ3_checkIndex_8e157_16 ?_
  exact g_ireturn (pc := 17) X Y dJ3_checkIndex_8e157_17 (Nat.le_of_ble_eq_true rfl) (Nat.le_of_ble_eq_true rfl) ⟨_, rfl, rfl⟩
theorem s_pre1 {k N t : Nat} (hk : k < N) (hN : N ≤ 7) : Sp o l mJ3_checkIndex_8e157 1 0 0 [.int (nI k), .int (nI N), .ref t] 116 116 σ (pI (fun x t => σ = t)) := by
  refine Sp.of (ls0 := [some (.int (nI k)), some (.int (nI N)), some (.ref t)]) miJ3_checkIndex_8e157 rfl (Nat.le_of_ble_eq_true rfl) rfl (fun γ hγ hnm X Y => ?_)
  subst hγ
  have X : gX o γ cJ3_checkIndex_8e157 3 RJ3 := X
  refine g_iload_0 (pc := 0) X dJ3_checkIndex_8e157_0 ?_
  refine g_if_lt (pc := 1) X dJ3_checkIndex_8e157_1 (tgt := 9) (by decide) (fun q => absurd q (nI_pos (by omega))) (fun _ => ?_)
  refine g_iload_0 (pc := 4) X dJ3_checkIndex_8e157_4 ?_
  refine g_iload_1 (pc := 5) X dJ3_checkIndex_8e157_5 ?_
  refine g_icmp_lt (pc := 6) X dJ3_checkIndex_8e157_6 (tgt := 16) (by decide) (fun _ => ?_) (fun q => absurd ((nI_ltI (by omega) (by omega)).mpr hk) q)
  refine g_iload_0 (pc := 16) X dJ3_checkIndex_8e157_16 ?_
  exact g_ireturn (pc := 17) X Y dJ3_checkIndex_8e157_17 (Nat.le_of_ble_eq_true rfl) (Nat.le_of_ble_eq_true rfl) ⟨_, rfl, rfl⟩
theorem s_checkIndex {k N : Nat} (hk : k < N) (hN : N ≤ 7) : Sp o l mJ0_checkIndex_df160 2 0 0 [.int (nI k), .int (nI N)] 116 116 σ (pV (fun t => σ = t)) := by
  refine Sp.of (ls0 := [some (.int (nI k)), some (.int (nI N))]) miJ0_checkIndex_df160 rfl (Nat.le_of_ble_eq_true rfl) rfl (fun γ hγ hnm X Y => ?_)
  subst hγ
  have X : gX o γ cJ0_checkIndex_df160 2 RJ0 := X
  refine g_iload_0 (pc := 0) X dJ0_checkIndex_df160_0 ?_
  refine g_iload_1 (pc := 1) X dJ0_checkIndex_df160_1 ?_
  have fin : ∀ (x : Int32) (σ9 : gSt), σ = σ9 → G o γ 0 0 116 σ9 8 [some (.int (nI k)), some (.int (nI N))] [.int x] := fun x σ9 h => by
    subst h
    refine g_popv (pc := 8) X dJ0_checkIndex_df160_8 ?_
    exact g_return (pc := 9) X Y dJ0_checkIndex_df160_9 (Nat.le_of_ble_eq_true rfl) (Nat.le_of_ble_eq_true rfl) ⟨rfl, rfl⟩
  refine g_getZq (pc := 2) X dJ0_checkIndex_df160_2 sw_sioobe (fun s h => h.2.2.2.1.2) ?_ (fun t => ?_)
  · exact g_callS_I (pc := 5) X Y dJ0_checkIndex_df160_5 miJ3_checkIndex_8e157 li_J0_1059 (s_pre0 hk hN) rfl ⟨Nat.le_of_ble_eq_true rfl, Nat.le_of_ble_eq_true rfl⟩ (Nat.le_of_ble_eq_true rfl) (Nat.le_of_ble_eq_true rfl) rfl (by exact Nat.le_of_ble_eq_true rfl) (fun x σ9 hp => fin x σ9 hp)
  · exact g_callS_I (pc := 5) X Y dJ0_checkIndex_df160_5 miJ3_checkIndex_8e157 li_J0_1059 (s_pre1 hk hN) rfl ⟨Nat.le_of_ble_eq_true rfl, Nat.le_of_ble_eq_true rfl⟩ (Nat.le_of_ble_eq_true rfl) (Nat.le_of_ble_eq_true rfl) rfl (by exact Nat.le_of_ble_eq_true rfl) (fun x σ9 hp => fin x σ9 hp)
theorem s_latinAt {i k : Nat} (hi : i < 16) (hk : k < strN.getD i 0) : Sp o l mJ1_charAt_3b067 3 0 0 [.ref (o.2.2.2.2 i), .int (nI k)] 116 116 σ (pI (fun x t => x = nI ((spl.getD i []).getD k 0) ∧ σ = t)) := by
  have hN := (str_len i hi).2
  refine Sp.of (ls0 := [some (.ref (o.2.2.2.2 i)), some (.int (nI k))]) miJ1_charAt_3b067 rfl (Nat.le_of_ble_eq_true rfl) rfl (fun γ hγ hnm X Y => ?_)
  subst hγ
  have X : gX o γ cJ1_charAt_3b067 2 RJ1 := X
  refine g_iload_1 (pc := 0) X dJ1_charAt_3b067_0 ?_
  refine g_aload_0 (pc := 1) X dJ1_charAt_3b067_1 ?_
  refine g_tlen (pc := 2) X dJ1_charAt_3b067_2 (fun s h => (h.2.2.2.2.2.1.1 i hi).2.2.2) ?_
  refine g_callS_V (pc := 3) X Y dJ1_charAt_3b067_3 miJ0_checkIndex_df160 li_J1_9 (s_checkIndex hk hN) rfl ⟨Nat.le_of_ble_eq_true rfl, Nat.le_of_ble_eq_true rfl⟩ (Nat.le_of_ble_eq_true rfl) (Nat.le_of_ble_eq_true rfl) rfl (by exact Nat.le_of_ble_eq_true rfl) (fun σ9 hp => ?_)
  subst hp
  refine g_aload_0 (pc := 6) X dJ1_charAt_3b067_6 ?_
  refine g_iload_1 (pc := 7) X dJ1_charAt_3b067_7 ?_
  refine g_tby (pc := 8) X dJ1_charAt_3b067_8 (fun s h => (h.2.2.2.2.2.1.1 i hi).2.2.2) hk (by omega) rfl ?_
  refine g_sipush (pc := 9) X dJ1_charAt_3b067_9 (v := 255) (by decide) ?_
  refine g_iand (pc := 12) X dJ1_charAt_3b067_12 ?_
  refine g_i2c (pc := 13) X dJ1_charAt_3b067_13 (str_ch i hi k (by omega)) ?_
  exact g_sret (pc := 14) X Y dJ1_charAt_3b067_14 (str_nr i hi k (by omega)) (Nat.le_of_ble_eq_true rfl) (Nat.le_of_ble_eq_true rfl) ⟨_, rfl, rfl, rfl⟩
theorem s_charAt {i k : Nat} (hi : i < 16) (hk : k < strN.getD i 0) : Sp o l mJ0_charAt_5068e 4 0 0 [.ref (o.2.2.2.1 i), .int (nI k)] 116 116 σ (pI (fun x t => x = nI ((spl.getD i []).getD k 0) ∧ σ = t)) := by
  have hN := (str_len i hi).2
  refine Sp.of (ls0 := [some (.ref (o.2.2.2.1 i)), some (.int (nI k))]) miJ0_charAt_5068e rfl (Nat.le_of_ble_eq_true rfl) rfl (fun γ hγ hnm X Y => ?_)
  subst hγ
  have X : gX o γ cJ0_charAt_5068e 2 RJ0 := X
  refine g_aload_0 (pc := 0) X dJ0_charAt_5068e_0 ?_
  refine g_callVS (pc := 1) X Y hi dJ0_charAt_5068e_1 miJ0_isLatin1_aae02 li_J0_492 rfl (s_isLatin1 hi) rfl ⟨Nat.le_of_ble_eq_true rfl, Nat.le_of_ble_eq_true rfl⟩ (Nat.le_of_ble_eq_true rfl) (Nat.le_of_ble_eq_true rfl) (by exact Nat.le_of_ble_eq_true rfl) rfl (fun x9 σ9 hp => ?_)
  obtain ⟨rfl, rfl⟩ := hp
  refine g_if_eq (pc := 4) X dJ0_charAt_5068e_4 (tgt := 16) (by decide) (fun q => absurd q (by decide)) (fun _ => ?_)
  refine g_aload_0 (pc := 7) X dJ0_charAt_5068e_7 ?_
  refine g_getOF (pc := 8) X dJ0_charAt_5068e_8 sw_value (fun s h => (h.2.2.2.2.2.1.1 i hi).2.2.1) ?_
  refine g_iload_1 (pc := 11) X dJ0_charAt_5068e_11 ?_
  refine g_callS_I (pc := 12) X Y dJ0_charAt_5068e_12 miJ1_charAt_3b067 li_J0_495 (s_latinAt hi hk) rfl ⟨Nat.le_of_ble_eq_true rfl, Nat.le_of_ble_eq_true rfl⟩ (Nat.le_of_ble_eq_true rfl) (Nat.le_of_ble_eq_true rfl) rfl (by exact Nat.le_of_ble_eq_true rfl) (fun x9 σ9 hp => ?_)
  obtain ⟨rfl, rfl⟩ := hp
  exact g_sret (pc := 15) X Y dJ0_charAt_5068e_15 (str_nr i hi k (by omega)) (Nat.le_of_ble_eq_true rfl) (Nat.le_of_ble_eq_true rfl) ⟨_, rfl, rfl, rfl⟩
end STR
