/-! the reference's reading: what opens, what closes, numbers, names -/
section
variable {B : Nat → Nat} {n : Nat}
def opK (p1 : Int32) (Q : gSt → Prop) (s3 : gSt) : Prop := W_X12_fine (fun x5 => ∀ J7 : gSt → Prop, (∀ s6, (fI s6 65 14 ((s6.1 65 14) + (nI 1)) (fun s8 => Q s8)) → J7 s6) → ((x5 = 0 → (J7 s3)) ∧ (¬ x5 = 0 → (fI s3 65 11 ((s3.1 65 11) + p1) (fun s10 => J7 s10))))) s3
theorem opK_bad {p1 : Int32} {v : gSt} {Q : gSt → Prop} (h : ¬ v.1 65 12 = -1) (q : ∀ u, Fr [] [14] v u → Q u) : opK p1 Q v := by
  unfold opK
  exact p_fine_bad h (fun J7 hJ7 => bq_t rfl (hJ7 v (fI_i (q _ (Fr.rf.f (by simp))))))
theorem opK_ok {k : Int} {d w : Nat} {s : PS} {v : gSt} {Q : gSt → Prop} (h : MR B n k d s v) (hp : v.1 65 11 = nI (plc B n s.1)) (hlt : plc B n s.1 < n) (ht : tokE B n (plc B n s.1) = plc B n s.1 + w) (q : ∀ u, Fr [] [11, 14] v u → MR B n (k + 1) (d + 1) (s.1 + 1, s.2) u → Q u) : opK (nI w) Q v := by
  unfold opK
  refine p_fine_ok h.2.1 (fun J7 hJ7 => bq_f (by decide) (fI_i ?_))
  rw [hp, nI_add, ← ht]
  refine hJ7 _ (fI_i ?_)
  have f : Fr [] [11] v (sI v 65 11 (nI (tokE B n (plc B n s.1)))) := Fr.rf.f (by simp)
  have e14 : (sI v 65 11 (nI (tokE B n (plc B n s.1)))).1 65 14 = nI d := by rw [sI_get, if_neg (fun w => absurd w.2 (by decide))]; exact h.2.2.2.1
  rw [e14, nI_add]
  have hge := plc_ge s.1 hlt
  have h7 := h.2.2.2.2.1.2.2
  have g1 : MR B n (k + 1) d (s.1 + 1, s.2) (sI v 65 11 (nI (tokE B n (plc B n s.1)))) := h.go f (by rw [sI_get, if_pos ⟨rfl, rfl⟩]) (tokE_ok hlt).2 (plc_succ hlt) (by omega) (by omega)
  exact q _ ((f.mono (by simp) (by simp)).f (by simp)) g1.dep
theorem opMid {k : Int} {d w : Nat} {s : PS} {v : gSt} {Q J4 : gSt → Prop} (hd6 : d ≤ 6) (h : MR B n k d s v) (hp : v.1 65 11 = nI (plc B n s.1)) (hlt : plc B n s.1 < n) (ht : tokE B n (plc B n s.1) = plc B n s.1 + w) (hJ4 : ∀ s3, opK (nI w) Q s3 → J4 s3) (q3 : d = 6 → ∀ u, Fr [] [11, 12, 13, 14] v u → MB B n (3, s.1) u → Q u) (q1 : d < 6 → ∀ u, Fr [] [11, 14] v u → MR B n (k + 1) (d + 1) (s.1 + 1, s.2) u → Q u) : (((v.1 65 14) = (nI 6) → (W_X12_wrong (nI 3) (v.1 65 11) (fun s14 => J4 s14) v)) ∧ (¬ (v.1 65 14) = (nI 6) → (J4 v))) := by
  rw [h.2.2.2.1]
  refine br_eq (by omega) (by omega) (fun w => p_wrong_ok h.2.1 (fun u hu k1 k2 => hJ4 u ?_)) (fun w => hJ4 v (opK_ok h hp hlt ht (q1 (by omega))))
  rw [hp] at k1
  have hMB : MB B n (3, s.1) u := ⟨k1, k2⟩
  exact opK_bad (hMB.bad h.1.1) (fun x hx => q3 w x ((hu.mono (by simp) (by simp)).trans (hx.mono (by simp) (by simp))) (hMB.fr hx (by simp) (by simp)))
theorem p_opensM {k : Int} {d x : Nat} {s : PS} {t : gSt} (hd6 : d ≤ 6) (h : MR B n k d s t) (hx : isLb x = false ∧ isDb x = false ∧ x ≠ 0 ∧ x < 256) {Q : gSt → Prop} (q0 : ¬ sgB B n s.1 = nI x → ∀ u, Fr [] [11, 12, 13, 14] t u → MB B n (1, s.1) u → Q u) (q3 : sgB B n s.1 = nI x → d = 6 → ∀ u, Fr [] [11, 12, 13, 14] t u → MB B n (3, s.1) u → Q u) (q1 : sgB B n s.1 = nI x → d < 6 → ∀ u, Fr [] [11, 14] t u → MR B n (k + 1) (d + 1) (s.1 + 1, s.2) u → Q u) : W_X12_opensAt (nI x) (nI 1) Q t := by
  have hb := h.1.b
  unfold W_X12_opensAt
  refine p_fine_ok h.2.1 (bq_f (by decide) (fun J4 hJ4 J12 hJ12 => bq_f ?_ (p_hereM h (fun u hu hm h11 => ⟨fun w => hJ12 u ?_, fun w => ?_⟩))))
  · intro z
    have z2 : nI x = nI 0 := z
    rw [nI_eq (by omega) (by omega)] at z2
    exact hx.2.2.1 z2
  · have w2 := (sg_one hb hx).mp w
    obtain ⟨a1, a2, a3⟩ := sg_at hb hx w2
    have e : tokE B n (plc B n s.1) = plc B n s.1 + 1 := by
      unfold tokE
      rw [if_neg (by rw [a2]; decide), if_neg (by rw [a3]; decide)]
    exact opMid hd6 hm h11 a1 e hJ4 (fun z v hv => q3 w2 z v ((hu.mono (by simp) (by simp)).trans hv)) (fun z v hv => q1 w2 z v ((hu.mono (by simp) (by simp)).trans hv))
  · refine p_wrong_ok hm.2.1 (fun v hv k1 k2 => hJ4 v ?_)
    rw [h11] at k1
    have hMB : MB B n (1, s.1) v := ⟨k1, k2⟩
    exact opK_bad (hMB.bad h.1.1) (fun y hy => q0 (fun z => w ((sg_one hb hx).mpr z)) y (((hu.mono (by simp) (by simp)).trans (hv.mono (by simp) (by simp))).trans (hy.mono (by simp) (by simp))) (hMB.fr hy (by simp) (by simp)))
theorem p_opens_bad {p0 p1 : Int32} {t : gSt} (h : ¬ t.1 65 12 = -1) {Q : gSt → Prop} (q : Q t) : W_X12_opensAt p0 p1 Q t := by
  unfold W_X12_opensAt
  exact p_fine_bad h (bq_t rfl q)
/-- the word not -/
theorem p_opensN {k : Int} {d : Nat} {s : PS} {t : gSt} (hd6 : d ≤ 6) (h : MR B n k d s t) (hp : t.1 65 11 = nI (plc B n s.1)) (hs : sgB B n s.1 = -16) {Q : gSt → Prop} (q3 : d = 6 → ∀ u, Fr [] [11, 12, 13, 14] t u → MB B n (3, s.1) u → Q u) (q1 : d < 6 → ∀ u, Fr [] [11, 14] t u → MR B n (k + 1) (d + 1) (s.1 + 1, s.2) u → Q u) : W_X12_opensAt (nI 0) (nI 3) Q t := by
  have hb := h.1.b
  have hlt : plc B n s.1 < n ∧ isLb (B (plc B n s.1)) = true := by
    unfold sgB sgn at hs
    split at hs
    · rename_i hlt
      refine ⟨hlt, ?_⟩
      unfold tokS at hs
      have := hb _ hlt
      split at hs
      · assumption
      · split at hs
        · exact absurd hs (by decide)
        · have h3 := nI_pos (n := B (plc B n s.1)) (by omega)
          rw [hs] at h3
          exact absurd (by decide) h3
    · exact absurd hs (by decide)
  have e : tokE B n (plc B n s.1) = plc B n s.1 + 3 := by
    have h2 : wsg B (plc B n s.1) (tokE B n (plc B n s.1)) = -(nI (15 + 1)) := by
      unfold sgB sgn at hs
      rw [if_pos hlt.1] at hs
      unfold tokS at hs
      rw [if_pos hlt.2] at hs
      exact hs
    have h3 := (wsg_iff (by decide)).mp h2
    unfold isW at h3
    rw [Bool.and_eq_true, decide_eq_true_iff] at h3
    have h4 := h3.1
    have h5 : (spl.getD 15 []).length = 3 := by decide
    have h6 := (tokE_ok (B := B) hlt.1).1
    omega
  unfold W_X12_opensAt
  refine p_fine_ok h.2.1 (bq_f (by decide) (fun J4 hJ4 J12 hJ12 => bq_t rfl (hJ12 t ?_)))
  exact opMid hd6 h hp hlt.1 e hJ4 q3 q1
theorem p_closesM {k : Int} {d x : Nat} {s : PS} {t : gSt} (h : MR B n k (d + 1) s t) (hx : isLb x = false ∧ isDb x = false ∧ x ≠ 0 ∧ x < 256) {Q : gSt → Prop} (q0 : ¬ sgB B n s.1 = nI x → ∀ u, Fr [] [11, 12, 13, 14] t u → MB B n (1, s.1) u → Q u) (q1 : sgB B n s.1 = nI x → ∀ u, Fr [] [11, 14] t u → MR B n (k + 1) d (s.1 + 1, s.2) u → Q u) : W_X12_closesAt (nI x) Q t := by
  unfold W_X12_closesAt
  refine p_needM h hx (fun w u hu hm => fI_i ?_) (fun w u hu hm => fI_i ?_)
  · have f : Fr [] [14] u (sI u 65 14 ((u.1 65 14) - nI 1)) := Fr.rf.f (by simp)
    exact q0 w _ ((hu.mono (by simp) (by simp)).trans (f.mono (by simp) (by simp))) (hm.fr f (by simp) (by simp))
  · have e : u.1 65 14 - nI 1 = nI d := by rw [hm.2.2.2.1, nI_sub (by omega), Nat.add_sub_cancel]
    rw [e]
    exact q1 w _ ((hu.mono (by simp) (by simp)).trans (Fr.rf.f (by simp))) hm.dep
theorem p_closes_bad {x : Int32} {t : gSt} (h : ¬ t.1 65 12 = -1) {Q : gSt → Prop} (q : ∀ u, Fr [] [14] t u → Q u) : W_X12_closesAt x Q t := by
  unfold W_X12_closesAt
  exact p_need_bad h (fI_i (q _ (Fr.rf.f (by simp))))
theorem nmV_big {e : Nat} : ∀ (m i v : Nat), 9999 < v → nmV B e m i v = v
  | 0, _, _, _ => rfl
  | m + 1, i, v, h => by rw [nmV, if_neg (by omega)]
theorem p_numL {Q : Int32 → gSt → Prop} {c1 : Int32} {K : Int32 → gSt → Prop} {e : Nat} : ∀ (m p v v2 : Nat) (t : gSt), bytM t B n → t.1 65 11 = nI p → p + m = n → e = runE isDb B n m p → ((v = v2 ∧ v2 ≤ 9999) ∨ (9999 < v ∧ 9999 < v2)) → v ≤ 999999 → (∀ u y, Fr [] [11] t u → u.1 65 11 = nI e → ((y = nmV B e (e - p) p v2 ∧ y ≤ 9999) ∨ (9999 < y ∧ 9999 < nmV B e (e - p) p v2)) → y ≤ 999999 → K (nI y) u) → L_X12_readNumber_7 Q c1 K (m + 1) (nI v) t := by
  intro m
  induction m with
  | zero =>
    intro p v v2 t hB hp hm he hv hv9 q
    have h4 := hB.1
    rw [L_X12_readNumber_7, hB.2.1, hp]
    rw [runE] at he
    subst he
    rw [Nat.sub_self, nmV] at q
    exact bq_t (nI_le (by omega) (by omega)) (q t v Fr.rf hp (by omega) hv9)
  | succ m ih =>
    intro p v v2 t hB hp hm he hv hv9 q
    have h4 := hB.1
    obtain ⟨b1, b2⟩ := hB.2.2 p (by omega)
    rw [L_X12_readNumber_7, hB.2.1, hp]
    refine bq_f (nI_ge (by omega) (by omega)) (rI_i (by omega) ?_)
    rw [b1]
    rw [runE] at he
    refine p_isDigitM b2 (br_z (fun z => ?_) (fun z => ?_))
    · rw [if_neg (fun w => by rw [z] at w; cases w.2)] at he
      subst he
      rw [Nat.sub_self, nmV] at q
      exact q t v Fr.rf hp (by omega) hv9
    · rw [if_pos ⟨by omega, z⟩] at he
      have hz := isDb_or z
      have hge : p + 1 ≤ e := by rw [he]; exact runE_ge _ _
      intro J11 hJ11
      have f : Fr [] [11] t (sI t 65 11 (nI (p + 1))) := Fr.rf.f (by simp)
      have key : ∀ y v3 : Nat, ((y = v3 ∧ v3 ≤ 9999) ∨ (9999 < y ∧ 9999 < v3)) → y ≤ 999999 → nmV B e (e - p) p v2 = nmV B e (e - (p + 1)) (p + 1) v3 → J11 (nI y) := fun y v3 h1 h2 h3 => by
        refine hJ11 _ (fI_i ?_)
        rw [nI_add]
        refine ih (p + 1) y v3 _ (hB.fr f (by simp) (by simp)) (by rw [sI_get, if_pos ⟨rfl, rfl⟩]) (by omega) he h1 h2 (fun u y hu h11 hy => q u y (f.trans hu) h11 ?_)
        rw [h3]
        exact hy
      have hstep : e - p = (e - (p + 1)) + 1 := by omega
      refine br_le (by omega) (by omega) (fun w => rI_i (by omega) ?_) (fun w => ?_)
      · rw [b1, nI_mul, nI_add, nI_sub (by omega)]
        refine key _ (10 * v + B p - 48) (by omega) (by omega) ?_
        rcases hv with ⟨rfl, hv2⟩ | hv2
        · rw [hstep, nmV, if_pos ⟨by omega, hv2⟩, Nat.mul_comm]
        · omega
      · refine key 10000 v2 (by omega) (by omega) ?_
        rw [nmV_big _ _ _ (by omega), nmV_big _ _ _ (by omega)]
theorem p_readNumM {k : Int} {d : Nat} {s : PS} {t : gSt} (h : MR B n k d s t) (hp : t.1 65 11 = nI (plc B n s.1)) (hs : sgB B n s.1 = -17) {Q : Int32 → gSt → Prop} (q1 : tokV B n (plc B n s.1) ≤ 9999 → ∀ u, Fr [] [11] t u → MR B n (k + 1) d (s.1 + 1, s.2) u → Q (nI (tokV B n (plc B n s.1))) u) (q0 : ¬ tokV B n (plc B n s.1) ≤ 9999 → ∀ u y, Fr [] [11, 12, 13] t u → MB B n (2, s.1) u → Q y u) : W_X12_readNumber Q t := by
  have hb := h.1.b
  have hB := h.1
  obtain ⟨hlt, hdb⟩ := (sg_num hb).mp hs
  have hnl : isLb (B (plc B n s.1)) = false := by
    cases hl : isLb (B (plc B n s.1)) with
    | false => rfl
    | true => have := isLb_or hl; have := isDb_or hdb; omega
  have et : tokE B n (plc B n s.1) = runE isDb B n (n - plc B n s.1) (plc B n s.1) := by
    unfold tokE
    rw [if_neg (by rw [hnl]; decide), if_pos hdb]
    rw [show n - plc B n s.1 = (n - (plc B n s.1 + 1)) + 1 by omega, runE, if_pos ⟨hlt, hdb⟩]
  have ev : tokV B n (plc B n s.1) = nmV B (tokE B n (plc B n s.1)) (tokE B n (plc B n s.1) - plc B n s.1) (plc B n s.1) 0 := by
    unfold tokV
    rw [if_pos hdb]
  unfold W_X12_readNumber
  rw [hp]
  refine ⟨n - plc B n s.1 + 1, p_numL (e := tokE B n (plc B n s.1)) (n - plc B n s.1) (plc B n s.1) 0 0 t hB hp (by omega) et (.inl ⟨rfl, by omega⟩) (by omega) (fun u y hu h11 hy hy9 => ?_)⟩
  rw [← ev] at hy
  have hge := plc_ge s.1 hlt
  have h7 := h.2.2.2.2.1.2.2
  have hm : MR B n (k + 1) d (s.1 + 1, s.2) u := h.go hu h11 (tokE_ok hlt).2 (plc_succ hlt) (by omega) (by omega)
  refine br_le (by omega) (by omega) (fun w => ?_) (fun w => ?_)
  · rcases hy with ⟨e1, e2⟩ | hy
    · rw [e1]
      exact q1 (by omega) u hu hm
    · omega
  · refine p_wrong_ok hm.2.1 (fun v hv k1 k2 => q0 ?_ v _ ((hu.mono (by simp) (by simp)).trans (hv.mono (by simp) (by simp))) ⟨k1, k2⟩)
    rcases hy with ⟨e1, e2⟩ | hy
    · omega
    · omega
/-- the names -/
def nmS (x : Int32) : Int32 := if x ≤ (-1 : Int32) ∧ (-6 : Int32) ≤ x then nI (nt (-x)) else -1
theorem p_nameM {σ : gSt} {c : Nat} (hb : ∀ i, i < n → B i < 256) {Q : Int32 → Prop} (q : Q (nmS (sgB B n c))) : W_X12_name (wdB B n c) Q σ := by
  have yes : ∀ (k : Nat) (v : Int64), k < 16 → v = lN (pkL (spl.getD k []).reverse) → wdB B n c = v → sgB B n c = -(nI (k + 1)) := fun k v hk hv h => (sg_word hb hk).mp (h.trans hv)
  have no : ∀ (k : Nat) (v : Int64), k < 16 → v = lN (pkL (spl.getD k []).reverse) → ¬ wdB B n c = v → ¬ sgB B n c = -(nI (k + 1)) := fun k v hk hv h h2 => h (((sg_word hb hk).mpr h2).trans hv.symm)
  unfold W_X12_name
  refine ⟨fun w => ?_, fun w0 => ⟨fun w => ?_, fun w1 => ⟨fun w => ?_, fun w2 => ⟨fun w => ?_, fun w3 => ⟨fun w => ?_, fun w4 => ⟨fun w => ?_, fun w5 => ?_⟩⟩⟩⟩⟩⟩
  · rw [yes 0 _ (by decide) (by decide) w] at q; exact q
  · rw [yes 1 _ (by decide) (by decide) w] at q; exact q
  · rw [yes 2 _ (by decide) (by decide) w] at q; exact q
  · rw [yes 3 _ (by decide) (by decide) w] at q; exact q
  · rw [yes 4 _ (by decide) (by decide) w] at q; exact q
  · rw [yes 5 _ (by decide) (by decide) w] at q; exact q
  · have e : nmS (sgB B n c) = -1 := by
      unfold nmS
      refine if_neg (fun z => ?_)
      rcases i32_six z.1 z.2 with y | y | y | y | y | y
      · exact no 0 _ (by decide) (by decide) w0 y
      · exact no 1 _ (by decide) (by decide) w1 y
      · exact no 2 _ (by decide) (by decide) w2 y
      · exact no 3 _ (by decide) (by decide) w3 y
      · exact no 4 _ (by decide) (by decide) w4 y
      · exact no 5 _ (by decide) (by decide) w5 y
    rw [e] at q
    exact q
end
