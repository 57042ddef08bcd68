/-! the reference's reading: its state; here, word, pass, numbers, signs that are due -/
def bytM (σ : gSt) (B : Nat → Nat) (n : Nat) : Prop := n ≤ 400 ∧ σ.1 65 10 = nI n ∧ ∀ i, i < n → σ.1 73 i = nI (B i) ∧ B i < 256
/-- it goes on, k codes short of its words, d open -/
def MR (B : Nat → Nat) (n : Nat) (k : Int) (d : Nat) (s : PS) (t : gSt) : Prop := bytM t B n ∧ t.1 65 12 = -1 ∧ (∃ p, t.1 65 11 = nI p ∧ p ≤ n ∧ nxt B n p = plc B n s.1) ∧ t.1 65 14 = nI d ∧ (s.1 ≤ n ∧ t.1 65 15 = nI s.2.1 ∧ (s.2.1 : Int) + k ≤ s.1) ∧ ∀ j, j < s.2.1 → t.1 84 j = nI (s.2.2.1 j) ∧ t.1 85 j = s.2.2.2 j
/-- it has found a fault -/
def MB (B : Nat → Nat) (n : Nat) (e : Nat × Nat) (u : gSt) : Prop := u.1 65 12 = nI (plc B n e.2) ∧ u.1 65 13 = nI e.1
abbrev mfr (t u : gSt) : Prop := Fr [84, 85] [11, 12, 13, 14, 15] t u
section
variable {B : Nat → Nat} {n : Nat}
theorem bytM.fr {t u : gSt} {ks js : List Nat} (h : bytM t B n) (f : Fr ks js t u) (h73 : 73 ∉ ks) (h10 : 10 ∉ js) : bytM u B n := by
  unfold bytM
  rw [(f.2.1 10 h10).1, (f.1 73 (by decide) h73).1]
  exact h
theorem MR.mono {k l : Int} {d : Nat} {s : PS} {t : gSt} (h : MR B n k d s t) (hl : l ≤ k) : MR B n l d s t := by
  obtain ⟨h1, h2, h3, h4, ⟨h5, h6, h7⟩, h8⟩ := h
  exact ⟨h1, h2, h3, h4, ⟨h5, h6, by omega⟩, h8⟩
theorem MR.go {k k' : Int} {d c' p : Nat} {s : PS} {t u : gSt} (h : MR B n k d s t) (f : Fr [] [11] t u) (hp : u.1 65 11 = nI p) (hpn : p ≤ n) (hx : nxt B n p = plc B n c') (hc : c' ≤ n) (hk : (s.2.1 : Int) + k' ≤ c') : MR B n k' d (c', s.2) u := by
  obtain ⟨h1, h2, h3, h4, ⟨h5, h6, h7⟩, h8⟩ := h
  refine ⟨h1.fr f (by simp) (by simp), ?_, ⟨p, hp, hpn, hx⟩, ?_, ⟨hc, ?_, hk⟩, fun j hj => ?_⟩
  · rw [(f.2.1 12 (by simp)).1]; exact h2
  · rw [(f.2.1 14 (by simp)).1]; exact h4
  · rw [(f.2.1 15 (by simp)).1]; exact h6
  · rw [(f.1 84 (by decide) (by simp)).1, (f.1 85 (by decide) (by simp)).1]; exact h8 j hj
theorem MR.dep {k : Int} {d d' : Nat} {s : PS} {t : gSt} (h : MR B n k d s t) : MR B n k d' s (sI t 65 14 (nI d')) := by
  obtain ⟨h1, h2, ⟨p, hp, h3⟩, h4, ⟨h5, h6, h7⟩, h8⟩ := h
  have f : Fr [] [14] t (sI t 65 14 (nI d')) := Fr.rf.f (by simp)
  refine ⟨h1.fr f (by simp) (by simp), ?_, ⟨p, ?_, h3⟩, ?_, ⟨h5, ?_, h7⟩, fun j hj => ?_⟩
  · rw [(f.2.1 12 (by simp)).1]; exact h2
  · rw [(f.2.1 11 (by simp)).1]; exact hp
  · rw [sI_get, if_pos ⟨rfl, rfl⟩]
  · rw [(f.2.1 15 (by simp)).1]; exact h6
  · rw [(f.1 84 (by decide) (by simp)).1, (f.1 85 (by decide) (by simp)).1]; exact h8 j hj
theorem p_fine_ok {t : gSt} {Q : Int32 → Prop} (h : t.1 65 12 = -1) (q : Q (nI 1)) : W_X12_fine Q t := bq_t h q
theorem p_fine_bad {t : gSt} {Q : Int32 → Prop} (h : ¬ t.1 65 12 = -1) (q : Q (nI 0)) : W_X12_fine Q t := bq_f h q
theorem p_wrong_ok {t : gSt} {kd pl : Int32} {Q : gSt → Prop} (h : t.1 65 12 = -1) (q : ∀ u, Fr [] [12, 13] t u → u.1 65 12 = pl → u.1 65 13 = kd → Q u) : W_X12_wrong kd pl Q t := by
  refine bq_t h (fI_i (fI_i (q _ ((Fr.rf.f (by simp)).f (by simp)) ?_ ?_)))
  · rw [sI_get, if_neg (fun w => absurd w.2 (by decide)), sI_get, if_pos ⟨rfl, rfl⟩]
  · rw [sI_get, if_pos ⟨rfl, rfl⟩]
theorem p_wrong_bad {t : gSt} {kd pl : Int32} {Q : gSt → Prop} (h : ¬ t.1 65 12 = -1) (q : Q t) : W_X12_wrong kd pl Q t := bq_f h q
theorem MB.bad {e : Nat × Nat} {u : gSt} (hn : n ≤ 400) (h : MB B n e u) : ¬ u.1 65 12 = -1 := fun w => by
  have h1 := @plc_le B n e.2
  have h2 := nI_pos (n := plc B n e.2) (by omega)
  rw [← h.1, w] at h2
  exact absurd (by decide) h2
theorem MB.fr {e : Nat × Nat} {t u : gSt} {ks js : List Nat} (h : MB B n e t) (f : Fr ks js t u) (h12 : 12 ∉ js) (h13 : 13 ∉ js) : MB B n e u := by
  unfold MB
  rw [(f.2.1 12 h12).1, (f.2.1 13 h13).1]
  exact h
theorem p_skipM {K : gSt → Prop} {Q' : Int32 → gSt → Prop} : ∀ (m p : Nat) (t : gSt), bytM t B n → t.1 65 11 = nI p → p + m = n → (∀ u, Fr [] [11] t u → u.1 65 11 = nI (nxt B n p) → K u) → L_X12_here_0 Q' K (m + 1) t := by
  intro m
  induction m with
  | zero =>
    intro p t hB hp hm q
    have h4 := hB.1
    rw [L_X12_here_0, hB.2.1, hp]
    refine bq_t (nI_le (by omega) (by omega)) (q t Fr.rf ?_)
    rw [hp, nxt_here (fun w => by omega)]
  | succ m ih =>
    intro p t hB hp hm q
    have h4 := hB.1
    obtain ⟨b1, b2⟩ := hB.2.2 p (by omega)
    rw [L_X12_here_0, hB.2.1, hp]
    refine bq_f (nI_ge (by omega) (by omega)) (rI_i (by omega) ?_)
    rw [b1]
    refine br_eq (a := B p) (i := 32) (by omega) (by omega) (fun z => fI_i ?_) (fun z => ?_)
    · rw [nI_add]
      have f : Fr [] [11] t (sI t 65 11 (nI (p + 1))) := Fr.rf.f (by simp)
      refine ih (p + 1) _ (hB.fr f (by simp) (by simp)) (by rw [sI_get, if_pos ⟨rfl, rfl⟩]) (by omega) (fun u hu h11 => q u (f.trans hu) ?_)
      rw [h11, nxt_blank (by omega) z]
    · exact q t Fr.rf (by rw [hp, nxt_here (fun _ => z)])
theorem p_hereM {k : Int} {d : Nat} {s : PS} {t : gSt} (h : MR B n k d s t) {Q : Int32 → gSt → Prop} (q : ∀ u, Fr [] [11] t u → MR B n k d s u → u.1 65 11 = nI (plc B n s.1) → Q (hvB B n s.1) u) : W_X12_here Q t := by
  have h0 := h
  obtain ⟨hB, h2, ⟨p, hp, hpn, hx⟩, h4, ⟨h5, h6, h7⟩, h8⟩ := h
  have hle := @plc_le B n s.1
  have h4 := hB.1
  unfold W_X12_here
  refine ⟨n - p + 1, p_skipM (n - p) p t hB hp (by omega) (fun u hu h11 => ?_)⟩
  rw [hx] at h11
  have q2 := q u hu (h0.go hu h11 hle plc_nxt h5 h7) h11
  have hBu := hB.fr hu (by simp) (by simp)
  rw [hBu.2.1, h11]
  unfold hvB at q2
  refine br_le (by omega) (by omega) (fun w => ?_) (fun w => rI_i (by omega) ?_)
  · rw [if_neg (by omega)] at q2; exact q2
  · rw [if_pos w] at q2
    rw [(hBu.2.2 _ w).1]
    exact q2
theorem p_isSmallM {σ : gSt} {x : Nat} (hx : x < 256) {Q : Int32 → Prop} (q : Q (zI (isLb x))) : W_X12_isSmall (nI x) Q σ := by
  unfold W_X12_isSmall
  unfold isLb at q
  refine br_lt (by omega) (by omega) (fun h => ?_) (fun h => br_lt (by omega) (by omega) (fun h2 => ?_) (fun h2 => ?_))
  · rw [decide_eq_false (show ¬ 97 ≤ x by omega), Bool.false_and] at q; exact q
  · rw [decide_eq_false (show ¬ x ≤ 122 by omega), Bool.and_false] at q; exact q
  · rw [decide_eq_true (show 97 ≤ x by omega), decide_eq_true (show x ≤ 122 by omega)] at q; exact q
theorem p_isDigitM {σ : gSt} {x : Nat} (hx : x < 256) {Q : Int32 → Prop} (q : Q (zI (isDb x))) : W_X12_isDigit (nI x) Q σ := by
  unfold W_X12_isDigit
  unfold isDb at q
  refine br_lt (by omega) (by omega) (fun h => ?_) (fun h => br_lt (by omega) (by omega) (fun h2 => ?_) (fun h2 => ?_))
  · rw [decide_eq_false (show ¬ 48 ≤ x by omega), Bool.false_and] at q; exact q
  · rw [decide_eq_false (show ¬ x ≤ 57 by omega), Bool.and_false] at q; exact q
  · rw [decide_eq_true (show 48 ≤ x by omega), decide_eq_true (show x ≤ 57 by omega)] at q; exact q
theorem p_wordM {k : Int} {d : Nat} {s : PS} {t : gSt} (h : MR B n k d s t) {Q : Int64 → gSt → Prop} (q : ∀ u, Fr [] [11] t u → MR B n k d s u → u.1 65 11 = nI (plc B n s.1) → Q (wdB B n s.1) u) : W_X12_word Q t := by
  unfold W_X12_word
  refine p_hereM h (fun u hu hm h11 => ?_)
  have q2 := q u hu hm h11
  have hB := hm.1
  have h4 := hB.1
  have hle := @plc_le B n s.1
  rw [h11]
  have loop : ∀ (m j : Nat), plc B n s.1 + j + m = n → (∀ c, c = runE isLb B n m (plc B n s.1 + j) - plc B n s.1 → (nI c ≤ nI 7 → Q (lN (pkV B (plc B n s.1) c)) u) ∧ (¬ nI c ≤ nI 7 → Q (lN 0) u)) → L_X12_word_15 Q u (fun y17 y18 => ((y18 ≤ (nI 7) → (Q y17 u)) ∧ (¬ y18 ≤ (nI 7) → (Q (lN 0) u)))) (m + 1) (lN (pkV B (plc B n s.1) j)) (nI j) (nI (plc B n s.1 + j)) := by
    intro m
    induction m with
    | zero =>
      intro j hj hq
      rw [L_X12_word_15, hB.2.1]
      exact bq_t (nI_le (by omega) (by omega)) (hq j (by rw [runE]; omega))
    | succ m ih =>
      intro j hj hq
      rw [L_X12_word_15, hB.2.1]
      obtain ⟨b1, b2⟩ := hB.2.2 (plc B n s.1 + j) (by omega)
      refine bq_f (nI_ge (by omega) (by omega)) (rI_i (by omega) ?_)
      rw [b1]
      rw [runE] at hq
      refine p_isSmallM b2 (br_z (fun z => ?_) (fun z => ?_))
      · rw [if_neg (fun w => by rw [z] at w; cases w.2)] at hq
        exact hq j (by omega)
      · rw [if_pos ⟨by omega, z⟩] at hq
        have hz := isLb_or z
        intro J13 hJ13
        have key : J13 (lN (pkV B (plc B n s.1) (j + 1))) := by
          refine hJ13 _ ?_
          rw [nI_add, nI_add]
          exact ih (j + 1) (by omega) hq
        refine br_le (by omega) (by omega) (fun w => ?_) (fun w => rI_i (by omega) ?_)
        · have e : pkV B (plc B n s.1) (j + 1) = 0 := if_neg (by omega)
          rw [e] at key
          exact key
        · have e : pkV B (plc B n s.1) (j + 1) = pkV B (plc B n s.1) j * 32 + (B (plc B n s.1 + j) - 96) := by
            unfold pkV
            rw [if_pos (by omega), if_pos (by omega)]
            rfl
          rw [e] at key
          rw [b1, nI_sub (by omega), sh5 (by omega)]
          exact key
  refine ⟨n - plc B n s.1 + 1, loop (n - plc B n s.1) 0 (by omega) (fun c hc => ?_)⟩
  have hc2 : c = ltE B n (plc B n s.1) - plc B n s.1 := hc
  have hlt := ltE_le (B := B) hle
  refine br_le (by omega) (by omega) (fun w => ?_) (fun w => ?_)
  · unfold wdB at q2
    rw [← hc2] at q2
    exact q2
  · unfold wdB at q2
    rw [← hc2] at q2
    unfold pkV at q2
    rw [if_neg (by omega)] at q2
    exact q2
theorem p_passL {Q K : gSt → Prop} : ∀ (m p : Nat) (t : gSt), bytM t B n → t.1 65 11 = nI p → p + m = n → (∀ u, Fr [] [11] t u → u.1 65 11 = nI (runE isLb B n m p) → K u) → L_X12_pass_0 Q K (m + 1) t := by
  intro m
  induction m with
  | zero =>
    intro p t hB hp hm q
    have h4 := hB.1
    rw [L_X12_pass_0, hB.2.1, hp]
    exact bq_t (nI_le (by omega) (by omega)) (q t Fr.rf (by rw [hp, runE]))
  | succ m ih =>
    intro p t hB hp hm q
    have h4 := hB.1
    obtain ⟨b1, b2⟩ := hB.2.2 p (by omega)
    rw [L_X12_pass_0, hB.2.1, hp]
    refine bq_f (nI_ge (by omega) (by omega)) (rI_i (by omega) ?_)
    rw [b1]
    rw [runE] at q
    refine p_isSmallM b2 (br_z (fun z => ?_) (fun z => fI_i ?_))
    · rw [if_neg (fun w => by rw [z] at w; cases w.2)] at q
      exact q t Fr.rf hp
    · rw [if_pos ⟨by omega, z⟩] at q
      rw [nI_add]
      have f : Fr [] [11] t (sI t 65 11 (nI (p + 1))) := Fr.rf.f (by simp)
      exact ih (p + 1) _ (hB.fr f (by simp) (by simp)) (by rw [sI_get, if_pos ⟨rfl, rfl⟩]) (by omega) (fun u hu h11 => q u (f.trans hu) h11)
/-- behind a word -/
theorem p_passM {k : Int} {d : Nat} {s : PS} {t : gSt} (h : MR B n k d s t) (hp : t.1 65 11 = nI (plc B n s.1)) (hlt : plc B n s.1 < n) (hl : isLb (B (plc B n s.1)) = true) {Q : gSt → Prop} (q : ∀ u, Fr [] [11] t u → MR B n (k + 1) d (s.1 + 1, s.2) u → Q u) : W_X12_pass Q t := by
  have hB := h.1
  unfold W_X12_pass
  refine ⟨n - plc B n s.1 + 1, p_passL (n - plc B n s.1) _ t hB hp (by omega) (fun u hu h11 => q u hu ?_)⟩
  have e : runE isLb B n (n - plc B n s.1) (plc B n s.1) = tokE B n (plc B n s.1) := ltE_tok hlt hl
  rw [e] at h11
  have hge := plc_ge s.1 hlt
  have h7 := h.2.2.2.2.1.2.2
  exact h.go hu h11 (tokE_ok hlt).2 (plc_succ hlt) (by omega) (by omega)
/-- one byte further, over a sign of one byte -/
theorem MR.one {k : Int} {d : Nat} {s : PS} {t : gSt} (h : MR B n k d s t) (hp : t.1 65 11 = nI (plc B n s.1)) (hlt : plc B n s.1 < n) (hl : isLb (B (plc B n s.1)) = false) (hd : isDb (B (plc B n s.1)) = false) : MR B n (k + 1) d (s.1 + 1, s.2) (sI t 65 11 (t.1 65 11 + nI 1)) := by
  have f : Fr [] [11] t (sI t 65 11 (t.1 65 11 + nI 1)) := Fr.rf.f (by simp)
  have e : tokE B n (plc B n s.1) = plc B n s.1 + 1 := by
    unfold tokE
    rw [if_neg (by rw [hl]; decide), if_neg (by rw [hd]; decide)]
  have hge := plc_ge s.1 hlt
  have h7 := h.2.2.2.2.1.2.2
  have hs := plc_succ hlt
  rw [e] at hs
  exact h.go f (by rw [sI_get, if_pos ⟨rfl, rfl⟩, hp, nI_add]) (by omega) hs (by omega) (by omega)
/-- a sign of one byte stands there -/
theorem sg_at {c x : Nat} (hb : ∀ i, i < n → B i < 256) (hx : isLb x = false ∧ isDb x = false ∧ x ≠ 0 ∧ x < 256) (h : sgB B n c = nI x) : plc B n c < n ∧ isLb (B (plc B n c)) = false ∧ isDb (B (plc B n c)) = false := by
  have h2 := (sg_one hb hx).mpr h
  unfold hvB at h2
  split at h2
  · rename_i h3
    have := hb _ h3
    rw [nI_eq (by omega) (by omega)] at h2
    rw [h2]
    exact ⟨h3, hx.1, hx.2.1⟩
  · rw [nI_eq (by decide) (by omega)] at h2
    exact absurd h2.symm hx.2.2.1
theorem bytM.b {t : gSt} (h : bytM t B n) : ∀ i, i < n → B i < 256 := fun i hi => (h.2.2 i hi).2
theorem p_needM {k : Int} {d x : Nat} {s : PS} {t : gSt} (h : MR B n k d s t) (hx : isLb x = false ∧ isDb x = false ∧ x ≠ 0 ∧ x < 256) {Q : gSt → Prop} (q0 : ¬ sgB B n s.1 = nI x → ∀ u, Fr [] [11, 12, 13] t u → MB B n (1, s.1) u → Q u) (q1 : sgB B n s.1 = nI x → ∀ u, Fr [] [11] t u → MR B n (k + 1) d (s.1 + 1, s.2) u → Q u) : W_X12_need (nI x) Q t := by
  have hb := h.1.b
  unfold W_X12_need
  refine p_fine_ok h.2.1 (fun J3 hJ3 => bq_f (by decide) (p_hereM h (fun u hu hm h11 => ⟨fun w => ?_, fun w => ?_⟩)))
  · have w2 := (sg_one hb hx).mp w
    obtain ⟨a1, a2, a3⟩ := sg_at hb hx w2
    exact hJ3 u (p_fine_ok hm.2.1 (bq_f (by decide) (fI_i (q1 w2 _ (hu.trans (Fr.rf.f (by simp))) (hm.one h11 a1 a2 a3)))))
  · refine p_wrong_ok hm.2.1 (fun v hv k1 k2 => hJ3 v ?_)
    rw [h11] at k1
    have hMB : MB B n (1, s.1) v := ⟨k1, k2⟩
    exact p_fine_bad (hMB.bad h.1.1) (bq_t rfl (q0 (fun z => w ((sg_one hb hx).mpr z)) v ((hu.mono (by simp) (by simp)).trans (hv.mono (by simp) (by simp))) hMB))
theorem p_need_bad {x : Int32} {t : gSt} (h : ¬ t.1 65 12 = -1) {Q : gSt → Prop} (q : Q t) : W_X12_need x Q t := by
  unfold W_X12_need
  exact p_fine_bad h (fun J3 hJ3 => bq_t rfl (hJ3 t (p_fine_bad h (bq_t rfl q))))
theorem p_emitM {k : Int} {d o : Nat} {v : Int32} {s : PS} {t : gSt} (hk : 0 ≤ k) (h : MR B n (k + 1) d s t) {Q : gSt → Prop} (q : ∀ u, Fr [84, 85] [15] t u → MR B n k d (emP o v s) u → Q u) : W_X12_emit (nI o) v Q t := by
  obtain ⟨h1, h2, ⟨p, hp, h3⟩, h4, ⟨h5, h6, h7⟩, h8⟩ := h
  have hn := h1.1
  unfold W_X12_emit
  refine p_fine_ok h2 (bq_f (by decide) ?_)
  rw [h6]
  refine wI_i (by omega) ?_
  rw [show (sI t 84 s.2.1 (nI o)).1 65 15 = nI s.2.1 by rw [sI_get, if_neg (fun w => absurd w.1 (by decide))]; exact h6]
  refine wI_i (by omega) (fI_i ?_)
  rw [show (sI (sI t 84 s.2.1 (nI o)) 85 s.2.1 v).1 65 15 = nI s.2.1 by rw [sI_get, if_neg (fun w => absurd w.1 (by decide)), sI_get, if_neg (fun w => absurd w.1 (by decide))]; exact h6]
  rw [nI_add]
  have f : Fr [84, 85] [15] t (sI (sI (sI t 84 s.2.1 (nI o)) 85 s.2.1 v) 65 15 (nI (s.2.1 + 1))) := ((Fr.rf.i (by simp) (by decide)).i (by simp) (by decide)).f (by simp)
  refine q _ f ⟨h1.fr f (by simp) (by simp), ?_, ⟨p, ?_, h3⟩, ?_, ⟨h5, ?_, ?_⟩, fun j hj => ?_⟩
  · rw [(f.2.1 12 (by simp)).1]; exact h2
  · rw [(f.2.1 11 (by simp)).1]; exact hp
  · rw [(f.2.1 14 (by simp)).1]; exact h4
  · rw [sI_get, if_pos ⟨rfl, rfl⟩]; rfl
  · show ((s.2.1 + 1 : Nat) : Int) + k ≤ ((s.1 : Nat) : Int); omega
  · have hj2 : j < s.2.1 + 1 := hj
    show _ = nI (xat s.2.1 o s.2.2.1 j) ∧ _ = xat s.2.1 v s.2.2.2 j
    simp only [sI_get]
    by_cases z : j = s.2.1
    · subst z
      rw [xat_at, xat_at]
      exact ⟨by simp, by simp⟩
    · obtain ⟨a1, a2⟩ := h8 j (by omega)
      rw [xat_ne z, xat_ne z]
      exact ⟨by simp [z, a1], by simp [z, a2]⟩
theorem p_emit_bad {o v : Int32} {t : gSt} (h : ¬ t.1 65 12 = -1) {Q : gSt → Prop} (q : Q t) : W_X12_emit o v Q t := by
  unfold W_X12_emit
  exact p_fine_bad h (bq_t rfl q)
end
