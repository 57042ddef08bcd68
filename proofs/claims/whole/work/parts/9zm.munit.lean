/-! the reference's unit is the pure one -/
section
variable {B : Nat → Nat} {n : Nat}
def mOut (B : Nat → Nat) (n : Nat) (k : Int) (d : Nat) (r : PR) (t : gSt) (Q : gSt → Prop) : Prop := match r with
  | .inl e => ∀ u, mfr t u → MB B n e u → Q u
  | .inr s => ∀ u, mfr t u → MR B n k d s u → Q u
theorem mOut.tr {k : Int} {d : Nat} {r : PR} {t u : gSt} {Q : gSt → Prop} (h : mOut B n k d r t Q) (f : mfr t u) : mOut B n k d r u Q := by
  cases r with
  | inl e => exact fun v hv => h v (f.trans hv)
  | inr s => exact fun v hv => h v (f.trans hv)
theorem fr_m {t u : gSt} {ks js : List Nat} (h : Fr ks js t u) (h1 : ∀ k ∈ ks, k ∈ [84, 85]) (h2 : ∀ j ∈ js, j ∈ [11, 12, 13, 14, 15]) : mfr t u := h.mono h1 h2
/-- in a bad state it only moves the depth -/
def bdF (R : (gSt → Prop) → gSt → Prop) : Prop := ∀ t Q, ¬ t.1 65 12 = -1 → (∀ u, Fr [] [14] t u → Q u) → R Q t
def mFn (B : Nat → Nat) (n d : Nat) (R : (gSt → Prop) → gSt → Prop) (f : PS → PR) : Prop := ∀ (k : Int) (s : PS) (t : gSt) (Q : gSt → Prop), 0 ≤ k → MR B n k d s t → mOut B n k d (f s) t Q → R Q t
/-- what follows in a bad state only moves the depth -/
def bk (Q K : gSt → Prop) : Prop := ∀ u, ¬ u.1 65 12 = -1 → (∀ v, Fr [] [14] u v → Q v) → K u
theorem bad_fr {u v : gSt} (h : ¬ u.1 65 12 = -1) (f : Fr [] [14] u v) : ¬ v.1 65 12 = -1 := by rw [(f.2.1 12 (by simp)).1]; exact h
theorem bk_rf {Q : gSt → Prop} : bk Q Q := fun u _ q => q u Fr.rf
theorem bk_fn {R : (gSt → Prop) → gSt → Prop} (hR : bdF R) {Q K : gSt → Prop} (h : bk Q K) : bk Q (fun u => R K u) := fun u hu q => hR u K hu (fun v hv => h v (bad_fr hu hv) (fun w hw => q w (hv.trans hw)))
theorem bk_need {x : Int32} {Q K : gSt → Prop} (h : bk Q K) : bk Q (fun u => W_X12_need x K u) := fun u hu q => p_need_bad hu (h u hu q)
theorem bk_closes {x : Int32} {Q K : gSt → Prop} (h : bk Q K) : bk Q (fun u => W_X12_closesAt x K u) := fun u hu q => p_closes_bad hu (fun v hv => h v (bad_fr hu hv) (fun w hw => q w (hv.trans hw)))
theorem bk_emit {o v : Int32} {Q K : gSt → Prop} (h : bk Q K) : bk Q (fun u => W_X12_emit o v K u) := fun u hu q => p_emit_bad hu (h u hu q)
/-- what is asked of a call one deeper -/
def subM (B : Nat → Nat) (n d : Nat) (R : (gSt → Prop) → gSt → Prop) (sub : Option (PS → PR)) : Prop := (sub = none → d = 6) ∧ ∀ f, sub = some f → d < 6 ∧ mFn B n (d + 1) R f
theorem bk.mb {Q K : gSt → Prop} (h : bk Q K) {e : Nat × Nat} {t u : gSt} (hn : n ≤ 400) (f : mfr t u) (hb : MB B n e u) (q : ∀ u, mfr t u → MB B n e u → Q u) : K u := h u (hb.bad hn) (fun v hv => q v (f.trans (fr_m hv (by simp) (by simp))) (hb.fr hv (by simp) (by simp)))
theorem p_openedM {k : Int} {d x : Nat} {s : PS} {t : gSt} {R : (gSt → Prop) → gSt → Prop} {sub : Option (PS → PR)} (hx : isLb x = false ∧ isDb x = false ∧ x ≠ 0 ∧ x < 256) (hd6 : d ≤ 6) (hs : subM B n d R sub) (h : MR B n k d s t) {g : (PS → PR) → PS → PR} {Q : gSt → Prop} (q : mOut B n k d (opP (sgB B n) (nI x) sub g s) t Q) {K : gSt → Prop} (hbk : bk Q K) (hK : ∀ f, sub = some f → mFn B n (d + 1) R f → ∀ u, MR B n (k + 1) (d + 1) (s.1 + 1, s.2) u → mOut B n k d (g f (s.1 + 1, s.2)) u Q → K u) : W_X12_opensAt (nI x) (nI 1) K t := by
  have hn := h.1.1
  have h18 : ¬ (nI x : Int32) = -18 := fun w => by
    have h3 := nI_pos (n := x) (by omega)
    rw [w] at h3
    exact absurd (by decide) h3
  refine p_opensM hd6 h hx (fun w u hu hm => ?_) (fun w z u hu hm => ?_) (fun w z u hu hm => ?_)
  · unfold opP at q
    rw [if_neg w] at q
    exact hbk.mb hn (fr_m hu (by simp) (by simp)) hm q
  · unfold opP at q
    rw [if_pos w] at q
    cases hsub : sub with
    | none => rw [hsub] at q; exact hbk.mb hn (fr_m hu (by simp) (by simp)) hm q
    | some f => have := (hs.2 f hsub).1; omega
  · unfold opP at q
    rw [if_pos w] at q
    cases hsub : sub with
    | none => have := hs.1 hsub; omega
    | some f =>
      rw [hsub] at q
      have had : adP (sgB B n) s = (s.1 + 1, s.2) := if_neg (fun y => h18 (w.symm.trans y))
      have q2 : mOut B n k d (g f (adP (sgB B n) s)) t Q := q
      rw [had] at q2
      exact hK f hsub (hs.2 f hsub).2 u hm (q2.tr (fr_m hu (by simp) (by simp)))
/-- a call, then what follows when it went well -/
theorem p_thenM {d d2 : Nat} {R : (gSt → Prop) → gSt → Prop} {f : PS → PR} (hR : mFn B n d2 R f) {k k2 : Int} (hk : 0 ≤ k2) {s : PS} {t : gSt} (h : MR B n k2 d2 s t) {g : PS → PR} {Q : gSt → Prop} (q : mOut B n k d (bnP (f s) g) t Q) {K : gSt → Prop} (hbk : bk Q K) (hK : ∀ s2 u, MR B n k2 d2 s2 u → mOut B n k d (g s2) u Q → K u) : R K t := by
  have hn := h.1.1
  refine hR k2 s t _ hk h ?_
  cases hf : f s with
  | inl e =>
    rw [hf] at q
    exact fun u hu hm => hbk.mb hn hu hm q
  | inr s2 =>
    rw [hf] at q
    intro u hu hm
    have q2 : mOut B n k d (g s2) t Q := q
    exact hK s2 u hm (q2.tr hu)
/-- a sign that is due, then what follows -/
theorem p_dueM {d d2 x : Nat} {k k2 : Int} {s : PS} {t : gSt} (hx : isLb x = false ∧ isDb x = false ∧ x ≠ 0 ∧ x < 256) (h : MR B n k2 d2 s t) {g : PS → PR} {Q : gSt → Prop} (q : mOut B n k d (bnP (paP (sgB B n) (nI x) s) g) t Q) {K : gSt → Prop} (hbk : bk Q K) (hK : ∀ u, MR B n (k2 + 1) d2 (s.1 + 1, s.2) u → mOut B n k d (g (s.1 + 1, s.2)) u Q → K u) : W_X12_need (nI x) K t := by
  have hn := h.1.1
  have h18 : ¬ (nI x : Int32) = -18 := fun w => by
    have h3 := nI_pos (n := x) (by omega)
    rw [w] at h3
    exact absurd (by decide) h3
  unfold paP at q
  refine p_needM h hx (fun w u hu hm => ?_) (fun w u hu hm => ?_)
  · rw [if_neg w] at q
    exact hbk.mb hn (fr_m hu (by simp) (by simp)) hm q
  · have had : adP (sgB B n) s = (s.1 + 1, s.2) := if_neg (fun y => h18 (w.symm.trans y))
    rw [if_pos w, had] at q
    have q2 : mOut B n k d (g (s.1 + 1, s.2)) t Q := q
    exact hK u hm (q2.tr (fr_m hu (by simp) (by simp)))
theorem p_closeM {d d2 x : Nat} {k k2 : Int} {s : PS} {t : gSt} (hx : isLb x = false ∧ isDb x = false ∧ x ≠ 0 ∧ x < 256) (h : MR B n k2 (d2 + 1) s t) {g : PS → PR} {Q : gSt → Prop} (q : mOut B n k d (bnP (paP (sgB B n) (nI x) s) g) t Q) {K : gSt → Prop} (hbk : bk Q K) (hK : ∀ u, MR B n (k2 + 1) d2 (s.1 + 1, s.2) u → mOut B n k d (g (s.1 + 1, s.2)) u Q → K u) : W_X12_closesAt (nI x) K t := by
  have hn := h.1.1
  have h18 : ¬ (nI x : Int32) = -18 := fun w => by
    have h3 := nI_pos (n := x) (by omega)
    rw [w] at h3
    exact absurd (by decide) h3
  unfold paP at q
  refine p_closesM h hx (fun w u hu hm => ?_) (fun w u hu hm => ?_)
  · rw [if_neg w] at q
    exact hbk.mb hn (fr_m hu (by simp) (by simp)) hm q
  · have had : adP (sgB B n) s = (s.1 + 1, s.2) := if_neg (fun y => h18 (w.symm.trans y))
    rw [if_pos w, had] at q
    have q2 : mOut B n k d (g (s.1 + 1, s.2)) t Q := q
    exact hK u hm (q2.tr (fr_m hu (by simp) (by simp)))
theorem bnP_id {r : PR} : bnP r (fun s => .inr s) = r := by cases r <;> rfl
def hvN (B : Nat → Nat) (n c : Nat) : Nat := if plc B n c < n then B (plc B n c) else 0
theorem hv_nI {c : Nat} : hvB B n c = nI (hvN B n c) := by unfold hvB hvN; split <;> rfl
theorem hvN_lt {c : Nat} (hb : ∀ i, i < n → B i < 256) : hvN B n c < 256 := by
  unfold hvN
  split
  · rename_i h; exact hb _ h
  · omega
theorem hvN_dg {c : Nat} (hb : ∀ i, i < n → B i < 256) : isDb (hvN B n c) = true ↔ sgB B n c = -17 := by
  rw [sg_num hb]
  unfold hvN
  by_cases h : plc B n c < n
  · rw [if_pos h]; exact ⟨fun z => ⟨h, z⟩, fun z => z.2⟩
  · rw [if_neg h]; exact ⟨fun z => absurd z (by decide), fun z => absurd z.1 h⟩
/-- words begin with letters -/
theorem sg_let {c k : Nat} (hb : ∀ i, i < n → B i < 256) (hk : k < 16) (h : sgB B n c = -(nI (k + 1))) : plc B n c < n ∧ isLb (B (plc B n c)) = true := by
  have hneg : ∀ k, k < 16 → -(nI (k + 1)) < (0 : Int32) ∧ ¬ -(nI (k + 1)) = (-17 : Int32) ∧ ¬ -(nI (k + 1)) = (-18 : Int32) := by decide
  obtain ⟨h1, h2, h3⟩ := hneg k hk
  unfold sgB sgn at h
  split at h
  · rename_i hlt
    refine ⟨hlt, ?_⟩
    unfold tokS at h
    have := hb _ hlt
    split at h
    · assumption
    · split at h
      · exact absurd h.symm h2
      · have h4 := nI_pos (n := B (plc B n c)) (by omega)
        rw [h] at h4
        exact absurd h1 h4
  · exact absurd h.symm h3
theorem mFn_unit {d : Nat} (hd6 : d ≤ 6) {R1 R2 R3 : (gSt → Prop) → gSt → Prop} {sub : Option (PS → PR)} (hs : subM B n d R2 sub) (hbd : bdF R2) : mFn B n d (S_X12_unit R1 R2 R3) (unP (sgB B n) (vlB B n) sub) := by
  intro k s t Q hk h q
  have hb := h.1.b
  have hn := h.1.1
  unfold S_X12_unit
  refine p_fine_ok h.2.1 (bq_f (by decide) (p_hereM h (fun u hu hm h11 => ?_)))
  replace q := q.tr (fr_m hu (by simp) (by simp))
  unfold unP at q
  have hx := hvN_lt (c := s.1) hb
  rw [hv_nI]
  refine p_isDigitM hx (br_z (fun z => ?_) (fun z => ?_))
  · have n17 : ¬ sgB B n s.1 = -17 := fun w => by rw [(hvN_dg hb).mpr w] at z; cases z
    rw [if_neg n17] at q
    rw [← hv_nI]
    have h40 := sg_one (c := s.1) (x := 40) hb (by decide)
    refine ⟨fun w => ?_, fun w => ?_⟩
    · have w2 := h40.mp w
      rw [if_neg (fun y => by rw [w2] at y; exact absurd y.1 (by decide)), if_neg (fun y => by rw [w2] at y; revert y; decide)] at q
      refine p_openedM (by decide) hd6 hs hm q (bk_fn hbd (bk_closes bk_rf)) (fun f hsf hff u2 hm2 q2 => ?_)
      refine p_thenM hff (by omega) hm2 q2 (bk_closes bk_rf) (fun s2 u3 hm3 q3 => ?_)
      rw [← bnP_id (r := paP (sgB B n) (nI 41) s2)] at q3
      exact p_closeM (by decide) hm3 q3 bk_rf (fun u4 hm4 q4 => q4 u4 Fr.rf (hm4.mono (by omega)))
    · have nw : ¬ sgB B n s.1 = nI 40 := fun y => w (h40.mpr y)
      refine p_wordM hm (fun u2 hu2 hm2 h112 => ?_)
      replace q := q.tr (fr_m hu2 (by simp) (by simp))
      have yes : ∀ (k : Nat) (v : Int64), k < 16 → v = lN (pkL (spl.getD k []).reverse) → wdB B n s.1 = v → sgB B n s.1 = -(nI (k + 1)) := fun k v hk hv h => (sg_word hb hk).mp (h.trans hv)
      have no : ∀ (k : Nat) (v : Int64), k < 16 → v = lN (pkL (spl.getD k []).reverse) → ¬ wdB B n s.1 = v → ¬ sgB B n s.1 = -(nI (k + 1)) := fun k v hk hv h h2 => h (((sg_word hb hk).mpr h2).trans hv.symm)
      intro J10 hJ10
      have h78 : (sgB B n s.1 = -7 ∨ sgB B n s.1 = -8) → J10 := fun hx => hJ10 (by
        rw [if_neg (fun y => by rcases hx with e | e <;> rw [e] at y <;> exact absurd y.2 (by decide)), if_pos hx] at q
        have had : adP (sgB B n) s = (s.1 + 1, s.2) := if_neg (fun w => by rw [w] at hx; revert hx; decide)
        rw [had] at q
        have hl : plc B n s.1 < n ∧ isLb (B (plc B n s.1)) = true := by
          rcases hx with e | e
          · exact sg_let (k := 6) hb (by decide) e
          · exact sg_let (k := 7) hb (by decide) e
        refine p_passM hm2 h112 hl.1 hl.2 (fun u3 hu3 hm3 => ?_)
        replace q := q.tr (fr_m hu3 (by simp) (by simp))
        have bke : bk Q (fun s16 => ∀ J18 : Int32 → Prop, (∀ x17, (W_X12_emit x17 (nI 0) (fun s19 => Q s19) s16) → J18 x17) → ((wdB B n s.1 = ((12748404 : Int64)) → (J18 (nI 11))) ∧ (¬ wdB B n s.1 = ((12748404 : Int64)) → (J18 (nI 12))))) := fun v hv hq J18 hJ18 => ⟨fun _ => hJ18 _ (bk_emit bk_rf v hv hq), fun _ => hJ18 _ (bk_emit bk_rf v hv hq)⟩
        refine p_openedM (by decide) hd6 hs (hm3.mono (l := k) (by omega)) q (bk_fn hbd (bk_need (bk_fn hbd (bk_closes bke)))) (fun f hsf hff u4 hm4 q4 => ?_)
        refine p_thenM hff (by omega) hm4 q4 (bk_need (bk_fn hbd (bk_closes bke))) (fun s5 u5 hm5 q5 => ?_)
        refine p_dueM (by decide) hm5 q5 (bk_fn hbd (bk_closes bke)) (fun u6 hm6 q6 => ?_)
        refine p_thenM hff (by omega) hm6 q6 (bk_closes bke) (fun s7 u7 hm7 q7 => ?_)
        refine p_closeM (by decide) hm7 q7 bke (fun u8 hm8 q8 => ?_)
        intro J18 hJ18
        have key : ∀ o, o = (if sgB B n s.1 = -7 then 11 else 12) → J18 (nI o) := fun o ho => by
          rw [← ho] at q8
          exact hJ18 _ (p_emitM hk (hm8.mono (by omega)) (fun v hv hmv => q8 v (fr_m hv (by simp) (by simp)) hmv))
        exact ⟨fun w => key 11 (by rw [if_pos (show sgB B n s.1 = -7 from yes 6 _ (by decide) (by decide) w)]), fun w => key 12 (by rw [if_neg (show ¬ sgB B n s.1 = -7 from no 6 _ (by decide) (by decide) w)])⟩)
      refine ⟨fun w => h78 (.inl (yes 6 _ (by decide) (by decide) w)), fun w7 => ⟨fun w => h78 (.inr (yes 7 _ (by decide) (by decide) w)), fun w8 => ?_⟩⟩
      have n7 := no 6 _ (by decide) (by decide) w7
      have n8 := no 7 _ (by decide) (by decide) w8
      refine p_nameM hb ?_
      by_cases hnm : sgB B n s.1 ≤ (-1 : Int32) ∧ (-6 : Int32) ≤ sgB B n s.1
      · rw [if_pos hnm] at q
        have had : ∀ x : PS, x.1 = s.1 → adP (sgB B n) x = (s.1 + 1, x.2) := fun x hx => by
          unfold adP
          rw [hx]
          exact if_neg (fun w => by rw [w] at hnm; exact absurd hnm.2 (by decide))
        rw [had (emP (nt (-(sgB B n s.1))) (nI 0) s) rfl] at q
        have e : nmS (sgB B n s.1) = nI (nt (-(sgB B n s.1))) := if_pos hnm
        have hl : plc B n s.1 < n ∧ isLb (B (plc B n s.1)) = true := by
          rcases i32_six hnm.1 hnm.2 with y | y | y | y | y | y
          · exact sg_let (k := 0) hb (by decide) y
          · exact sg_let (k := 1) hb (by decide) y
          · exact sg_let (k := 2) hb (by decide) y
          · exact sg_let (k := 3) hb (by decide) y
          · exact sg_let (k := 4) hb (by decide) y
          · exact sg_let (k := 5) hb (by decide) y
        refine bq_f ?_ (p_passM hm2 h112 hl.1 hl.2 (fun u3 hu3 hm3 => p_nameM hb ?_))
        · rcases i32_six hnm.1 hnm.2 with y | y | y | y | y | y <;> rw [y] <;> decide
        · rw [e]
          exact p_emitM hk hm3 (fun v hv hmv => q v ((fr_m hu3 (by simp) (by simp)).trans (fr_m hv (by simp) (by simp))) hmv)
      · rw [if_neg hnm, if_neg (fun y => y.elim n7 n8)] at q
        have e : nmS (sgB B n s.1) = -1 := if_neg hnm
        rw [e]
        refine bq_t rfl (p_wrong_ok hm2.2.1 (fun v hv k1 k2 => ?_))
        unfold opP at q
        rw [if_neg nw] at q
        rw [h112] at k1
        exact q v (fr_m hv (by simp) (by simp)) ⟨k1, k2⟩
  · have w := (hvN_dg hb).mp z
    rw [if_pos w] at q
    have htk : tokV B n (plc B n s.1) < 2147483648 ∨ True := .inr trivial
    have e1 : vlB B n s.1 = nI (tokV B n (plc B n s.1)) := rfl
    rw [e1] at q
    refine p_readNumM hm h11 w (fun hv u2 hu2 hm2 => ?_) (fun hv u2 y hu2 hm2 => ?_)
    · rw [if_pos (by rw [nI_leI (by omega) (by omega)]; exact hv)] at q
      have had : adP (sgB B n) (emP 0 (nI (tokV B n (plc B n s.1))) s) = (s.1 + 1, (emP 0 (nI (tokV B n (plc B n s.1))) s).2) := if_neg (show ¬ sgB B n s.1 = -18 by rw [w]; decide)
      rw [had] at q
      exact p_emitM (o := 0) hk hm2 (fun v hv hmv => q v ((fr_m hu2 (by simp) (by simp)).trans (fr_m hv (by simp) (by simp))) hmv)
    · have hbig : tokV B n (plc B n s.1) < 2147483648 := by
        have hB := hm.1
        unfold tokV
        split
        · have : ∀ (m i v : Nat), v ≤ 100255 → i + m ≤ n → nmV B (tokE B n (plc B n s.1)) m i v ≤ 100255 := by
            intro m
            induction m with
            | zero => intro i v hv _; exact hv
            | succ m ih =>
              intro i v hv hi
              rw [nmV]
              split
              · have := hb i (by omega)
                exact ih (i + 1) _ (by omega) (by omega)
              · exact hv
          have hlt := ((sg_num hb).mp w).1
          have h1 := tokE_ok (B := B) hlt
          have h2 := this (tokE B n (plc B n s.1) - plc B n s.1) (plc B n s.1) 0 (by omega) (by omega)
          omega
        · omega
      rw [if_neg (by rw [nI_leI hbig (by omega)]; exact hv)] at q
      exact p_emit_bad (hm2.bad hn) (q u2 (fr_m hu2 (by simp) (by simp)) hm2)
end
