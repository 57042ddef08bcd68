/-! asked -/
def frF (li : Nat → Int64) (k : Nat) (is : Bool) : Nat → Int64 × Int64
  | 0 => (-1, lN 0)
  | m + 1 => if bL (li m) k = is then ((frF li k is m).1 &&& li m, (frF li k is m).2 ||| li m) else frF li k is m
def frC (li : Nat → Int64) (k : Nat) (is : Bool) (w : Nat) : Nat := fa_cnt (bL ((frF li k is w).2 &&& ((frF li k is w).1 ^^^ (-1 : Int64)))) 64
theorem frC_le {li : Nat → Int64} {k : Nat} {is : Bool} {w : Nat} : frC li k is w ≤ 64 := fa_cnt_le _ _
theorem and_one1 {x : Int64} {k : Nat} (hk : k < 64) : x &&& shlL (lN 1) (nI k) = shlL (lN 1) (nI k) ↔ bL x k = true := by
  constructor
  · intro h
    have := congrArg (fun y => bL y k) h
    simp only [bL_and, bL_one hk hk, decide_true, Bool.and_true] at this
    exact this
  · intro h
    refine bL_ext (fun q hq => ?_)
    rw [bL_and, bL_one hk hq]
    by_cases z : q = k
    · subst z; rw [h, Bool.true_and]
    · rw [decide_eq_false z, Bool.and_false]
theorem p_freeLeft {t : gSt} {x : BLs} (h1 : t.1 56 1 = nI x.1) (hw : x.1 ≤ 200) (h62 : ∀ k, k < x.1 → t.2.1 62 k = x.2.2.2.2 k) {k : Nat} (hk : k < 64) (is : Bool) {Q : Int32 → Prop} (q : Q (nI (frC x.2.2.2.2 k is x.1))) : W_X10_freeLeft (shlL (lN 1) (nI k)) (if is then shlL (lN 1) (nI k) else lN 0) Q t := by
  have loop : ∀ (m i : Nat), i + m = x.1 → L_X10_freeLeft_11 Q (shlL (lN 1) (nI k)) (if is then shlL (lN 1) (nI k) else lN 0) t (fun y15 y16 => W_J13_bitCount_95d88 (y16 &&& (y15 ^^^ ((-1 : Int64)))) (fun x17 => Q x17) t) (m + 1) (frF x.2.2.2.2 k is i).1 (frF x.2.2.2.2 k is i).2 (nI i) := by
    intro m
    induction m with
    | zero =>
      intro i hi
      obtain rfl : i = x.1 := by omega
      rw [L_X10_freeLeft_11, h1]
      exact bq_t (nI_le (Nat.le_refl _) (by omega)) (p_bitCountL q)
    | succ m ih =>
      intro i hi
      rw [L_X10_freeLeft_11, h1]
      refine bq_f (nI_ge (by omega) (by omega)) (bq_f (by rw [nI_leI (by omega) (by omega)]; omega) (rL_e rfl (by omega) ?_))
      rw [h62 i (by omega), nI_add]
      have hc : (x.2.2.2.2 i &&& shlL (lN 1) (nI k) = (if is then shlL (lN 1) (nI k) else lN 0)) ↔ bL (x.2.2.2.2 i) k = is := by
        cases is
        · rw [if_neg (by decide)]; exact and_one hk
        · rw [if_pos rfl]; exact and_one1 hk
      have hr := ih (i + 1) (by omega)
      rw [hc]
      refine ⟨fun z => rL_e rfl (by omega) (rL_e rfl (by omega) ?_), fun z => ?_⟩
      · rw [h62 i (by omega)]
        rw [frF, if_pos z] at hr
        exact hr
      · rw [frF, if_neg z] at hr
        exact hr
  unfold W_X10_freeLeft
  exact ⟨x.1 + 1, loop x.1 0 (by omega)⟩
theorem p_freeIn {u : gSt} {x : BLs} (h1 : u.1 65 71 = nI x.1) (hw : x.1 ≤ 200) (h110 : ∀ k, k < x.1 → u.2.1 110 k = x.2.2.2.2 k) {k : Nat} (hk : k < 64) (is : Bool) {Q : Int32 → Prop} (q : Q (nI (frC x.2.2.2.2 k is x.1))) : W_X12_freeIn (nI k) (if is then lN 1 else lN 0) Q u := by
  have loop : ∀ (m i : Nat), i + m = x.1 → L_X12_freeIn_11 Q (nI k) (if is then lN 1 else lN 0) u (fun y14 y15 => W_X12_bits (y15 &&& (y14 ^^^ ((-1 : Int64)))) (fun x16 => Q x16) u) (m + 1) (frF x.2.2.2.2 k is i).1 (frF x.2.2.2.2 k is i).2 (nI i) := by
    intro m
    induction m with
    | zero =>
      intro i hi
      obtain rfl : i = x.1 := by omega
      rw [L_X12_freeIn_11, h1]
      exact bq_t (nI_le (Nat.le_refl _) (by omega)) (p_bits q)
    | succ m ih =>
      intro i hi
      rw [L_X12_freeIn_11, h1]
      refine bq_f (nI_ge (by omega) (by omega)) (rL_e rfl (by omega) ?_)
      rw [h110 i (by omega), nI_add]
      have hc : (shrL (x.2.2.2.2 i) (nI k) &&& lN 1 = (if is then lN 1 else lN 0)) ↔ bL (x.2.2.2.2 i) k = is := by
        cases is
        · rw [if_neg (by decide)]; exact shr_is0 hk
        · rw [if_pos rfl]; exact shr_is1 hk
      have hr := ih (i + 1) (by omega)
      rw [hc]
      refine ⟨fun z => rL_e rfl (by omega) (rL_e rfl (by omega) ?_), fun z => ?_⟩
      · rw [h110 i (by omega)]
        rw [frF, if_pos z] at hr
        exact hr
      · rw [frF, if_neg z] at hr
        exact hr
  unfold W_X12_freeIn
  exact ⟨x.1 + 1, loop x.1 0 (by omega)⟩
abbrev QSt := Option (Nat × Int32)
def qW (x : BLs) (k : Nat) : Nat := if frC x.2.2.2.2 k true x.1 < frC x.2.2.2.2 k false x.1 then frC x.2.2.2.2 k false x.1 else frC x.2.2.2.2 k true x.1
def qstep (x : BLs) (p : Nat → Bool) (N i j : Nat) (s : QSt) : QSt := if (bL x.2.2.1 (bitN i j) && !bL x.2.1 (bitN i j)) = true then (match s with
  | none => some (qW x (bitN i j), nI (32 * memP p N i + memP p N j))
  | some y => if qW x (bitN i j) < y.1 then some (qW x (bitN i j), nI (32 * memP p N i + memP p N j)) else some y) else s
def qJ (x : BLs) (p : Nat → Bool) (N i : Nat) : Nat → Nat → QSt → QSt
  | 0, _, s => s
  | m + 1, j, s => qJ x p N i m (j + 1) (qstep x p N i j s)
def qI (x : BLs) (p : Nat → Bool) (N n : Nat) : Nat → Nat → QSt → QSt
  | 0, _, s => s
  | m + 1, i, s => qI x p N n m (i + 1) (qJ x p N i (n - (i + 1)) (i + 1) s)
def q9 : QSt → Int32
  | none => BIGN
  | some y => nI y.1
def q10 : QSt → Int32
  | none => -1
  | some y => y.2
def q16 : QSt → Int32
  | none => nI 0
  | some y => nI y.1
def qOK (s : QSt) : Prop := ∀ y, s = some y → y.1 ≤ 64 ∧ ¬ y.2 = (-1 : Int32)
theorem qW_le {x : BLs} {k : Nat} : qW x k ≤ 64 := by
  unfold qW
  split
  · exact frC_le
  · exact frC_le
theorem qstep_ok {x : BLs} {p : Nat → Bool} {N i j : Nat} {s : QSt} (h30 : N ≤ 30) (hi : i < fa_cnt p N) (hj : j < fa_cnt p N) (hs : qOK s) : qOK (qstep x p N i j s) := by
  have mi := (memP_in hi).1
  have mj := (memP_in hj).1
  have ha : ¬ nI (32 * memP p N i + memP p N j) = (-1 : Int32) := nI_nm1 (by omega)
  unfold qstep
  split
  · cases s with
    | none =>
      intro y hy
      simp only [Option.some.injEq] at hy
      subst hy
      exact ⟨qW_le, ha⟩
    | some z =>
      by_cases w : qW x (bitN i j) < z.1
      · simp only [w, if_true]
        intro y hy
        simp only [Option.some.injEq] at hy
        subst hy
        exact ⟨qW_le, ha⟩
      · simp only [w, if_false]; exact hs
  · exact hs
theorem p_question {t : gSt} {p : Nat → Bool} {N : Nat} {x : BLs} (h30 : N ≤ 30) (hn : fa_cnt p N ≤ 10) (h0 : t.1 50 0 = nI (fa_cnt p N)) (h51 : ∀ i, i < fa_cnt p N → t.1 51 i = nI (memP p N i)) (h1 : t.1 56 1 = nI x.1) (hw : x.1 ≤ 200) (h14 : t.2.1 56 14 = x.2.1) (h15 : t.2.1 56 15 = x.2.2.1) (h62 : ∀ k, k < x.1 → t.2.1 62 k = x.2.2.2.2 k) {Q : Int32 → Prop} (q : Q (q10 (qI x p N (fa_cnt p N) (fa_cnt p N) 0 none))) : W_X10_question Q t := by
  have hmem : ∀ i, i < fa_cnt p N → memP p N i < N := fun i hi => (memP_in hi).1
  have inner : ∀ (m j i : Nat) (s : QSt) (K : Int32 → Int32 → Prop), j + m = fa_cnt p N → i < j → qOK s → (qOK (qJ x p N i m j s) → K (q9 (qJ x p N i m j s)) (q10 (qJ x p N i m j s))) → L_X10_question_41 Q ((t.2.1 56 15) &&& ((t.2.1 56 14) ^^^ ((-1 : Int64)))) (nI i) t K (m + 1) (q9 s) (q10 s) (nI j) := by
    intro m
    induction m with
    | zero =>
      intro j i s K hj hi hs hK
      rw [L_X10_question_41, h0]
      exact bq_t (nI_le (by omega) (by omega)) (hK hs)
    | succ m ih =>
      intro j i s K hj hi hs hK
      have hjn : j < fa_cnt p N := by omega
      have hk := bitN_lt hi (show j < 10 by omega)
      rw [L_X10_question_41, h0]
      refine bq_f (nI_ge hjn (by omega)) (p_pairBit (by omega) ?_)
      have hso := qstep_ok (x := x) h30 (show i < fa_cnt p N by omega) hjn hs
      have nxt := ih (j + 1) i (qstep x p N i j s) K (by omega) (by omega) hso (fun w => hK w)
      have exr : (bL x.2.2.1 (bitN i j) && (bL x.2.1 (bitN i j) ^^ true)) = (bL x.2.2.1 (bitN i j) && !bL x.2.1 (bitN i j)) := by cases bL x.2.1 (bitN i j) <;> rfl
      have hbit : ((t.2.1 56 15) &&& ((t.2.1 56 14) ^^^ ((-1 : Int64)))) &&& shlL (lN 1) (nI (bitN i j)) = lN 0 ↔ (bL x.2.2.1 (bitN i j) && !bL x.2.1 (bitN i j)) = false := by
        rw [and_one (by omega), bL_and, bL_xor, h14, h15, bL_m1 (by omega), exr]
      rw [hbit, nI_add]
      refine ⟨fun z => ?_, fun z => ?_⟩
      · rw [show qstep x p N i j s = s by unfold qstep; rw [z]; rfl] at nxt
        exact nxt
      · have hz : (bL x.2.2.1 (bitN i j) && !bL x.2.1 (bitN i j)) = true := ts_nf z
        have f1 := p_freeLeft h1 hw h62 (k := bitN i j) (by omega) true (Q := fun x17 => W_X10_freeLeft (shlL (lN 1) (nI (bitN i j))) (lN 0) (fun x18 => ((q9 s ≤ (mxI x17 x18) → (L_X10_question_41 Q ((t.2.1 56 15) &&& ((t.2.1 56 14) ^^^ ((-1 : Int64)))) (nI i) t K (m + 1) (q9 s) (q10 s) (nI (j + 1)))) ∧ (¬ q9 s ≤ (mxI x17 x18) → (rI t 51 10 (nI i) (fun x20 => rI t 51 10 (nI j) (fun x21 => L_X10_question_41 Q ((t.2.1 56 15) &&& ((t.2.1 56 14) ^^^ ((-1 : Int64)))) (nI i) t K (m + 1) (mxI x17 x18) (((nI 32) * x20) + x21) (nI (j + 1)))))))) t) ?_
        · exact f1
        · refine p_freeLeft h1 hw h62 (k := bitN i j) (by omega) false ?_
          rw [mxI_n (by have := @frC_le x.2.2.2.2 (bitN i j) true x.1; omega) (by have := @frC_le x.2.2.2.2 (bitN i j) false x.1; omega)]
          have hqw := @qW_le x (bitN i j)
          show (q9 s ≤ nI (qW x (bitN i j)) → _) ∧ (¬ q9 s ≤ nI (qW x (bitN i j)) → _)
          have mi := hmem i (by omega)
          have mj := hmem j hjn
          have take : qstep x p N i j s = some (qW x (bitN i j), nI (32 * memP p N i + memP p N j)) → rI t 51 10 (nI i) (fun x20 => rI t 51 10 (nI j) (fun x21 => L_X10_question_41 Q ((t.2.1 56 15) &&& ((t.2.1 56 14) ^^^ ((-1 : Int64)))) (nI i) t K (m + 1) (nI (qW x (bitN i j))) (((nI 32) * x20) + x21) (nI (j + 1)))) := by
            intro e
            refine rI_i (by omega) (rI_i (by omega) ?_)
            rw [h51 i (by omega), h51 j hjn, nI_mul, nI_add]
            rw [e] at nxt
            exact nxt
          cases s with
          | none =>
            refine bq_f ?_ (take ?_)
            · show ¬ BIGN ≤ _
              rw [BIGN_nI, nI_leI (by omega) (by omega)]; omega
            · unfold qstep; rw [if_pos hz]
          | some y =>
            have := (hs y rfl).1
            show (nI y.1 ≤ nI (qW x (bitN i j)) → _) ∧ (¬ nI y.1 ≤ nI (qW x (bitN i j)) → _)
            rw [nI_leI (by omega) (by omega)]
            refine ⟨fun w => ?_, fun w => take ?_⟩
            · have w2 : ¬ qW x (bitN i j) < y.1 := by omega
              rw [show qstep x p N i j (some y) = some y by unfold qstep; rw [if_pos hz]; simp only [w2, if_false]] at nxt
              exact nxt
            · have w2 : qW x (bitN i j) < y.1 := by omega
              unfold qstep; rw [if_pos hz]; simp only [w2, if_true]
  have outer : ∀ (m i : Nat) (s : QSt), i + m = fa_cnt p N → qOK s → (q10 (qI x p N (fa_cnt p N) m i s) = q10 (qI x p N (fa_cnt p N) (fa_cnt p N) 0 none)) → L_X10_question_23 Q ((t.2.1 56 15) &&& ((t.2.1 56 14) ^^^ ((-1 : Int64)))) t (fun y26 => Q y26) (m + 1) (q9 s) (q10 s) (nI i) := by
    intro m
    induction m with
    | zero =>
      intro i s hi hs he
      rw [L_X10_question_23, h0]
      refine bq_t (nI_le (by omega) (by omega)) ?_
      rw [← he] at q
      exact q
    | succ m ih =>
      intro i s hi hs he
      rw [L_X10_question_23, h0, nI_add]
      exact bq_f (nI_ge (by omega) (by omega)) ⟨fa_cnt p N - (i + 1) + 1, inner (fa_cnt p N - (i + 1)) (i + 1) i s _ (by omega) (by omega) hs (fun w => ih (i + 1) _ (by omega) w he)⟩
  unfold W_X10_question
  exact ⟨fa_cnt p N + 1, outer (fa_cnt p N) 0 none (by omega) (fun y hy => by cases hy) rfl⟩
theorem p_askedM {u : gSt} {p : Nat → Bool} {N : Nat} {x : BLs} (h30 : N ≤ 30) (hn : fa_cnt p N ≤ 10) (hP : PrtM u N p) (h1 : u.1 65 71 = nI x.1) (hw : x.1 ≤ 200) (h79 : u.2.1 65 79 = x.2.1) (h80 : u.2.1 65 80 = x.2.2.1) (h110 : ∀ k, k < x.1 → u.2.1 110 k = x.2.2.2.2 k) {Q : Int32 → gSt → Prop} (q : Q (q10 (qI x p N (fa_cnt p N) (fa_cnt p N) 0 none)) u) : ∃ m, L_X12_asked__48 Q u (fun y38 => Q y38 u) m ((-1 : Int32)) (nI 0) (nI 0) := by
  have hmem : ∀ i, i < fa_cnt p N → memP p N i < N := fun i hi => (memP_in hi).1
  have inner : ∀ (m j i : Nat) (s : QSt) (K : Int32 → Int32 → Prop), j + m = fa_cnt p N → i < j → qOK s → (qOK (qJ x p N i m j s) → K (q10 (qJ x p N i m j s)) (q16 (qJ x p N i m j s))) → L_X12_asked__63 Q (nI i) u K (m + 1) (q10 s) (q16 s) (nI j) := by
    intro m
    induction m with
    | zero =>
      intro j i s K hj hi hs hK
      rw [L_X12_asked__63, hP.1]
      exact bq_t (nI_le (by omega) (by omega)) (hK hs)
    | succ m ih =>
      intro j i s K hj hi hs hK
      have hjn : j < fa_cnt p N := by omega
      have hk := bitN_lt hi (show j < 10 by omega)
      rw [L_X12_asked__63, hP.1]
      refine bq_f (nI_ge hjn (by omega)) (p_bitOf (by omega) ?_)
      rw [h79, h80, shr_is0 (by omega), shr_is1 (by omega), nI_add]
      have hso := qstep_ok (x := x) h30 (show i < fa_cnt p N by omega) hjn hs
      have nxt := ih (j + 1) i (qstep x p N i j s) K (by omega) (by omega) hso (fun w => hK w)
      have same : (bL x.2.2.1 (bitN i j) && !bL x.2.1 (bitN i j)) = false → L_X12_asked__63 Q (nI i) u K (m + 1) (q10 s) (q16 s) (nI (j + 1)) := fun z => by
        rw [show qstep x p N i j s = s by unfold qstep; rw [z]; rfl] at nxt
        exact nxt
      refine ⟨fun z => same (by rw [z]; rfl), fun z => ⟨fun y => same (by rw [y]; cases bL x.2.2.1 (bitN i j) <;> rfl), fun y => ?_⟩⟩
      have hz : (bL x.2.2.1 (bitN i j) && !bL x.2.1 (bitN i j)) = true := by rw [ts_nf z, ts_nt y]; rfl
      have c1 := @frC_le x.2.2.2.2 (bitN i j) true x.1
      have c2 := @frC_le x.2.2.2.2 (bitN i j) false x.1
      have hqw := @qW_le x (bitN i j)
      refine p_freeIn h1 hw h110 (k := bitN i j) (by omega) true (p_freeIn h1 hw h110 (k := bitN i j) (by omega) false ?_)
      intro J27 hJ27
      have mi := hmem i (by omega)
      have mj := hmem j hjn
      have core : J27 (nI (qW x (bitN i j))) := by
        refine hJ27 _ ?_
        intro J28 hJ28
        have take : qstep x p N i j s = some (qW x (bitN i j), nI (32 * memP p N i + memP p N j)) → J28 := by
          intro e
          refine hJ28 (rI_i (by omega) (rI_i (by omega) ?_))
          rw [hP.mem (by omega), hP.mem hjn, nI_mul, nI_add]
          rw [e] at nxt
          exact nxt
        cases s with
        | none =>
          refine bq_t rfl (take ?_)
          unfold qstep; rw [if_pos hz]
        | some y =>
          have hy := hs y rfl
          refine bq_f hy.2 ?_
          show (nI (qW x (bitN i j)) < nI y.1 → _) ∧ (¬ nI (qW x (bitN i j)) < nI y.1 → _)
          rw [nI_ltI (by omega) (by omega)]
          refine ⟨fun w => take ?_, fun w => ?_⟩
          · unfold qstep; rw [if_pos hz]; simp only [w, if_true]
          · rw [show qstep x p N i j (some y) = some y by unfold qstep; rw [if_pos hz]; simp only [w, if_false]] at nxt
            exact nxt
      refine br_le (by omega) (by omega) (fun w => ?_) (fun w => ?_)
      · have : frC x.2.2.2.2 (bitN i j) false x.1 = qW x (bitN i j) := by
          unfold qW; split <;> omega
        rw [this]; exact core
      · have : frC x.2.2.2.2 (bitN i j) true x.1 = qW x (bitN i j) := by
          unfold qW; split <;> omega
        rw [this]; exact core
  have outer : ∀ (m i : Nat) (s : QSt), i + m = fa_cnt p N → qOK s → (q10 (qI x p N (fa_cnt p N) m i s) = q10 (qI x p N (fa_cnt p N) (fa_cnt p N) 0 none)) → L_X12_asked__48 Q u (fun y38 => Q y38 u) (m + 1) (q10 s) (q16 s) (nI i) := by
    intro m
    induction m with
    | zero =>
      intro i s hi hs he
      rw [L_X12_asked__48, hP.1]
      refine bq_t (nI_le (by omega) (by omega)) ?_
      rw [← he] at q
      exact q
    | succ m ih =>
      intro i s hi hs he
      rw [L_X12_asked__48, hP.1, nI_add]
      exact bq_f (nI_ge (by omega) (by omega)) ⟨fa_cnt p N - (i + 1) + 1, inner (fa_cnt p N - (i + 1)) (i + 1) i s _ (by omega) (by omega) hs (fun w => ih (i + 1) _ (by omega) w he)⟩
  exact ⟨fa_cnt p N + 1, outer (fa_cnt p N) 0 none (by omega) (fun y hy => by cases hy) rfl⟩
theorem op_asked {b : Bool} {σ : gSt} (hI : Inv b σ) (p : Int32) : OKI (fun Q QX s => W_X11_asked p Q QX s) (W_X12_asked_ p) cdE σ := by
  obtain ⟨N, bk, nm, td, yr, fa, most, wt, nv, ti, ap, h, hX⟩ := hI.ctx
  have h30 := hX.2.1
  have hEn := hX.2.2.1
  unfold OKI W_X11_asked
  rcases ent_or p N (by omega) with ⟨e, he, rfl⟩ | ⟨hp, -⟩
  · obtain ⟨p, hp⟩ : ∃ p, p = rc N (fun j => decide (j < N)) (hgP wt ti) e := ⟨_, rfl⟩
    refine q_need hEn.1 h30 he (hX.listC he hp (fun k t hO k10 => bq_f neg2_le ?_) (fun k k2 t hO k10 => bq_f neg1_le ?_) (fun k c hc t hO hs => bq_t pos1_le ?_))
    · rintro s2 rfl
      have hs := OutM.start (v := i2l (-2)) hO (by decide) (by decide) k10
      exact fI_i (hX.isE hs he (bq_f (by decide) (hX.partM he hp hs (fun _ u hu _ _ => bq_f neg2_le (hu.fin hI rfl)) (fun k' => by omega) (fun k' => by omega))))
    · rintro s2 rfl
      have hs := OutM.start (v := i2l (-1)) hO (by decide) (by decide) k10
      exact fI_i (hX.isE hs he (bq_f (by decide) (hX.partM he hp hs (fun k' => by omega) (fun _ _ u hu _ _ u70 => bq_f neg1_le (hu.fin hI rfl)) (fun _ c hc => by rw [k2] at hc; cases hc))))
    · generalize hgL : lsA (fa_cnt p N) (rmM most) (plW wt p N) (plW ap p N) (plW ti p N) c = L at hs
      have hRl := hs.2.2.2
      rw [hgL] at hRl
      obtain ⟨r1, r2, r3, r4, r5, r6, r7, r8, r9⟩ := hRl
      have hLcap : L.1 ≤ 200000 := by omega
      have model : ∀ v : Int32, v = (if L.1 ≤ 200 then q10 (qI L p N (fa_cnt p N) (fa_cnt p N) 0 none) else -2) → ∀ s2, s2 = sL t 115 0 (i2l v) → W_X12_asked_ (nI e) (fun w t => fin (nI 0) (i2l w) t) s2 := by
        rintro v hv s2 rfl
        have hs := OutM.start (v := i2l v) hO (by decide) (by decide) hs.2.2.1
        refine fI_i (hX.isE hs he (bq_f (by decide) (hX.partM he hp hs (fun k' => by omega) (fun _ k2 => by rw [k2] at hc; cases hc) (fun _ c2 hc2 u hu hP _ hB => bq_t pos0_le ?_))))
        rw [hc, Option.some.injEq] at hc2
        subst hc2
        rw [hgL] at hB
        rw [hB.2.2.2.1]
        refine br_le (by omega) (by decide) (fun hle => ?_) (fun hgt => hu.fin hI (by rw [hv, if_neg (by omega)]))
        rw [if_pos hle] at hv
        exact p_askedM h30 k hP hB.2.2.2.2.2.1 hle hB.2.2.2.2.2.2.1 hB.2.2.2.2.2.2.2.1 (fun j hj => hB.2.2.2.2.2.2.2.2.2 j (by omega) hj) (hu.fin hI (by rw [hv]))
      rw [r4]
      refine br_le (by omega) (by decide) (fun hle => ?_) (fun hgt => model _ (by rw [if_neg (by omega)]))
      exact p_question h30 k hs.1.1 hs.2.1 r4 hle r5 r6 (fun j hj => r8 j (by omega) hj) (model _ (by rw [if_pos hle]))
  · refine q_need_no hEn.1 h30 hp ⟨nI 1, ⟨rfl, rfl⟩, fI_i (p_isE_no hX.2.2.2.1.1 h30 rfl hp (bq_t rfl (fin.no hI (.inl rfl))))⟩
