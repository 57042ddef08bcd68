/-! the reference's entries and rules: what it asks of a pair, what the steps are worth -/
def entM (σ : gSt) (N : Nat) (bk nm td yr : Nat → Nat) (fa : Nat → Int32) (lk : Nat → Int32) : Prop := σ.1 65 1 = nI N ∧ N ≤ 30 ∧ (∀ i, i < N → σ.1 66 i = nI (bk i) ∧ σ.1 67 i = nI (nm i) ∧ σ.1 68 i = nI (td i) ∧ σ.1 69 i = nI (yr i) ∧ σ.1 70 i = fa i ∧ bk i < 8 ∧ nm i < 16 ∧ td i < 8 ∧ yr i < 200) ∧ ∀ x y, x < 16 → y < 16 → σ.1 72 (16 * x + y) = if x = y then nI 100 else lk (x * 16 + y)
theorem jq_z {C : Prop} [Decidable C] {Q : Int32 → Prop} (h : Q (zI (decide C))) : (C → Q (nI 1)) ∧ (¬ C → Q (nI 0)) := ⟨fun c => by rw [decide_eq_true c] at h; exact h, fun c => by rw [decide_eq_false c] at h; exact h⟩
theorem jq_zn {C : Prop} [Decidable C] {Q : Int32 → Prop} (h : Q (zI (decide (¬ C)))) : (C → Q (nI 0)) ∧ (¬ C → Q (nI 1)) := ⟨fun c => by rw [decide_eq_false (not_not_intro c)] at h; exact h, fun c => by rw [decide_eq_true c] at h; exact h⟩
theorem p_off {p : Int32} {Q : Int32 → Prop} {σ : gSt} (q : Q (absI p)) : W_X12_off p Q σ := by
  unfold absI at q
  refine ⟨fun h => by rw [if_pos h] at q; exact q, fun h => by rw [if_neg h, Int32.zero_sub] at q; exact q⟩
theorem nI_1ne (x y : Nat) (hx : x < 2147483648) (hy : y < 2147483648) (h : x ≠ y) : ¬ nI x = nI y := by rw [nI_eq hx hy]; exact h
theorem dec_nI {x y : Nat} (hx : x < 2147483648) (hy : y < 2147483648) : decide (nI x = nI y) = decide (x = y) := by simp only [nI_eq hx hy]
theorem p_asked {σ : gSt} {N : Nat} {bk nm td yr : Nat → Nat} {fa lk : Nat → Int32} (hE : entM σ N bk nm td yr fa lk) {a c w : Nat} (ha : a < N) (hc : c < N) (h1 : 1 ≤ w) (h6 : w ≤ 6) {Q : Int32 → Prop} (q : Q (fct lk bk nm td yr fa a c w)) : W_X12_asked (nI w) (nI a) (nI c) Q σ := by
  obtain ⟨hN, h30, he, hl⟩ := hE
  obtain ⟨a1, a2, a3, a4, a5, a6, a7, a8, a9⟩ := he a ha
  obtain ⟨c1, c2, c3, c4, c5, c6, c7, c8, c9⟩ := he c hc
  unfold W_X12_asked
  have hw : w = 1 ∨ w = 2 ∨ w = 3 ∨ w = 4 ∨ w = 5 ∨ w = 6 := by omega
  rcases hw with rfl | rfl | rfl | rfl | rfl | rfl
  · refine bq_t rfl (rI_i (by omega) (rI_i (by omega) ?_))
    rw [a2, c2]
    refine rI_e (a := 16 * nm a + nm c) (by rw [nI_mul, nI_add]) (by omega) ?_
    rw [hl _ _ a7 c7]; exact q
  · refine bq_f (by decide) (bq_t rfl (rI_i (by omega) (rI_i (by omega) ?_)))
    rw [a4, c4]; exact p_off q
  · refine bq_f (by decide) (bq_f (by decide) (bq_t rfl (rI_i (by omega) (rI_i (by omega) ?_))))
    rw [a3, c3]; exact jq_z (by rw [dec_nI (by omega) (by omega)]; exact q)
  · refine bq_f (by decide) (bq_f (by decide) (bq_f (by decide) (bq_t rfl (rI_i (by omega) (rI_i (by omega) ?_)))))
    rw [a1, c1]; exact jq_z (by rw [dec_nI (by omega) (by omega)]; exact q)
  · refine bq_f (by decide) (bq_f (by decide) (bq_f (by decide) (bq_f (by decide) (bq_t rfl (rI_i (by omega) ?_)))))
    rw [a5]
    by_cases z : fa a = -1
    · refine bq_t z ?_
      simpa [fct, z, zI] using q
    · refine bq_f z (rI_i (by omega) (rI_i (by omega) ?_))
      rw [a5, c5]
      refine jq_z ?_
      by_cases y : fa a = fa c
      · have z2 : ¬ fa c = -1 := by rw [← y]; exact z
        simpa [fct, z, y, z2] using q
      · simpa [fct, z, y] using q
  · refine bq_f (by decide) (bq_f (by decide) (bq_f (by decide) (bq_f (by decide) (bq_f (by decide) (rI_i (by omega) ?_)))))
    rw [a5]
    by_cases z : fa a = -1
    · refine bq_t z ?_
      simpa [fct, z, zI] using q
    · refine bq_f z (rI_i (by omega) ?_)
      rw [c5]
      by_cases z2 : fa c = -1
      · refine bq_t z2 ?_
        simpa [fct, z, z2, zI] using q
      · refine bq_f z2 (rI_i (by omega) (rI_i (by omega) ?_))
        rw [a5, c5]
        refine jq_zn ?_
        by_cases y : fa a = fa c
        · simpa [fct, z, y, z2] using q
        · simpa [fct, z, y, z2] using q
theorem div_m1 (a : Int32) : a / (-1 : Int32) = -a := by
  apply Int32.toInt_inj.mp
  rw [Int32.toInt_div, Int32.toInt_neg a]
  show (a.toInt.tdiv (-1)).bmod _ = _
  rw [Int.tdiv_neg, Int.tdiv_one]
theorem p_two {op : Nat} (h7 : 7 ≤ op) (h17 : op ≤ 17) {x y : Int32} (hb : 16 ≤ op → (x = 0 ∨ x = 1) ∧ (y = 0 ∨ y = 1)) {Q : Int32 → Prop} {σ : gSt} (q : Q (binM op x y)) : W_X12_two (nI op) x y Q σ := by
  unfold W_X12_two
  have hw : op = 7 ∨ op = 8 ∨ op = 9 ∨ op = 10 ∨ op = 11 ∨ op = 12 ∨ op = 13 ∨ op = 14 ∨ op = 15 ∨ op = 16 ∨ op = 17 := by omega
  rcases hw with rfl | rfl | rfl | rfl | rfl | rfl | rfl | rfl | rfl | rfl | rfl
  · exact bq_t rfl q
  · exact bq_f (by decide) (bq_t rfl q)
  · exact bq_f (by decide) (bq_f (by decide) (bq_t rfl q))
  · refine bq_f (by decide) (bq_f (by decide) (bq_f (by decide) (bq_t rfl ?_)))
    refine ⟨fun z => by simpa [binM, z] using q, fun z => ⟨fun m => ?_, fun m => ⟨z, by simpa [binM, z] using q⟩⟩⟩
    subst m
    simpa [binM, div_m1] using q
  · refine bq_f (by decide) (bq_f (by decide) (bq_f (by decide) (bq_f (by decide) (bq_t rfl ?_))))
    refine ⟨fun z => ?_, fun z => ?_⟩
    · have : ¬ x < y := Int32.not_lt.mpr z
      simpa [binM, this, zI] using q
    · have : x < y := Int32.not_le.mp z
      simpa [binM, this, zI] using q
  · refine bq_f (by decide) (bq_f (by decide) (bq_f (by decide) (bq_f (by decide) (bq_f (by decide) (bq_t rfl ?_)))))
    refine ⟨fun z => ?_, fun z => ?_⟩
    · have : ¬ y < x := Int32.not_lt.mpr z
      simpa [binM, this, zI] using q
    · have : y < x := Int32.not_le.mp z
      simpa [binM, this, zI] using q
  · refine bq_f (by decide) (bq_f (by decide) (bq_f (by decide) (bq_f (by decide) (bq_f (by decide) (bq_f (by decide) (bq_t rfl ?_))))))
    refine ⟨fun z => ?_, fun z => ?_⟩
    · have : ¬ x < y := Int32.not_lt.mpr z
      simpa [binM, this, zI] using q
    · have : x < y := Int32.not_le.mp z
      simpa [binM, this, zI] using q
  · refine bq_f (by decide) (bq_f (by decide) (bq_f (by decide) (bq_f (by decide) (bq_f (by decide) (bq_f (by decide) (bq_f (by decide) (bq_t rfl ?_)))))))
    refine ⟨fun z => ?_, fun z => ?_⟩
    · have : ¬ y < x := Int32.not_lt.mpr z
      simpa [binM, this, zI] using q
    · have : y < x := Int32.not_le.mp z
      simpa [binM, this, zI] using q
  · refine bq_f (by decide) (bq_f (by decide) (bq_f (by decide) (bq_f (by decide) (bq_f (by decide) (bq_f (by decide) (bq_f (by decide) (bq_f (by decide) (bq_t rfl ?_))))))))
    exact jq_z q
  · refine bq_f (by decide) (bq_f (by decide) (bq_f (by decide) (bq_f (by decide) (bq_f (by decide) (bq_f (by decide) (bq_f (by decide) (bq_f (by decide) (bq_f (by decide) (bq_t rfl ?_)))))))))
    obtain ⟨hx, hy⟩ := hb (by decide)
    have q : Q (x ||| y) := q
    rcases hx with rfl | rfl <;> rcases hy with rfl | rfl
    · exact bq_t (by decide) (by have e : nI 0 = (0 : Int32) ||| 0 := by decide
                                 rw [e]; exact q)
    · exact bq_f (by decide) (by have e : nI 1 = (0 : Int32) ||| 1 := by decide
                                 rw [e]; exact q)
    · exact bq_f (by decide) (by have e : nI 1 = (1 : Int32) ||| 0 := by decide
                                 rw [e]; exact q)
    · exact bq_f (by decide) (by have e : nI 1 = (1 : Int32) ||| 1 := by decide
                                 rw [e]; exact q)
  · refine bq_f (by decide) (bq_f (by decide) (bq_f (by decide) (bq_f (by decide) (bq_f (by decide) (bq_f (by decide) (bq_f (by decide) (bq_f (by decide) (bq_f (by decide) (bq_f (by decide) ?_)))))))))
    obtain ⟨hx, hy⟩ := hb (by decide)
    have q : Q (x &&& y) := q
    have e : x * y = x &&& y := by rcases hx with rfl | rfl <;> rcases hy with rfl | rfl <;> decide
    rw [e]; exact q

/-- the steps from i on, worked by the reference -/
theorem p_work {N : Nat} {bk nm td yr : Nat → Nat} {fa lk : Nat → Int32} {a c : Nat} (ha : a < N) (hc : c < N) {op : Nat → Nat} {num : Nat → Int32} {t : Nat} {Q : Int32 → gSt → Prop} {K : gSt → Prop} (ht : t ≤ 400) : ∀ (m i : Nat) (tl : List Bool) (τ : Bool) (σ : gSt), i + m = t → entM σ N bk nm td yr fa lk → (∀ j, i ≤ j → j < t → σ.1 78 j = nI (op j) ∧ σ.1 79 j = num j) → tyN op m i tl = some [τ] → fitT (σ.1 86, tl.length) tl → tl.length ≤ 60 → (∀ s, Off [86] σ s → s.1 86 0 = (exN (fct lk bk nm td yr fa a c) num op m i (σ.1 86, tl.length)).1 0 → K s) → L_X12_valueOf_6 Q (nI t) (nI a) (nI c) K (m + 1) (nI tl.length) (nI i) σ
  | 0, i, tl, τ, σ, hi, hE, hcd, hty, hfit, hlen, hK => by
    rw [L_X12_valueOf_6]
    refine bq_t (nI_le (by omega) (by omega)) (hK σ Off.rf rfl)
  | m + 1, i, tl, τ, σ, hi, hE, hcd, hty, hfit, hlen, hK => by
    rw [tyN] at hty
    cases h1 : ty1 (op i) tl with
    | none => rw [h1] at hty; cases hty
    | some r =>
      rw [h1] at hty
      have hty : tyN op m (i + 1) r = some [τ] := hty
      have hop := ty1_le h1
      have hf2 : fitT (ex1 (fct lk bk nm td yr fa a c) num op i (σ.1 86, tl.length)) r := ex1_fit h1 hfit
      have hr2 : (ex1 (fct lk bk nm td yr fa a c) num op i (σ.1 86, tl.length)).2 = r.length := hf2.1
      have hr60 : r.length ≤ 60 := by
        rcases ty1_cases h1 with ⟨-, h, rfl⟩ | ⟨-, q, rfl, rfl⟩ | ⟨-, -, q, rfl, rfl⟩ | ⟨-, -, q, rfl, rfl⟩ | ⟨-, -, q, rfl, rfl⟩ <;> simp only [List.length_cons] at * <;> omega
      have hci := hcd i (Nat.le_refl _) (by omega)
      have step : ∀ (p v : _) (σ1 : gSt), σ1 = sI σ 86 p v → ex1 (fct lk bk nm td yr fa a c) num op i (σ.1 86, tl.length) = (upd (σ.1 86) p v, r.length) → L_X12_valueOf_6 Q (nI t) (nI a) (nI c) K (m + 1) (nI r.length) (nI i + nI 1) σ1 := by
        intro p v σ1 e1 e2
        have e3 : σ1.1 86 = upd (σ.1 86) p v := by rw [e1]; exact sI_self
        have hO : Off [86] σ σ1 := by rw [e1]; exact Off.rf.i (by simp)
        rw [nI_add]
        refine p_work (bk := bk) (nm := nm) (td := td) (yr := yr) (fa := fa) (lk := lk) (num := num) ha hc ht m (i + 1) r τ σ1 (by omega) ?_ (fun j h2 h3 => ?_) hty ?_ hr60 (fun s hs h => hK s (hO.trans hs) ?_)
        · obtain ⟨h1, h2, h3, h4⟩ := hE
          unfold entM
          rw [(hO.1 65 (by decide)).1, (hO.1 66 (by decide)).1, (hO.1 67 (by decide)).1, (hO.1 68 (by decide)).1, (hO.1 69 (by decide)).1, (hO.1 70 (by decide)).1, (hO.1 72 (by decide)).1]
          exact ⟨h1, h2, h3, h4⟩
        · rw [(hO.1 78 (by decide)).1, (hO.1 79 (by decide)).1]
          exact hcd j (by omega) h3
        · rw [e3]; rw [e2] at hf2; exact hf2
        · rw [h, exN, e2, e3]
      rw [L_X12_valueOf_6]
      refine bq_f (by rw [nI_leI (by omega) (by omega)]; omega) (rI_i (by omega) ?_)
      rw [hci.1]
      by_cases h6 : op i ≤ 6
      · have hl : tl.length < 60 ∧ r = false :: tl := by
          unfold ty1 at h1
          rw [if_pos h6] at h1
          split at h1
          · exact ⟨‹_›, (Option.some.inj h1).symm⟩
          · cases h1
        refine bq_f (by rw [nI_ltI (by omega) (by omega)]; omega) ?_
        intro J hJ
        refine ⟨fun z => ?_, fun z => ?_⟩
        · have z : op i = 0 := (nI_z (by omega)).mp z
          refine rI_i (by omega) (hJ _ ?_)
          refine wI_i (by omega) ?_
          rw [nI_add, show tl.length + 1 = r.length by rw [hl.2]; rfl]
          refine step tl.length _ _ rfl ?_
          unfold ex1
          rw [if_pos h6, if_pos z, hl.2, hci.2]; rfl
        · have z : ¬ op i = 0 := fun h => z ((nI_z (by omega)).mpr h)
          refine p_asked hE ha hc (by omega) h6 (hJ _ ?_)
          refine wI_i (by omega) ?_
          rw [nI_add, show tl.length + 1 = r.length by rw [hl.2]; rfl]
          refine step tl.length _ _ rfl ?_
          unfold ex1
          rw [if_pos h6, if_neg z, hl.2]; rfl
      · refine bq_t (by rw [nI_ltI (by omega) (by omega)]; omega) ?_
        by_cases h18 : op i = 18
        · obtain ⟨hl1, hrl⟩ := ty1_not h1 h18
          refine bq_t (by rw [h18]) (rI_e (nI_pre hl1) (by omega) (wI_e (nI_pre hl1) (by omega) ?_))
          have e := step (tl.length - 1) (nI 1 - σ.1 86 (tl.length - 1)) _ rfl (by unfold ex1; rw [if_neg h6, if_pos h18, hrl])
          rw [hrl] at e
          exact e
        · obtain ⟨hl2, hrl, h17⟩ := ty1_bin h1 h6 h18
          have e1 : nI tl.length + (-1 : Int32) = nI (tl.length - 1) := by rw [← nI_sub1, nI_pre (by omega)]
          refine bq_f (by rw [nI_eq (by omega) (by decide)]; exact h18) ?_
          rw [e1, nI_pre (by omega)]
          refine rI_i (by omega) (rI_i (by omega) (p_two (by omega) h17 (fun h16 => ?_) (wI_i (by omega) ?_)))
          · rcases ty1_cases h1 with h | h | h | h | ⟨-, -, q, hq, -⟩
            · omega
            · omega
            · omega
            · omega
            · have h0 := hfit.2 0 (by omega) (by rw [hq]; rfl)
              have h1 := hfit.2 1 (by omega) (by rw [hq]; rfl)
              refine ⟨?_, h0⟩
              rw [show tl.length - 1 - 1 = tl.length - 2 by omega] at h1 ⊢
              exact h1
          · rw [show tl.length - 1 - 1 = tl.length - 2 by omega]
            have e := step (tl.length - 2) (binM (op i) (σ.1 86 (tl.length - 2)) (σ.1 86 (tl.length - 1))) _ rfl (by unfold ex1; rw [if_neg h6, if_neg h18, hrl])
            rw [hrl] at e
            exact e
