/-! first, always -/
theorem sL_l : ∀ n, n < 64 → (((nI n).toInt64 &&& 63).toBitVec.smod 64).toNat = n := by decide +kernel
theorem bL_shr (x : Int64) {k q : Nat} (hk : k < 64) (hq : k + q < 64) : bL (shrL x (nI k)) q = bL x (k + q) := by
  unfold bL shrL
  rw [Int64.toBitVec_shiftRight]
  show (x.toBitVec.sshiftRight (((nI k).toInt64 &&& 63).toBitVec.smod 64).toNat).getLsbD q = _
  rw [sL_l k hk, BitVec.getLsbD_sshiftRight]
  simp [hq]
  omega
theorem bL_1 {q : Nat} (hq : q < 64) : bL (lN 1) q = decide (q = 0) := by
  rw [bL_lN hq, show (1 : Nat) = 2 ^ 0 from rfl, Nat.testBit_two_pow, decide_eq_decide]
  exact eq_comm
theorem and_one {x : Int64} {k : Nat} (hk : k < 64) : x &&& shlL (lN 1) (nI k) = lN 0 ↔ bL x k = false := by
  constructor
  · intro h
    have := congrArg (fun y => bL y k) h
    simp only [bL_and, bL_one hk hk, bL_0, decide_true, Bool.and_true] at this
    exact this
  · intro h
    refine bL_ext (fun q hq => ?_)
    rw [bL_and, bL_one hk hq, bL_0]
    by_cases z : q = k
    · subst z; rw [h, Bool.false_and]
    · rw [decide_eq_false z, Bool.and_false]
theorem shr_and {x : Int64} {k : Nat} (hk : k < 64) : shrL x (nI k) &&& lN 1 = if bL x k then lN 1 else lN 0 := by
  refine bL_ext (fun q hq => ?_)
  rw [bL_and, bL_1 hq]
  by_cases z : q = 0
  · subst z
    rw [bL_shr x hk (by omega), Nat.add_zero, decide_eq_true rfl, Bool.and_true]
    cases h : bL x k
    · rw [if_neg (by decide), bL_0]
    · rw [if_pos rfl, bL_1 (by decide), decide_eq_true rfl]
  · rw [decide_eq_false z, Bool.and_false]
    cases h : bL x k
    · rw [if_neg (by decide), bL_0]
    · rw [if_pos rfl, bL_1 hq, decide_eq_false z]
theorem shr_is1 {x : Int64} {k : Nat} (hk : k < 64) : shrL x (nI k) &&& lN 1 = lN 1 ↔ bL x k = true := by
  rw [shr_and hk]
  cases bL x k
  · rw [if_neg (by decide)]; decide
  · rw [if_pos rfl]; decide
theorem shr_is0 {x : Int64} {k : Nat} (hk : k < 64) : shrL x (nI k) &&& lN 1 = lN 0 ↔ bL x k = false := by
  rw [shr_and hk]
  cases bL x k
  · rw [if_neg (by decide)]; decide
  · rw [if_pos rfl]; decide
theorem p_placeOf {t : gSt} {p : Nat → Bool} {N : Nat} (h30 : N ≤ 30) (hn : fa_cnt p N ≤ 10) (h0 : t.1 50 0 = nI (fa_cnt p N)) (h51 : ∀ i, i < fa_cnt p N → t.1 51 i = nI (memP p N i)) {e : Nat} (he : e < N) {Q : Int32 → Prop} (q : Q (if p e then nI (fa_cnt p e) else -1)) : W_X5_placeOf (nI e) Q t := by
  have lp1 : ∀ (m i : Nat), i + m = fa_cnt p N → (p e = true → i ≤ fa_cnt p e) → L_X5_placeOf_2 Q (nI e) t (Q (-1)) (m + 1) (nI i) := by
    intro m
    induction m with
    | zero =>
      intro i hi hle
      obtain rfl : i = fa_cnt p N := by omega
      rw [L_X5_placeOf_2, h0]
      refine bq_t (nI_le (Nat.le_refl _) (by omega)) ?_
      rw [if_neg (fun w => by
        have := hle w
        have := fa_cnt_ltn (n := N) he w
        omega)] at q
      exact q
    | succ m ih =>
      intro i hi hle
      rw [L_X5_placeOf_2, h0]
      obtain ⟨m1, m2, m3⟩ := memP_in (show i < fa_cnt p N by omega)
      refine bq_f (nI_ge (by omega) (by omega)) (rI_i (by omega) ?_)
      rw [h51 i (by omega), nI_add]
      refine br_eq (by omega) (by omega) (fun z => ?_) (fun z => ?_)
      · rw [z] at m2 m3
        rw [if_pos m2, m3] at q
        exact q
      · refine ih (i + 1) (by omega) (fun w => ?_)
        have h1 := hle w
        by_cases y : i = fa_cnt p e
        · exact absurd (by rw [y]; exact memP_of he w) z
        · omega
  unfold W_X5_placeOf
  exact ⟨fa_cnt p N + 1, lp1 (fa_cnt p N) 0 (by omega) (fun _ => Nat.zero_le _)⟩
theorem p_placeM {t : gSt} {p : Nat → Bool} {N : Nat} (h30 : N ≤ 30) (hP : PrtM t N p) {e : Nat} (he : e < N) (hpe : p e = true) {Q : Int32 → Prop} (q : Q (nI (fa_cnt p e))) : W_X12_place (nI e) Q t := by
  have hlt := fa_cnt_ltn (n := N) he hpe
  have hle := fa_cnt_le p N
  have lp1 : ∀ (m i : Nat), i + m = fa_cnt p e → L_X12_place_2 Q (nI e) t (fun y7 => Q y7) (m + 1) (nI i) := by
    intro m
    induction m with
    | zero =>
      intro i hi
      obtain rfl : i = fa_cnt p e := by omega
      rw [L_X12_place_2]
      refine rI_i (by omega) ?_
      rw [hP.mem hlt, memP_of he hpe]
      exact bq_t rfl q
    | succ m ih =>
      intro i hi
      rw [L_X12_place_2]
      refine rI_i (by omega) ?_
      obtain ⟨m1, m2, m3⟩ := memP_in (show i < fa_cnt p N by omega)
      rw [hP.mem (by omega), nI_add]
      refine br_eq (by omega) (by omega) (fun z => ?_) (fun z => ih (i + 1) (by omega))
      rw [z] at m3
      omega
  unfold W_X12_place
  exact ⟨fa_cnt p e + 1, lp1 (fa_cnt p e) 0 (by omega)⟩
theorem p_heapNumber {t : gSt} {p : Nat → Bool} {N k0 : Nat} (hk : lay k0 = (0, 10)) (hP : PrtM t N p) (hn : fa_cnt p N ≤ 10) {ch : Nat → Nat} (hch : ∀ j, j < fa_cnt p N → t.1 k0 j = nI (ch j) ∧ ch j < 10) {i : Nat} (hi : i < fa_cnt p N) {Q : Int32 → Prop} (q : Q (nI (memP p N (lp 0 ch (ch i))))) : W_X12_heapNumber k0 (nI i) Q t := by
  obtain ⟨l1, l2, l3, l4⟩ := lp_ex (s := 0) (i := i + 1) (v := ch i) (a := ch) (by omega) ⟨i, Nat.zero_le _, by omega, rfl⟩
  unfold W_X12_heapNumber
  revert q l1 l2 l3 l4
  generalize lp 0 ch (ch i) = L
  intro q l1 l2 l3 l4
  have lp1 : ∀ (m j : Nat), j + m = L → L_X12_heapNumber_2 k0 Q (nI i) t (fun y8 => rI t 105 30 y8 (fun x9 => Q x9)) (m + 1) (nI j) := by
    intro m
    induction m with
    | zero =>
      intro j hj
      obtain rfl : j = L := by omega
      rw [L_X12_heapNumber_2, hk]
      refine rI_i (by omega) (rI_i (by omega) ?_)
      rw [(hch _ (by omega)).1, (hch i hi).1, l3]
      refine bq_t rfl (rI_i (by omega) ?_)
      rw [hP.mem (by omega)]
      exact q
    | succ m ih =>
      intro j hj
      rw [L_X12_heapNumber_2, hk]
      refine rI_i (by omega) (rI_i (by omega) ?_)
      have b1 := hch j (by omega)
      have b2 := hch i hi
      rw [b1.1, b2.1, nI_add]
      exact br_eq (by omega) (by omega) (fun z => absurd z (l4 j (Nat.zero_le _) (by omega))) (fun z => ih (j + 1) (by omega))
  exact ⟨L + 1, lp1 _ 0 (by omega)⟩
theorem p_heapOf {t : gSt} {p : Nat → Bool} {N : Nat} (h30 : N ≤ 30) (hn : fa_cnt p N ≤ 10) (h0 : t.1 50 0 = nI (fa_cnt p N)) (h51 : ∀ i, i < fa_cnt p N → t.1 51 i = nI (memP p N i)) {ch : Nat → Nat} (h61 : ∀ j, j < fa_cnt p N → t.1 61 j = nI (lp 0 ch (ch j))) {e : Nat} (he : e < N) (hpe : p e = true) {Q : Int32 → Prop} (q : Q (nI (memP p N (lp 0 ch (ch (fa_cnt p e)))))) : W_X10_heapOf (nI e) Q t := by
  have hlt := fa_cnt_ltn (n := N) he hpe
  obtain ⟨l1, l2, l3, l4⟩ := lp_ex (s := 0) (i := fa_cnt p e + 1) (v := ch (fa_cnt p e)) (a := ch) (by omega) ⟨_, Nat.zero_le _, by omega, rfl⟩
  have h61e := h61 _ hlt
  unfold W_X10_heapOf
  revert q l1 l2 l3 l4 h61e
  generalize lp 0 ch (ch (fa_cnt p e)) = L
  intro q l1 l2 l3 l4 h61e
  refine p_placeOf h30 hn h0 h51 he ?_
  rw [if_pos hpe]
  refine bq_f (nI_nm1 (by omega)) (rI_i (by omega) ?_)
  rw [h61e]
  refine rI_i (by omega) ?_
  rw [h51 _ (by omega)]
  exact q
theorem stL_hit {n rm c : Nat} {W : Nat → Nat → Int32} {A T : Nat → Nat → Bool} : ∀ (l : List (Nat → Nat)) (x : BLs), x.1 ≤ (l.foldl (stL n rm W A T c) x).1 ∧ ∀ b ∈ l, lwB 0 rm A T b n = true ∧ cSum W 0 b n = c → x.1 < (l.foldl (stL n rm W A T c) x).1
  | [], x => ⟨Nat.le_refl _, fun b hb => (by cases hb)⟩
  | a :: l, x => by
    obtain ⟨i1, i2⟩ := stL_hit (n := n) (rm := rm) (W := W) (A := A) (T := T) (c := c) l (stL n rm W A T c x a)
    rw [List.foldl_cons]
    have h1 : x.1 ≤ (stL n rm W A T c x a).1 := by
      unfold stL
      split
      · show x.1 ≤ x.1 + 1; omega
      · exact Nat.le_refl _
    refine ⟨by omega, fun b hb hc => ?_⟩
    rw [List.mem_cons] at hb
    rcases hb with rfl | hb
    · have : (stL n rm W A T c x b).1 = x.1 + 1 := by unfold stL; rw [if_pos hc]; rfl
      omega
    · have := i2 b hb hc
      omega
theorem lsA_pos {n rm c : Nat} {W : Nat → Nat → Int32} {A T : Nat → Nat → Bool} (h : mnS n rm W A T 0 = some c) : 0 < (lsA n rm W A T c).1 := by
  obtain ⟨b, b1, b2⟩ := (mnS_some (Nat.zero_le _) h).2
  obtain ⟨d, hd, hk⟩ := lvs_full (b := b) n 0 0 (fun _ => 0) (Nat.le_refl _) (canA_0 0 _) (fun i j h1 h2 => by omega)
  rw [Nat.zero_add] at hk
  exact (stL_hit (lvs n 0 0 (fun _ => 0)) ls0).2 d hd ⟨by rw [lwB_ker hk]; exact b1, by rw [cSum_ker hk]; exact b2⟩
theorem op_first {b : Bool} {σ : gSt} (hI : Inv b σ) (p : Int32) : OKI (fun Q QX s => W_X11_first p Q QX s) (W_X12_first p) cdE σ := by
  obtain ⟨N, bk, nm, td, yr, fa, most, wt, nv, ti, ap, h, hX⟩ := hI.ctx
  have h30 := hX.2.1
  have hEn := hX.2.2.1
  unfold OKI W_X11_first
  rcases ent_or p N (by omega) with ⟨e, he, rfl⟩ | ⟨hp, -⟩
  · obtain ⟨p, hp⟩ : ∃ p, p = rc N (fun j => decide (j < N)) (hgP wt ti) e := ⟨_, rfl⟩
    have hpe : p e = true := by rw [hp]; exact rc_self e
    refine q_need hEn.1 h30 he (hX.listC he hp (fun k t hO k10 => bq_f neg2_le ?_) (fun k k2 t hO k10 => bq_f neg1_le ?_) (fun k c hc t hO hs => bq_t pos1_le ?_))
    · rintro s2 rfl
      have hs := OutM.start (v := i2l (-2)) hO (by decide) (by decide) k10
      exact fI_i (hX.isE hs he (bq_f (by decide) (hX.partM he hp hs (fun _ u hu _ _ => bq_f neg2_le (hu.fin hI rfl)) (fun k' => by omega) (fun k' => by omega))))
    · rintro s2 rfl
      have hs := OutM.start (v := i2l (-1)) hO (by decide) (by decide) k10
      exact fI_i (hX.isE hs he (bq_f (by decide) (hX.partM he hp hs (fun k' => by omega) (fun _ _ u hu _ _ u70 => bq_f neg1_le (hu.fin hI rfl)) (fun _ c hc => by rw [k2] at hc; cases hc))))
    · generalize hgL : lsA (fa_cnt p N) (rmM most) (plW wt p N) (plW ap p N) (plW ti p N) c = L at hs
      have hL0 : 0 < L.1 := by rw [← hgL]; exact lsA_pos hc
      refine p_heapOf (ch := L.2.2.2.1) h30 k hs.1.1 hs.2.1 (by have := hs.2.2.2; rw [hgL] at this; exact this.2.2.2.2.2.2.1 hL0) he hpe ?_
      rintro s2 rfl
      have hs := OutM.start (v := i2l (nI (memP p N (lp 0 L.2.2.2.1 (L.2.2.2.1 (fa_cnt p e)))))) hO (by decide) (by decide) hs.2.2.1
      refine fI_i (hX.isE hs he (bq_f (by decide) (hX.partM he hp hs (fun k' => by omega) (fun _ k2 => by rw [k2] at hc; cases hc) (fun _ c2 hc2 u hu hP _ hB => bq_t pos0_le ?_))))
      rw [hc, Option.some.injEq] at hc2
      subst hc2
      rw [hgL] at hB
      exact p_placeM h30 hP he hpe (p_heapNumber rfl hP k hB.2.2.2.2.2.2.2.2.1 (fa_cnt_ltn he hpe) (hu.fin hI rfl))
  · refine q_need_no hEn.1 h30 hp ⟨nI 1, ⟨rfl, rfl⟩, fI_i (p_isE_no hX.2.2.2.1.1 h30 rfl hp (bq_t rfl (fin.no hI (.inl rfl))))⟩
