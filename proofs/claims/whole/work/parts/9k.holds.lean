/-! holds -/
def amW (n : Nat) (W : Nat → Nat → Int32) : Int64 := triS (fun i j => i2l (absI (W i j))) n
theorem p_amounts {t : gSt} {n : Nat} {W : Nat → Nat → Int32} (hn : n ≤ 10) (h0 : t.1 50 0 = nI n) (h52 : ∀ i j, j < i → i < n → t.1 52 (i * 10 + j) = W i j) {Q : Int64 → Prop} (q : Q (amW n W)) : W_X5_amounts Q t := by
  have inner : ∀ (m j i : Nat) (v : Int64) (K : Int64 → Prop), j + m = i → i < n → K (v + rowS (fun j => i2l (absI (W i j))) i) → L_X5_amounts_15 Q (nI i) t K (m + 1) (v + rowS (fun j => i2l (absI (W i j))) j) (nI j) := by
    intro m
    induction m with
    | zero =>
      intro j i v K hj hi hK
      obtain rfl : j = i := by omega
      rw [L_X5_amounts_15]
      exact bq_t (nI_le (Nat.le_refl _) (by omega)) hK
    | succ m ih =>
      intro j i v K hj hi hK
      rw [L_X5_amounts_15]
      refine bq_f (nI_ge (by omega) (by omega)) ?_
      unfold W_X5_pull
      rw [nI_mul, nI_add]
      refine rI_i (by omega) ?_
      rw [h52 i j (by omega) hi, nI_add]
      have := ih (j + 1) i v K (by omega) hi hK
      rw [rowS, ← Int64.add_assoc] at this
      exact this
  have outer : ∀ (m i : Nat), n ≤ i + m → i ≤ max n 1 → 1 ≤ i → L_X5_amounts_4 Q t (fun y14 => Q y14) (m + 1) (triS (fun i j => i2l (absI (W i j))) i) (nI i) := by
    have hz : ∀ i, i = max n 1 → triS (fun i j => i2l (absI (W i j))) i = amW n W := by
      intro i hi
      unfold amW
      by_cases z : n = 0
      · subst z; subst hi; rfl
      · rw [show i = n by omega]
    intro m
    induction m with
    | zero =>
      intro i h1 h2 h3
      rw [L_X5_amounts_4, h0, hz i (by omega)]
      exact bq_t (nI_le (by omega) (by omega)) q
    | succ m ih =>
      intro i h1 h2 h3
      rw [L_X5_amounts_4, h0, nI_add]
      by_cases hlt : i < n
      · have start := inner i 0 i (triS (fun i j => i2l (absI (W i j))) i) (fun y12 => L_X5_amounts_4 Q t (fun y14 => Q y14) (m + 1) y12 (nI (i + 1))) (by omega) hlt (ih (i + 1) (by omega) (by omega) (by omega))
        rw [rowS, lN0_add] at start
        exact bq_f (nI_ge hlt (by omega)) ⟨i + 1, start⟩
      · rw [hz i (by omega)]
        exact bq_t (nI_le (by omega) (by omega)) q
  unfold W_X5_amounts
  have := outer (n + 1) 1 (by omega) (by omega) (Nat.le_refl _)
  exact ⟨n + 1 + 1, this⟩
theorem p_amountsM {u : gSt} {N : Nat} {p : Nat → Bool} {wt : Nat → Nat → Int32} {nv ti ap : Nat → Nat → Bool} (h30 : N ≤ 30) (hP : PrtM u N p) (hM : pwM u N wt nv ti ap) {x1 : Int32} {x2 : Int64} {Q : Int32 → gSt → Prop} {K : Int64 → Prop} (k : K (amW (fa_cnt p N) (plW wt p N))) : ∃ m, L_X12_holds_57 Q x1 x2 u K m (lN 0) (nI 0) := by
  have hle := fa_cnt_le p N
  have hmem : ∀ i, i < fa_cnt p N → memP p N i < N := fun i hi => (memP_in hi).1
  have inner : ∀ (m j i : Nat) (v : Int64) (K : Int64 → Prop), j + m = fa_cnt p N → i < j → (∀ w, w = v + rowS (fun t => i2l (absI (plW wt p N (j + t) i))) m → K w) → L_X12_holds_72 Q x1 x2 (nI i) u K (m + 1) v (nI j) := by
    intro m
    induction m with
    | zero =>
      intro j i v K hj hi hK
      rw [L_X12_holds_72, hP.1]
      exact bq_t (nI_le (by omega) (by omega)) (hK v (by rw [rowS, lN0_add]))
    | succ m ih =>
      intro j i v K hj hi hK
      rw [L_X12_holds_72, hP.1]
      have mi := hmem i (by omega)
      have mj := hmem j (by omega)
      have hne : memP p N i ≠ memP p N j := fun w => by have := memP_inj (show i < fa_cnt p N by omega) (show j < fa_cnt p N by omega) w; omega
      refine bq_f (nI_ge (by omega) (by omega)) (rI_i (by omega) (rI_i (by omega) ?_))
      rw [hP.mem (show i < fa_cnt p N by omega), hP.mem (show j < fa_cnt p N by omega), ix30]
      refine rI_i (by omega) (p_off ?_)
      rw [(hM _ _ mi mj hne).1, nI_add]
      refine ih (j + 1) i _ K (by omega) (by omega) (fun w hw => hK w ?_)
      rw [hw]
      have h1 : rowS (fun t => i2l (absI (plW wt p N (j + t) i))) (m + 1) = i2l (absI (plW wt p N j i)) + rowS (fun t => i2l (absI (plW wt p N (j + 1 + t) i))) m := by
        clear hw hK ih
        have : ∀ m, rowS (fun t => i2l (absI (plW wt p N (j + t) i))) (m + 1) = i2l (absI (plW wt p N j i)) + rowS (fun t => i2l (absI (plW wt p N (j + 1 + t) i))) m := by
          intro m
          induction m with
          | zero => show lN 0 + _ = _ + lN 0; rw [i64_z, lN0_add]; rfl
          | succ m ih2 =>
            rw [rowS, ih2, rowS, Int64.add_assoc, show j + (m + 1) = j + 1 + m by omega]
        exact this m
      rw [h1, Int64.add_assoc]
      rfl
  have outer : ∀ (m i : Nat) (v : Int64), i + m = fa_cnt p N → v = rowS (fun a => rowS (fun t => i2l (absI (plW wt p N (a + 1 + t) a))) (fa_cnt p N - (a + 1))) i → L_X12_holds_57 Q x1 x2 u K (m + 1) v (nI i) := by
    intro m
    induction m with
    | zero =>
      intro i v hi hv
      rw [L_X12_holds_57, hP.1]
      refine bq_t (nI_le (by omega) (by omega)) ?_
      rw [hv, show i = fa_cnt p N by omega, sum_swap (fun a c => i2l (absI (plW wt p N c a)))]
      exact k
    | succ m ih =>
      intro i v hi hv
      rw [L_X12_holds_57, hP.1, nI_add]
      refine bq_f (nI_ge (by omega) (by omega)) ⟨fa_cnt p N - (i + 1) + 1, inner (fa_cnt p N - (i + 1)) (i + 1) i v _ (by omega) (by omega) (fun w hw => ih (i + 1) w (by omega) ?_)⟩
      rw [hw, hv, rowS]
  exact ⟨fa_cnt p N + 1, outer (fa_cnt p N) 0 (lN 0) (by omega) rfl⟩
/-- 1 for sure, -1 apart for sure -/
def hlA (V am : Int64) (P : Int32) : Int32 := if V = (-2147483648 : Int64) then -2 else if ((2 : Int64) * i2l P) * am < (100 : Int64) * V then nI 1 else if (100 : Int64) * V < -(((2 : Int64) * i2l P) * am) then -1 else nI 0
theorem op_holds {b : Bool} {σ : gSt} (hI : Inv b σ) (p r x : Int32) : OKI (fun Q QX s => W_X11_holds p r x Q QX s) (W_X12_holds p r x) cdP σ := by
  obtain ⟨N, bk, nm, td, yr, fa, most, wt, nv, ti, ap, h, hX⟩ := hI.ctx
  have h30 := hX.2.1
  have hEn := hX.2.2.1
  unfold OKI W_X11_holds
  rcases pair_or p r N (by omega) with ⟨a, c, ha, hc, hne, rfl, rfl⟩ | ⟨E, k, h1, h2, h3⟩
  · obtain ⟨p, hp⟩ : ∃ p, p = rc N (fun j => decide (j < N)) (hgP wt ti) a := ⟨_, rfl⟩
    refine q_pair hEn.1 h30 ha hc hne (q_within ?_)
    by_cases hv : (!decide (x < nI 0) && !decide (nI 100 < x)) = true
    · rw [hv]
      obtain ⟨V, hV⟩ : ∃ V, V = edV (fa_cnt p N) (rmM most) (plW wt p N) (plW ap p N) (plW ti p N) (fa_cnt p a) (fa_cnt p c) (p c) := ⟨_, rfl⟩
      refine q_refuse (by decide) (hX.edgeC ha hc hne hp hV (fun t hO k10 hld => ?_))
      have model : ∀ v : Int32, v = hlA V (amW (fa_cnt p N) (plW wt p N)) x → ∀ s2, s2 = sL t 115 0 (i2l v) → W_X12_holds (nI a) (nI c) x (fun w t => fin (nI 0) (i2l w) t) s2 := by
        rintro v hva s2 rfl
        have hs := OutM.start (v := i2l v) hO (by decide) (by decide) k10
        refine fI_i (hX.isP hs ha hc hne (bq_f (by decide) (p_within ?_)))
        rw [hv]
        refine p_may_ok (by decide) hs.2.2.1 (bq_f (by decide) (hX.edgeM ha hc hne hp hV hs (fun u hu hP hM => ⟨fun z => hu.fin hI (by rw [hva, hlA, if_pos z]), fun z => p_amountsM h30 hP hM ?_⟩)))
        rw [hlA, if_neg z] at hva
        refine ⟨fun y => hu.fin hI (by rw [hva, if_pos y]), fun y => ?_⟩
        rw [if_neg y] at hva
        have eneg : ((-2 : Int64) * i2l x) * amW (fa_cnt p N) (plW wt p N) = -(((2 : Int64) * i2l x) * amW (fa_cnt p N) (plW wt p N)) := by grind
        rw [eneg]
        refine ⟨fun w => hu.fin hI (by rw [hva, if_pos w]), fun w => hu.fin hI (by rw [hva, if_neg w])⟩
      refine ⟨fun z => model _ (by rw [hlA, if_pos z]), fun z => ?_⟩
      rcases hld with hld | ⟨k1, k2, k3⟩
      · exact absurd hld z
      · refine p_amounts k1 k2 k3 ⟨fun y => model _ (by rw [hlA, if_neg z, if_pos y]), fun y => ⟨fun w => model _ (by rw [hlA, if_neg z, if_neg y, if_pos w]), fun w => model _ (by rw [hlA, if_neg z, if_neg y, if_neg w])⟩⟩
    · have hv : (!decide (x < nI 0) && !decide (nI 100 < x)) = false := by simpa using hv
      rw [hv]
      refine q_refuse_no rfl ⟨nI 2, .inr ⟨rfl, rfl⟩, fI_i (p_isP hX.2.2.2.1.1 h30 rfl ha hc hne (bq_f (by decide) (p_within ?_)))⟩
      rw [hv]
      exact p_may_bad rfl (by decide) rfl (bq_t rfl (fin.no hI (.inr rfl)))
  · exact q_pair_no hEn.1 h30 E h2 ⟨nI k, h1, fI_i (p_isP_no (N := N) hX.2.2.2.1.1 h30 rfl k h3 (bq_t rfl (fin.no hI (by omega))))⟩
