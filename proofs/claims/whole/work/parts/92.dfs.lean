/-! the class's search: what is left out can't matter -/
def dfOK {α : Type} (Rel : Nat → α → gSt → Prop) (step : α → (Nat → Nat) → α) (s n rm z : Nat) (W : Nat → Nat → Int32) (A T H : Nat → Nat → Bool) (r : Nat → Nat) : Prop :=
  (∀ B x t t2, Rel B x t → Off [56, 58, 59, 60] t t2 → (∀ j, j ≠ 10 → t2.1 56 j = t.1 56 j) → t2.2.1 56 = t.2.1 56 → Rel B x t2) ∧
  (∀ B x t i a, Rel (B + 1) x t → s < i → i ≤ n → (t.1 56 12 < nI (cSum W s a i) + nI (r i) ∨ t.1 56 2 ≤ nI (odN z H s a i)) → ∀ b, (∀ j, s ≤ j → j < i → b j = a j) → lwB s rm A T b n = true → Rel B (step x b) t) ∧
  (∀ B x t b, Rel (B + 1) x t → lwB s rm A T b n = false → Rel B (step x b) t) ∧
  (∀ B x t a (Q : gSt → Prop), Rel (B + 1) x t → dfC t s n rm z W A T H r → lwB s rm A T a n = true → ¬ t.1 56 12 < nI (cSum W s a n) + nI (r n) → ¬ t.1 56 2 ≤ nI (odN z H s a n) → (∀ j, s ≤ j → j < n → t.1 60 j = nI (lp s a (a j))) → (∀ t2, Off [56, 61, 62] t t2 → (∀ j ∈ [10, 11, 13], t2.1 56 j = t.1 56 j) → Rel B (step x a) t2 → Q t2) → W_X10_record (nI (cSum W s a n)) (nI (odN z H s a n)) (pmL s a n) Q t)
theorem fold_rel {α : Type} {Rel : Nat → α → gSt → Prop} {step : α → (Nat → Nat) → α} {t : gSt} : ∀ (l : List (Nat → Nat)) (B : Nat) (x : α), Rel (B + l.length) x t → (∀ b ∈ l, ∀ B x, Rel (B + 1) x t → Rel B (step x b) t) → Rel B (l.foldl step x) t
  | [], _, _, h, _ => h
  | b :: l, B, x, h, hs => by
    rw [List.foldl_cons]
    refine fold_rel l B (step x b) (hs b (by simp) _ x ?_) (fun c hc => hs c (by simp [hc]))
    rw [List.length_cons] at h
    exact h
theorem mkI_bt {s i k j : Nat} {a : Nat → Nat} (hi : i ≤ 32) (hj : j < 32) : bt (mkI s a i k) j = (decide (j < i) && (decide (s ≤ j) && decide (a j = k))) := bt_orBits _ i hi j hj
theorem mkI_cnt {s i k : Nat} {a : Nat → Nat} (hi : i ≤ 30) : fa_cnt (bt (mkI s a i k)) 32 = fb_ct (fun j => decide (s ≤ j) && decide (a j = k)) i := by
  rw [fa_cnt_cong (q := fun j => decide (j < i) && (decide (s ≤ j) && decide (a j = k))) (fun j hj => mkI_bt (by omega) hj), fa_cnt_32 hi (fun j hj => by rw [decide_eq_false (by omega), Bool.false_and]), ← fa_fb]
  exact fa_cnt_cong (fun j hj => by rw [decide_eq_true hj, Bool.true_and])
theorem df_cost {W : Nat → Nat → Int32} {s n i k : Nat} {a : Nat → Nat} (hn : n ≤ 10) (hi : i < n) (hs : s ≤ i) (hW : ∀ i j, j < i → i < n → okW (W i j)) {x : Int32} (hx : x.toInt = fb_si (fun j => if s ≤ j ∧ a j = k then (W i j).toInt else 0) i) : nI (cSum W s a i + fb_sm (fun j => if s ≤ j then cwN (W i j) false else 0) i) - x = nI (cSum W s (upN a i k) (i + 1)) := by
  have e1 : cSum W s (upN a i k) (i + 1) = cSum W s a i + cRow W s a i k := by
    rw [cSum_succ hs, upN_at, cSum_cong (b := a) (fun j _ h2 => upN_ne (by omega)), cRow_cong (b := a) (fun j _ h2 => upN_ne (by omega))]
  have e2 := cost_k (W := W) (s := s) (i := i) (k := k) (a := a) i
  have b1 := cSum_le (W := W) (s := s) (a := a) (n := i) (by omega) (fun i2 j h1 h2 => hW i2 j h1 (by omega))
  have b2 : fb_sm (fun j => if s ≤ j then cwN (W i j) false else 0) i ≤ i * 1000000 := fb_sm_bound (fun j hj => by
    by_cases z : s ≤ j
    · rw [if_pos z]; exact cwN_le (hW i j hj hi) _
    · rw [if_neg z]; exact Nat.zero_le _)
  have b3 := cRow_le (W := W) (s := s) (k := k) (a := a) (fun j hj => hW i j hj hi)
  have e3 : cRow W s a i k = fb_sm (fun j => if s ≤ j then cwN (W i j) (decide (a j = k)) else 0) i := rfl
  have hnat : (nI (cSum W s a i + fb_sm (fun j => if s ≤ j then cwN (W i j) false else 0) i) : Int32).toInt = ((cSum W s a i + fb_sm (fun j => if s ≤ j then cwN (W i j) false else 0) i : Nat) : Int) := nI_toInt (by omega)
  rw [e1, fa_eq, fb_subI] <;> rw [hnat, hx]
  · rw [nI_toInt (by omega)]; omega
  · omega
  · omega
theorem dfE_N {t : gSt} {s i h k : Nat} {a : Nat → Nat} (hi : i ≤ 10) (hc : canA s i h a) (hk : k < h) : dfE t s i h k a ↔ dfN t s i h a := by
  have e : nxh h k = h := if_neg (by omega)
  unfold dfE dfN
  rw [e]
  have hl : ∀ x, x < h → lp s (upN a i k) x = lp s a x := fun x hx => lp_up hi (hc.2 x hx)
  constructor
  · rintro ⟨h1, h2, h3, h4⟩
    exact ⟨h1, h2, fun x hx => by rw [h3 x hx, hl x hx], h4⟩
  · rintro ⟨h1, h2, h3, h4⟩
    exact ⟨h1, h2, fun x hx => by rw [h3 x hx, hl x hx], h4⟩
theorem df_enter {α : Type} {Rel : Nat → α → gSt → Prop} {step : α → (Nat → Nat) → α} {s n rm z : Nat} {W : Nat → Nat → Int32} {A T H : Nat → Nat → Bool} {r : Nat → Nat} (hOK : dfOK Rel step s n rm z W A T H r) (hn : n ≤ 10) (hrm : rm < 1000) (hz : z < 1000) (hW : ∀ i j, j < i → i < n → okW (W i j)) {m i h : Nat} {a : Nat → Nat} (hi : i < n) (hs : s ≤ i) (hc : canA s i h a) (hl : lwB s rm A T a i = true) {R1 : Int32 → Int32 → Int32 → Int32 → Int64 → (gSt → Prop) → gSt → Prop} {R2 : Int32 → Int32 → Int32 → Int64 → (gSt → Prop) → gSt → Prop} {k : Nat} (hk : k ≤ h)
    (ih : ∀ (B : Nat) (x : α) (t : gSt) (Q : gSt → Prop), dfC t s n rm z W A T H r → dfN t s (i + 1) (nxh h k) (upN a i k) → Rel (B + (lvs m (i + 1) (nxh h k) (upN a i k)).length) x t → lwB s rm A T (upN a i k) (i + 1) = true → (¬ t.1 56 12 < nI (cSum W s (upN a i k) (i + 1)) + nI (r (i + 1)) ∧ ¬ t.1 56 2 ≤ nI (odN z H s (upN a i k) (i + 1))) → (∀ t2, FD t t2 → dfN t2 s (i + 1) (nxh h k) (upN a i k) → Rel B ((lvs m (i + 1) (nxh h k) (upN a i k)).foldl step x) t2 → Q t2) → R2 (nI (i + 1)) (nI (cSum W s (upN a i k) (i + 1))) (nI (odN z H s (upN a i k) (i + 1))) (pmL s (upN a i k) (i + 1)) Q t)
    {B : Nat} {x : α} {t : gSt} (hC : dfC t s n rm z W A T H r) (hE : dfE t s i h k a) (hx : Rel (B + (lvs m (i + 1) (nxh h k) (upN a i k)).length) x t) {Q : gSt → Prop} (hQ : ∀ t2, FD t t2 → dfE t2 s i h k a → Rel B ((lvs m (i + 1) (nxh h k) (upN a i k)).foldl step x) t2 → Q t2) : S_X10_enter R1 R2 (nI i) (nI k) (nI (cSum W s a i + fb_sm (fun j => if s ≤ j then cwN (W i j) false else 0) i)) (nI (odN z H s a i)) (pmL s a i) Q t := by
  have hle := hc.le hs
  have hkx : k < nxh h k := by unfold nxh; split <;> omega
  have hM : t.1 58 k = mkI s a i k := b_ext (fun j hj => by
    rw [hE.2.1 k hkx j hj, mkI_bt (by omega) hj]
    cases decide (s ≤ j) <;> cases decide (j < i) <;> rfl)
  have nope : mayB s rm A T a i k = false → Q t := fun hm => hQ t FD.rf hE (fold_rel _ B x hx (fun b hb B2 x2 h2 => hOK.2.2.1 B2 x2 t b h2 (lvs_no hs hi hb hm)))
  unfold S_X10_enter
  refine rI_i (by omega) (rI_i (by omega) ?_)
  rw [hM]
  intro J4 hJ4 J22 hJ22
  have bad : mayB s rm A T a i k = false → J22 := fun hm => hJ22 (hJ4 _ (bq_f (by decide) (nope hm)))
  by_cases hcl : ∀ j, s ≤ j → j < i → a j = k → A i j = false
  · refine bq_t (and_bits.mpr (fun j hj => ?_)) (rI_i (by omega) ?_)
    · rw [hC.2.2.2.1 i j hi hj, mkI_bt (by omega) hj]
      by_cases y : j < i ∧ s ≤ j ∧ a j = k
      · rw [hcl j y.2.1 y.1 y.2.2]; simp
      · have : (decide (j < i) && (decide (s ≤ j) && decide (a j = k))) = false := by
          rw [← Bool.not_eq_true, Bool.and_eq_true, Bool.and_eq_true, decide_eq_true_iff, decide_eq_true_iff, decide_eq_true_iff]
          exact y
        rw [this, Bool.and_false]
    by_cases hcl2 : ∀ j, s ≤ j → j < i → ¬ a j = k → T i j = false
    · rw [hC.2.2.2.2.2.2.1]
      refine bq_t (and_bits.mpr (fun j hj => ?_)) (hJ4 _ (bq_t rfl (p_bitCount ?_)))
      · rw [b_and, b_xor, hC.2.2.2.2.1 i j hi hj, mkI_bt (by omega) hj, placed_bits i (by omega) s (by omega) hs j hj, b_m1 j hj]
        by_cases y : j < i ∧ s ≤ j ∧ ¬ a j = k
        · rw [hcl2 j y.2.1 y.1 y.2.2]; simp
        · by_cases y1 : j < i
          · by_cases y2 : s ≤ j
            · have y3 : a j = k := Classical.byContradiction (fun w => y ⟨y1, y2, w⟩)
              rw [decide_eq_true y1, decide_eq_true y2, decide_eq_true y3]; simp
            · rw [decide_eq_false y2]; simp
          · rw [decide_eq_false y1]; simp
      · rw [mkI_cnt (by omega), hC.2.1]
        have hcl3 := fb_ct_le (fun j => decide (s ≤ j) && decide (a j = k)) i
        refine br_lt (by omega) (by omega) (fun hlt => ?_) (fun hge => nope ?_)
        · have hmay : mayB s rm A T a i k = true := mayB_iff.mpr ⟨fun j h1 h2 => by
            by_cases y : a j = k
            · rw [if_pos y]; exact hcl j h1 h2 y
            · rw [if_neg y]; exact hcl2 j h1 h2 y, hlt⟩
          have hlw : lwB s rm A T (upN a i k) (i + 1) = true := by
            rw [lwB_iff] at hl ⊢
            intro j h1 h2
            by_cases y : j = i
            · subst y
              rw [upN_at, mayB_cong (b := a) (fun j2 _ h3 => upN_ne (by omega))]
              exact hmay
            · rw [upN_ne y, mayB_cong (b := a) (fun j2 _ h3 => upN_ne (by omega))]
              exact hl j h1 (by omega)
          refine p_pullTo hn hW hC hi hs (fun x8 hx8 => ?_)
          rw [df_cost hn hi hs hW hx8]
          intro J10 hJ10
          have hodd : J10 (nI (odN z H s (upN a i k) (i + 1))) := by
            refine hJ10 _ (rI_e (nI_add i 1) (by omega) ?_)
            rw [hC.2.2.2.2.2.2.2.2 (i + 1) (by omega) (by omega)]
            have skip : (t.1 56 12 < nI (cSum W s (upN a i k) (i + 1)) + nI (r (i + 1)) ∨ t.1 56 2 ≤ nI (odN z H s (upN a i k) (i + 1))) → Q t := fun hsk => hQ t FD.rf hE (fold_rel _ B x hx (fun b hb B2 x2 h2 => by
              cases e : lwB s rm A T b n
              · exact hOK.2.2.1 B2 x2 t b h2 e
              · exact hOK.2.1 B2 x2 t (i + 1) (upN a i k) h2 (by omega) (by omega) hsk b (fun j _ h2 => lvs_keep _ _ _ _ hb j (.inl h2)) e))
            refine ⟨fun y => skip (.inl y), fun y => ⟨fun w => skip (.inr w), fun w => ?_⟩⟩
            refine wI_i (by omega) (rI_i (by omega) ?_)
            have e59 : (sI t 58 k (mkI s a i k ||| nI 1 <<< (nI i &&& 31))).1 59 k = nI (lp s (upN a i k) k) := by
              rw [sI_get, if_neg (by rintro ⟨q, -⟩; cases q)]
              exact hE.2.2.1 k hkx
            rw [e59]
            refine wI_i (by omega) ⟨by decide, ?_⟩
            rw [half_i i (by omega), nI_add]
            have epm : pmL s a i ||| shlL (i2l (mkI s a i k)) (nI (i * (i - 1) / 2)) = pmL s (upN a i k) (i + 1) := by
              rw [pmL, if_pos hs, upN_at, pmL_cong (b := a) (fun j _ h2 => upN_ne (by omega)), mkI_cong (b := a) (fun j _ h2 => upN_ne (by omega))]
            rw [epm]
            generalize hu : sI (sI t 58 k (mkI s a i k ||| nI 1 <<< (nI i &&& 31))) 60 i (nI (lp s (upN a i k) k)) = u
            have fu : Off [58, 60] t u := by rw [← hu]; exact (Off.rf.i (by simp)).i (by simp)
            have fdu : FD t u := ⟨fu.mono (by simp), by rw [(fu.1 56 (by decide)).1], by rw [(fu.1 56 (by decide)).1]⟩
            have u58 : ∀ y, u.1 58 y = if y = k then mkI s a i k ||| nI 1 <<< (nI i &&& 31) else t.1 58 y := fun y => by
              rw [← hu, sI_get, if_neg (by rintro ⟨q, -⟩; cases q), sI_get]
              by_cases q : y = k
              · rw [if_pos ⟨rfl, q⟩, if_pos q]
              · rw [if_neg (fun w2 => q w2.2), if_neg q]
            have u60 : ∀ y, u.1 60 y = if y = i then nI (lp s (upN a i k) k) else t.1 60 y := fun y => by
              rw [← hu, sI_get]
              by_cases q : y = i
              · rw [if_pos ⟨rfl, q⟩, if_pos q]
              · rw [if_neg (fun w2 => q w2.2), if_neg q, sI_get, if_neg (by rintro ⟨q2, -⟩; cases q2)]
            have hlpj : ∀ j, s ≤ j → j < i → lp s (upN a i k) (a j) = lp s a (a j) := fun j h1 h2 => lp_up (by omega) ⟨j, h1, h2, rfl⟩
            refine ih B x u _ (hC.fr fdu) ⟨by rw [(fu.1 56 (by decide)).1]; exact hE.1, fun y hy j hj => ?_, fun y hy => by rw [(fu.1 59 (by decide)).1]; exact hE.2.2.1 y hy, fun j h1 h2 => ?_⟩ (hOK.1 _ x t u hx (fu.mono (by simp)) (fun j _ => by rw [(fu.1 56 (by decide)).1]) (by rw [(fu.1 56 (by decide)).2])) hlw (by rw [(fu.1 56 (by decide)).1]; exact ⟨y, w⟩) (fun t2 f2 hN2 hx2 => ?_)
            · rw [u58 y]
              by_cases q : y = k
              · subst q
                rw [if_pos rfl, b_or, mkI_bt (by omega) hj, bt_one i (by omega) hj]
                by_cases q2 : j = i
                · subst q2
                  rw [upN_at]; simp [hs]
                · rw [upN_ne q2]
                  have : decide (j < i + 1) = decide (j < i) := by rw [decide_eq_decide]; omega
                  rw [this, decide_eq_false q2, Bool.or_false]
                  cases decide (s ≤ j) <;> cases decide (j < i) <;> rfl
              · rw [if_neg q, hE.2.1 y hy j hj]
                by_cases q2 : j = i
                · subst q2
                  rw [upN_at, decide_eq_false (Ne.symm q)]; simp
                · rw [upN_ne q2]
                  have : decide (j < i + 1) = decide (j < i) := by rw [decide_eq_decide]; omega
                  rw [this]
            · rw [u60]
              by_cases q : j = i
              · subst q; rw [if_pos rfl, upN_at]
              · rw [if_neg q, upN_ne q, hlpj j h1 (by omega)]
                exact hE.2.2.2 j h1 (by omega)
            · refine wI_i (by omega) ?_
              have fv : Off [58] t2 (sI t2 58 k (mkI s a i k)) := Off.rf.i (by simp)
              have fdv : FD t (sI t2 58 k (mkI s a i k)) := (fdu.trans f2).trans ⟨fv.mono (by simp), by rw [(fv.1 56 (by decide)).1], by rw [(fv.1 56 (by decide)).1]⟩
              refine hQ _ fdv ⟨by rw [(fv.1 56 (by decide)).1]; exact hN2.1, fun y hy j hj => ?_, fun y hy => by rw [(fv.1 59 (by decide)).1]; exact hN2.2.2.1 y hy, fun j h1 h2 => ?_⟩ (hOK.1 _ _ t2 _ hx2 (fv.mono (by simp)) (fun j _ => by rw [(fv.1 56 (by decide)).1]) (by rw [(fv.1 56 (by decide)).2]))
              · rw [sI_get]
                by_cases q : y = k
                · subst q
                  rw [if_pos ⟨rfl, rfl⟩, mkI_bt (by omega) hj]
                  cases decide (s ≤ j) <;> cases decide (j < i) <;> rfl
                · rw [if_neg (fun w2 => q w2.2), hN2.2.1 y hy j hj]
                  by_cases q2 : j = i
                  · subst q2
                    rw [upN_at, decide_eq_false (Ne.symm q)]; simp
                  · rw [upN_ne q2]
                    have : decide (j < i + 1) = decide (j < i) := by rw [decide_eq_decide]; omega
                    rw [this]
              · rw [(fv.1 60 (by decide)).1]
                have := hN2.2.2.2 j h1 (by omega)
                rw [upN_ne (by omega), hlpj j h1 h2] at this
                exact this
          have eod : odN z H s (upN a i k) (i + 1) = odN z H s a i + (if z = 2 then fb_ct (fun j => decide (s ≤ j) && (decide (a j = k) != H i j)) i else 0) := by
            rw [odN_succ hs, odN_cong (b := a) (fun j _ h2 => upN_ne (by omega)), upN_at]
            congr 1
            by_cases q : z = 2
            · rw [if_pos q, if_pos q]
              exact fb_ct_cong (fun j hj => by rw [upN_ne (by omega)])
            · rw [if_neg q, if_neg q]
          rw [eod] at hodd
          rw [hC.2.2.2.2.2.2.2.1]
          by_cases q : z = 2
          · rw [if_pos q] at hodd
            refine bq_t (by rw [q]) (rI_i (by omega) (p_bitCount ?_))
            have ecn : fa_cnt (bt ((mkI s a i k ^^^ t.1 55 i) &&& ((nI 1 <<< (nI i &&& 31)) - (nI 1 <<< (t.1 56 11 &&& 31))))) 32 = fb_ct (fun j => decide (s ≤ j) && (decide (a j = k) != H i j)) i := by
              rw [hC.2.2.2.2.2.2.1, fa_cnt_cong (q := fun j => decide (j < i) && (decide (s ≤ j) && (decide (a j = k) != H i j))) (fun j hj => ?_), fa_cnt_32 (N := i) (by omega) (fun j hj => by rw [decide_eq_false (by omega), Bool.false_and]), ← fa_fb]
              · exact fa_cnt_cong (fun j hj => by rw [decide_eq_true hj, Bool.true_and])
              · rw [b_and, b_xor, mkI_bt (by omega) hj, placed_bits i (by omega) s (by omega) hs j hj, hC.2.2.2.2.2.1 q i j hi hj]
                by_cases y1 : j < i
                · by_cases y2 : s ≤ j
                  · rw [decide_eq_true y1, decide_eq_true y2, decide_eq_true (show j < n by omega), decide_eq_true (show j ≠ i by omega)]
                    cases decide (a j = k) <;> cases H i j <;> rfl
                  · rw [decide_eq_false y2]; simp
                · rw [decide_eq_false y1]; simp
            rw [ecn, nI_add]
            exact hodd
          · rw [if_neg q] at hodd
            refine bq_f (fun w => ?_) hodd
            exact q ((nI_eq (by omega) (by decide)).mp w)
        · cases e : mayB s rm A T a i k
          · rfl
          · have := (mayB_iff.mp e).2; omega
    · refine bq_f (fun w => ?_) (bad ?_)
      · rw [hC.2.2.2.2.2.2.1] at w
        refine hcl2 (fun j h1 h2 h3 => ?_)
        have := and_bits.mp w j (by omega)
        rw [b_and, b_xor, hC.2.2.2.2.1 i j hi (by omega), mkI_bt (by omega) (by omega), placed_bits i (by omega) s (by omega) hs j (by omega), b_m1 j (by omega), decide_eq_true h1, decide_eq_true h2, decide_eq_false h3, decide_eq_true (show j < n by omega), decide_eq_true (show j ≠ i by omega)] at this
        simpa using this
      · cases e : mayB s rm A T a i k
        · rfl
        · refine absurd (fun j h1 h2 h3 => ?_) hcl2
          have := (mayB_iff.mp e).1 j h1 h2
          rw [if_neg h3] at this
          exact this
  · refine bq_f (fun w => hcl (fun j h1 h2 h3 => ?_)) (bad ?_)
    · have := and_bits.mp w j (by omega)
      rw [hC.2.2.2.1 i j hi (by omega), mkI_bt (by omega) (by omega), decide_eq_true h1, decide_eq_true h2, decide_eq_true h3, decide_eq_true (show j < n by omega), decide_eq_true (show j ≠ i by omega)] at this
      simpa using this
    · cases e : mayB s rm A T a i k
      · rfl
      · refine absurd (fun j h1 h2 h3 => ?_) hcl
        have := (mayB_iff.mp e).1 j h1 h2
        rw [if_pos h3] at this
        exact this
