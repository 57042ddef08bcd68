/-! the reference's tests are the pure ones -/
section
variable {B : Nat → Nat} {n : Nat}
theorem bd_term {R1 R2 R3 : (gSt → Prop) → gSt → Prop} : bdF (S_X12_term R1 R2 R3) := fun t Q h q => p_fine_bad h (bq_t rfl (q t Fr.rf))
theorem bk_dec {Q K : gSt → Prop} (h : bk Q K) : bk Q (fun u => fI u 65 14 ((u.1 65 14) - (nI 1)) K) := fun u hu q => fI_i (h _ (by rw [sI_get, if_neg (fun w => absurd w.2 (by decide))]; exact hu) (fun v hv => q v ((Fr.rf.f (by simp)).trans hv)))
theorem mFn_term {d : Nat} (hd6 : d ≤ 6) {R1 R2 R3 : (gSt → Prop) → gSt → Prop} {sm : PS → PR} {sub : Option ((PS → PR) × (PS → PR))} (hsm : mFn B n d W_X12_sum sm) (hs1 : subM B n d R2 (sub.map (fun f => f.1))) (hb1 : bdF R2) (hs2 : subM B n d R3 (sub.map (fun f => f.2))) (hb2 : bdF R3) : mFn B n d (S_X12_term R1 R2 R3) (teP (sgB B n) sm sub) := by
  intro k s t Q hk h q
  have hb := h.1.b
  have hn := h.1.1
  unfold S_X12_term
  refine p_fine_ok h.2.1 (bq_f (by decide) (p_hereM h (fun u hu hm _ => ?_)))
  replace q := q.tr (fr_m hu (by simp) (by simp))
  unfold teP at q
  have h91 := sg_one (c := s.1) (x := 91) hb (by decide)
  refine ⟨fun w => ?_, fun w => ?_⟩
  · have w2 := h91.mp w
    rw [if_neg (fun y => by rw [w2] at y; exact absurd y (by decide)), if_pos w2] at q
    refine p_openedM (by decide) hd6 hs1 hm q (bk_fn hb1 (bk_closes bk_rf)) (fun f hsf hff u2 hm2 q2 => ?_)
    refine p_thenM hff (by omega) hm2 q2 (bk_closes bk_rf) (fun s2 u3 hm3 q3 => ?_)
    rw [← bnP_id (r := paP (sgB B n) (nI 93) s2)] at q3
    exact p_closeM (by decide) hm3 q3 bk_rf (fun u4 hm4 q4 => q4 u4 Fr.rf (hm4.mono (by omega)))
  · refine p_wordM hm (fun u2 hu2 hm2 h112 => ?_)
    replace q := q.tr (fr_m hu2 (by simp) (by simp))
    have h16 : wdB B n s.1 = (14836 : Int64) ↔ sgB B n s.1 = -16 := by
      have e : (14836 : Int64) = lN (pkL (spl.getD 15 []).reverse) := by decide
      rw [e]
      exact sg_word (k := 15) hb (by decide)
    refine ⟨fun w3 => ?_, fun w3 => ?_⟩
    · have w4 := h16.mp w3
      rw [if_pos w4] at q
      have hbk : bk Q (fun s34 => R3 (fun s35 => fI s35 65 14 ((s35.1 65 14) - (nI 1)) (fun s36 => W_X12_emit (nI 18) (nI 0) (fun s37 => Q s37) s36)) s34) := bk_fn hb2 (bk_dec (bk_emit bk_rf))
      unfold opP at q
      rw [if_pos w4] at q
      refine p_opensN hd6 hm2 h112 w4 (fun z v hv hmb => ?_) (fun z v hv hmv => ?_)
      · cases hsub : sub.map (fun f => f.2) with
        | none => rw [hsub] at q; exact hbk.mb hn (fr_m hv (by simp) (by simp)) hmb q
        | some f => have := (hs2.2 f hsub).1; omega
      · cases hsub : sub.map (fun f => f.2) with
        | none => have := hs2.1 hsub; omega
        | some f =>
          rw [hsub] at q
          have had : adP (sgB B n) s = (s.1 + 1, s.2) := if_neg (fun y => by rw [w4] at y; exact absurd y (by decide))
          have q2 : mOut B n k d (bnP (f (adP (sgB B n) s)) (fun s2 => .inr (emP 18 (nI 0) s2))) u2 Q := q
          rw [had] at q2
          refine p_thenM (hs2.2 f hsub).2 (by omega) hmv (q2.tr (fr_m hv (by simp) (by simp))) (bk_dec (bk_emit bk_rf)) (fun s5 u5 hm5 q5 => fI_i ?_)
          have e : u5.1 65 14 - nI 1 = nI d := by rw [hm5.2.2.2.1, nI_sub (by omega), Nat.add_sub_cancel]
          rw [e]
          exact p_emitM (o := 18) hk hm5.dep (fun x hx hmx => q5 x ((fr_m (Fr.rf.f (ks := []) (js := [14]) (by simp)) (by simp) (by simp)).trans (fr_m hx (by simp) (by simp))) hmx)
    · rw [if_neg (fun y => w3 (h16.mpr y)), if_neg (fun y => w (h91.mpr y))] at q
      have bsum : ∀ (v : gSt) (K : gSt → Prop), ¬ v.1 65 12 = -1 → (∀ x, Fr [] [14] v x → K x) → W_X12_sum K v := fun v K hv hq => bd_sum60 v K hv hq
      refine p_thenM hsm hk hm2 q (fun v hv hq => p_fine_bad hv (fun J13 hJ13 => bq_t rfl (hJ13 (nI 0) v (fun J15 hJ15 => bq_f (by decide) (bq_f (by decide) (bq_f (by decide) (p_wrong_bad hv (hJ15 v (p_fine_bad hv (fun J18 hJ18 => bq_t rfl (hJ18 v (bsum v _ hv (fun x hx J21 hJ21 => ?_))))))))))))) (fun s1 u3 hm3 q3 => ?_)
      · have key : ∀ o, J21 o := fun o => hJ21 o (p_emit_bad (bad_fr hv hx) (hq x hx))
        exact ⟨fun _ => key _, fun _ => ⟨fun _ => key _, fun _ => key _⟩⟩
      · have g60 := sg_one (c := s1.1) (x := 60) hb (by decide)
        have g62 := sg_one (c := s1.1) (x := 62) hb (by decide)
        have g61 := sg_one (c := s1.1) (x := 61) hb (by decide)
        refine p_fine_ok hm3.2.1 (fun J13 hJ13 => bq_f (by decide) (p_hereM hm3 (fun u4 hu4 hm4 h114 => hJ13 _ u4 (fun J15 hJ15 => ?_))))
        replace q3 := q3.tr (fr_m hu4 (by simp) (by simp))
        have step : (sgB B n s1.1 = nI 60 ∨ sgB B n s1.1 = nI 62 ∨ sgB B n s1.1 = nI 61) → J15 u4 := fun hx => by
          rw [if_pos hx] at q3
          have had : adP (sgB B n) s1 = (s1.1 + 1, s1.2) := if_neg (fun y => by rw [y] at hx; revert hx; decide)
          rw [had] at q3
          have hat2 : plc B n s1.1 < n ∧ isLb (B (plc B n s1.1)) = false ∧ isDb (B (plc B n s1.1)) = false := by
            rcases hx with e | e | e
            · exact sg_at (x := 60) hb (by decide) e
            · exact sg_at (x := 62) hb (by decide) e
            · exact sg_at (x := 61) hb (by decide) e
          refine hJ15 u4 (p_fine_ok hm4.2.1 (fun J18 hJ18 => bq_f (by decide) (fI_i (hJ18 _ ?_))))
          have hm5 := hm4.one h114 hat2.1 hat2.2.1 hat2.2.2
          replace q3 := q3.tr (fr_m (Fr.rf.f (ks := []) (js := [11]) (j := 11) (x := u4.1 65 11 + nI 1) (by simp)) (by simp) (by simp))
          refine p_thenM hsm (by omega) hm5 q3 (fun v hv hq J21 hJ21 => ?_) (fun s6 u6 hm6 q6 J21 hJ21 => ?_)
          · have key : ∀ o, J21 o := fun o => hJ21 o (p_emit_bad hv (hq v Fr.rf))
            exact ⟨fun _ => key _, fun _ => ⟨fun _ => key _, fun _ => key _⟩⟩
          · have key : ∀ o, o = (if sgB B n s1.1 = nI 60 then 13 else if sgB B n s1.1 = nI 62 then 14 else 15) → J21 (nI o) := fun o ho => by
              rw [← ho] at q6
              exact hJ21 _ (p_emitM hk hm6 (fun x hx hmx => q6 x (fr_m hx (by simp) (by simp)) hmx))
            exact ⟨fun y => key 13 (by rw [if_pos (g60.mp y)]), fun y => ⟨fun y2 => key 14 (by rw [if_neg (fun z => y (g60.mpr z)), if_pos (g62.mp y2)]), fun y2 => key 15 (by rw [if_neg (fun z => y (g60.mpr z)), if_neg (fun z => y2 (g62.mpr z))])⟩⟩
        refine ⟨fun y => step (.inl (g60.mp y)), fun y => ⟨fun y2 => step (.inr (.inl (g62.mp y2))), fun y2 => ⟨fun y3 => step (.inr (.inr (g61.mp y3))), fun y3 => ?_⟩⟩⟩
        rw [if_neg (fun z => z.elim (fun z => y (g60.mpr z)) (fun z => z.elim (fun z => y2 (g62.mpr z)) (fun z => y3 (g61.mpr z))))] at q3
        refine p_wrong_ok hm4.2.1 (fun v hv k1 k2 => hJ15 v ?_)
        rw [h114] at k1
        have hMB : MB B n (1, s1.1) v := ⟨k1, k2⟩
        have hbad := hMB.bad hn
        refine p_fine_bad hbad (fun J18 hJ18 => bq_t rfl (hJ18 v (bsum v _ hbad (fun x hx J21 hJ21 => ?_))))
        have key : ∀ o, J21 o := fun o => hJ21 o (p_emit_bad (bad_fr hbad hx) (q3 x ((fr_m hv (by simp) (by simp)).trans (fr_m hx (by simp) (by simp))) (hMB.fr hx (by simp) (by simp))))
        exact ⟨fun _ => key _, fun _ => ⟨fun _ => key _, fun _ => key _⟩⟩
theorem bd_allOf {R1 R2 R3 : (gSt → Prop) → gSt → Prop} (hR : bdF R3) : bdF (S_X12_allOf R1 R2 R3) := fun t Q h q => hR t _ h (fun u hu => ⟨1, by
  rw [L_X12_allOf_4]
  exact p_fine_bad (bad_fr h hu) (bq_t rfl (q u hu))⟩)
theorem p_mchain_allOf {R1 R2 R3 : (gSt → Prop) → gSt → Prop} {d : Nat} {f : PS → PR} (hR : mFn B n d R3 f) (hat : ∀ s s2, f s = .inr s2 → s.1 < s2.1) {Q : gSt → Prop} {k : Int} (hk : 0 ≤ k) : ∀ (m : Nat) (s : PS) (t : gSt), n ≤ s.1 + m → MR B n k d s t → mOut B n k d (chP (sgB B n) (-15) (-15) 17 17 f (m + 1) s) t Q → L_X12_allOf_4 R1 R2 R3 Q (fun s23 => Q s23) (m + 2) t := by
  have hw : ∀ c, (∀ i, i < n → B i < 256) → (wdB B n c = (1476 : Int64) ↔ sgB B n c = -15) := fun c hb => by
    have e : (1476 : Int64) = lN (pkL (spl.getD 14 []).reverse) := by decide
    rw [e]
    exact sg_word (k := 14) hb (by decide)
  intro m
  induction m with
  | zero =>
    intro s t hm h q
    have hend : sgB B n s.1 = -18 := end_of h.1.b (by omega)
    rw [chP_end ⟨by rw [hend]; decide, by rw [hend]; decide⟩] at q
    rw [L_X12_allOf_4]
    refine p_fine_ok h.2.1 (bq_f (by decide) (p_wordM h (fun u hu hm1 _ => bq_f (fun w => ?_) ?_)))
    · rw [(hw s.1 h.1.b).mp w] at hend; exact absurd hend (by decide)
    · exact q u (fr_m hu (by simp) (by simp)) hm1
  | succ m ih =>
    intro s t hm h q
    rw [L_X12_allOf_4]
    have hb := h.1.b
    have hn := h.1.1
    refine p_fine_ok h.2.1 (bq_f (by decide) (p_wordM h (fun u hu hm1 h11 => ⟨fun w => ?_, fun w => ?_⟩)))
    · have w2 := (hw s.1 hb).mp w
      replace q := q.tr (fr_m hu (by simp) (by simp))
      rw [chP, if_pos (.inl w2), if_pos w2] at q
      have had : adP (sgB B n) s = (s.1 + 1, s.2) := if_neg (fun w => by rw [w2] at w; exact absurd w (by decide))
      rw [had] at q
      obtain ⟨l1, l2⟩ := sg_let (k := 14) hb (by decide) w2
      refine p_passM hm1 h11 l1 l2 (fun u2 hu2 hm2 => ?_)
      replace q := q.tr (fr_m hu2 (by simp) (by simp))
      refine hR (k + 1) _ _ _ (by omega) hm2 ?_
      cases hfs : f (s.1 + 1, s.2) with
      | inl e =>
        rw [hfs] at q
        intro y hy hmb
        refine p_emit_bad (hmb.bad hn) ?_
        rw [L_X12_allOf_4]
        exact p_fine_bad (hmb.bad hn) (bq_t rfl (q y hy hmb))
      | inr s2 =>
        rw [hfs] at q
        have hlt := hat _ _ hfs
        intro y hy hmy
        refine p_emitM (o := 17) hk hmy (fun z hz hmz => ?_)
        have q3 : mOut B n k d (chP (sgB B n) (-15) (-15) 17 17 f (m + 1) (emP 17 (nI 0) s2)) u2 Q := q
        exact ih _ z (by show n ≤ s2.1 + m; have : s.1 + 1 < s2.1 := hlt; omega) hmz (q3.tr (hy.trans (fr_m hz (by simp) (by simp))))
    · have w2 : ¬ sgB B n s.1 = -15 := fun z => w ((hw s.1 hb).mpr z)
      rw [chP_end ⟨w2, w2⟩] at q
      exact q u (fr_m hu (by simp) (by simp)) hm1
theorem mFn_allOf {R1 R2 R3 : (gSt → Prop) → gSt → Prop} {d : Nat} {f : PS → PR} (hR : mFn B n d R3 f) (hat : ∀ s s2, f s = .inr s2 → s.1 < s2.1) : mFn B n d (S_X12_allOf R1 R2 R3) (fun s => bnP (f s) (chP (sgB B n) (-15) (-15) 17 17 f 401)) := by
  intro k s t Q hk h q
  replace q : mOut B n k d (bnP (f s) (chP (sgB B n) (-15) (-15) 17 17 f 401)) t Q := q
  have hn := h.1.1
  unfold S_X12_allOf
  refine hR k s t _ hk h ?_
  cases hf : f s with
  | inl e =>
    rw [hf] at q
    intro u hu hmb
    refine ⟨1, ?_⟩
    rw [L_X12_allOf_4]
    exact p_fine_bad (hmb.bad hn) (bq_t rfl (q u hu hmb))
  | inr s2 =>
    rw [hf] at q
    intro u hu hm2
    have q2 : mOut B n k d (chP (sgB B n) (-15) (-15) 17 17 f (400 + 1) s2) t Q := q
    exact ⟨402, p_mchain_allOf hR hat hk 400 s2 u (by omega) hm2 (q2.tr hu)⟩
theorem bd_anyOf {R1 R2 R3 : (gSt → Prop) → gSt → Prop} (hR : bdF R1) : bdF (S_X12_anyOf R1 R2 R3) := fun t Q h q => hR t _ h (fun u hu => ⟨1, by
  rw [L_X12_anyOf_4]
  exact p_fine_bad (bad_fr h hu) (bq_t rfl (q u hu))⟩)
theorem p_mchain_anyOf {R1 R2 R3 : (gSt → Prop) → gSt → Prop} {d : Nat} {f : PS → PR} (hR : mFn B n d R1 f) (hat : ∀ s s2, f s = .inr s2 → s.1 < s2.1) {Q : gSt → Prop} {k : Int} (hk : 0 ≤ k) : ∀ (m : Nat) (s : PS) (t : gSt), n ≤ s.1 + m → MR B n k d s t → mOut B n k d (chP (sgB B n) (-14) (-14) 16 16 f (m + 1) s) t Q → L_X12_anyOf_4 R1 R2 R3 Q (fun s23 => Q s23) (m + 2) t := by
  have hw : ∀ c, (∀ i, i < n → B i < 256) → (wdB B n c = (498 : Int64) ↔ sgB B n c = -14) := fun c hb => by
    have e : (498 : Int64) = lN (pkL (spl.getD 13 []).reverse) := by decide
    rw [e]
    exact sg_word (k := 13) hb (by decide)
  intro m
  induction m with
  | zero =>
    intro s t hm h q
    have hend : sgB B n s.1 = -18 := end_of h.1.b (by omega)
    rw [chP_end ⟨by rw [hend]; decide, by rw [hend]; decide⟩] at q
    rw [L_X12_anyOf_4]
    refine p_fine_ok h.2.1 (bq_f (by decide) (p_wordM h (fun u hu hm1 _ => bq_f (fun w => ?_) ?_)))
    · rw [(hw s.1 h.1.b).mp w] at hend; exact absurd hend (by decide)
    · exact q u (fr_m hu (by simp) (by simp)) hm1
  | succ m ih =>
    intro s t hm h q
    rw [L_X12_anyOf_4]
    have hb := h.1.b
    have hn := h.1.1
    refine p_fine_ok h.2.1 (bq_f (by decide) (p_wordM h (fun u hu hm1 h11 => ⟨fun w => ?_, fun w => ?_⟩)))
    · have w2 := (hw s.1 hb).mp w
      replace q := q.tr (fr_m hu (by simp) (by simp))
      rw [chP, if_pos (.inl w2), if_pos w2] at q
      have had : adP (sgB B n) s = (s.1 + 1, s.2) := if_neg (fun w => by rw [w2] at w; exact absurd w (by decide))
      rw [had] at q
      obtain ⟨l1, l2⟩ := sg_let (k := 13) hb (by decide) w2
      refine p_passM hm1 h11 l1 l2 (fun u2 hu2 hm2 => ?_)
      replace q := q.tr (fr_m hu2 (by simp) (by simp))
      refine hR (k + 1) _ _ _ (by omega) hm2 ?_
      cases hfs : f (s.1 + 1, s.2) with
      | inl e =>
        rw [hfs] at q
        intro y hy hmb
        refine p_emit_bad (hmb.bad hn) ?_
        rw [L_X12_anyOf_4]
        exact p_fine_bad (hmb.bad hn) (bq_t rfl (q y hy hmb))
      | inr s2 =>
        rw [hfs] at q
        have hlt := hat _ _ hfs
        intro y hy hmy
        refine p_emitM (o := 16) hk hmy (fun z hz hmz => ?_)
        have q3 : mOut B n k d (chP (sgB B n) (-14) (-14) 16 16 f (m + 1) (emP 16 (nI 0) s2)) u2 Q := q
        exact ih _ z (by show n ≤ s2.1 + m; have : s.1 + 1 < s2.1 := hlt; omega) hmz (q3.tr (hy.trans (fr_m hz (by simp) (by simp))))
    · have w2 : ¬ sgB B n s.1 = -14 := fun z => w ((hw s.1 hb).mpr z)
      rw [chP_end ⟨w2, w2⟩] at q
      exact q u (fr_m hu (by simp) (by simp)) hm1
theorem mFn_anyOf {R1 R2 R3 : (gSt → Prop) → gSt → Prop} {d : Nat} {f : PS → PR} (hR : mFn B n d R1 f) (hat : ∀ s s2, f s = .inr s2 → s.1 < s2.1) : mFn B n d (S_X12_anyOf R1 R2 R3) (fun s => bnP (f s) (chP (sgB B n) (-14) (-14) 16 16 f 401)) := by
  intro k s t Q hk h q
  replace q : mOut B n k d (bnP (f s) (chP (sgB B n) (-14) (-14) 16 16 f 401)) t Q := q
  have hn := h.1.1
  unfold S_X12_anyOf
  refine hR k s t _ hk h ?_
  cases hf : f s with
  | inl e =>
    rw [hf] at q
    intro u hu hmb
    refine ⟨1, ?_⟩
    rw [L_X12_anyOf_4]
    exact p_fine_bad (hmb.bad hn) (bq_t rfl (q u hu hmb))
  | inr s2 =>
    rw [hf] at q
    intro u hu hm2
    have q2 : mOut B n k d (chP (sgB B n) (-14) (-14) 16 16 f (400 + 1) s2) t Q := q
    exact ⟨402, p_mchain_anyOf hR hat hk 400 s2 u (by omega) hm2 (q2.tr hu)⟩
theorem bd_terms (m : Nat) : bdF (WR_X12_allOf (m + 1)).2.2 := bd_term (R1 := (WR_X12_allOf m).1) (R2 := (WR_X12_allOf m).2.1) (R3 := (WR_X12_allOf m).2.2)
theorem bd_anys (m : Nat) : bdF (WR_X12_allOf (m + 3)).2.1 := bd_anyOf (R1 := (WR_X12_allOf (m + 2)).1) (R2 := (WR_X12_allOf (m + 2)).2.1) (R3 := (WR_X12_allOf (m + 2)).2.2) (bd_allOf (R1 := (WR_X12_allOf (m + 1)).1) (R2 := (WR_X12_allOf (m + 1)).2.1) (R3 := (WR_X12_allOf (m + 1)).2.2) (bd_terms m))
theorem mFn_tests : ∀ (e d m : Nat), d + e = 6 → mFn B n d ((WR_X12_allOf (m + (3 * e + 6))).2.1) (tsP (sgB B n) (vlB B n) e).1 ∧ mFn B n d ((WR_X12_allOf (m + (3 * e + 4))).2.2) (tsP (sgB B n) (vlB B n) e).2 := by
  have up : ∀ (e d : Nat), d + e = 6 → ∀ sub : Option ((PS → PR) × (PS → PR)), (∀ f, sub = some f → (∀ s s2, f.1 s = .inr s2 → s.1 < s2.1) ∧ ∀ s s2, f.2 s = .inr s2 → s.1 < s2.1) → (∀ m, mFn B n d ((WR_X12_allOf (m + (3 * e + 4))).2.2) (teP (sgB B n) (sumP (sgB B n) (vlB B n) e) sub)) → ∀ m, mFn B n d ((WR_X12_allOf (m + (3 * e + 6))).2.1) (ayP (sgB B n) (sumP (sgB B n) (vlB B n) e) sub) := fun e d hd sub hsub ht m => by
    have a1 := teP_at (S := sgB B n) (sumP_at (S := sgB B n) (V := vlB B n) e) hsub
    have a2 := eaP_at a1
    exact mFn_anyOf (R2 := (WR_X12_allOf (m + (3 * e + 5))).2.1) (R3 := (WR_X12_allOf (m + (3 * e + 5))).2.2) (mFn_allOf (R1 := (WR_X12_allOf (m + (3 * e + 4))).1) (R2 := (WR_X12_allOf (m + (3 * e + 4))).2.1) (ht m) a1) a2
  intro e
  induction e with
  | zero =>
    intro d m hd
    have hn : ∀ R, subM B n d R none := fun R => ⟨fun _ => (by omega), fun f hf => (by cases hf)⟩
    have ht : ∀ m, mFn B n d ((WR_X12_allOf (m + (3 * 0 + 4))).2.2) (teP (sgB B n) (sumP (sgB B n) (vlB B n) 0) none) := fun m =>
      mFn_term (R1 := (WR_X12_allOf (m + 3)).1) (R2 := (WR_X12_allOf (m + 3)).2.1) (R3 := (WR_X12_allOf (m + 3)).2.2) (by omega) (mFn_sum60 hd) (hn _) (bd_anys m) (hn _) (bd_terms (m + 2))
    exact ⟨up 0 d hd none (fun f hf => by cases hf) ht m, ht m⟩
  | succ e ih =>
    intro d m hd
    have hs1 : ∀ m, subM B n d ((WR_X12_allOf (m + (3 * e + 6))).2.1) (some (tsP (sgB B n) (vlB B n) e).1) := fun m => ⟨fun h => (by cases h), fun f hf => by
      cases hf
      exact ⟨by omega, (ih (d + 1) m (by omega)).1⟩⟩
    have hs2 : ∀ m, subM B n d ((WR_X12_allOf (m + (3 * e + 4))).2.2) (some (tsP (sgB B n) (vlB B n) e).2) := fun m => ⟨fun h => (by cases h), fun f hf => by
      cases hf
      exact ⟨by omega, (ih (d + 1) m (by omega)).2⟩⟩
    have ht : ∀ m, mFn B n d ((WR_X12_allOf (m + (3 * (e + 1) + 4))).2.2) (teP (sgB B n) (sumP (sgB B n) (vlB B n) (e + 1)) (some (tsP (sgB B n) (vlB B n) e))) := fun m => by
      have h1 := hs1 m
      have h2 := hs2 (m + 2)
      rw [show m + 2 + (3 * e + 4) = m + (3 * e + 6) by omega] at h2
      have b1 := bd_anys (m + (3 * e + 3))
      rw [show m + (3 * e + 3) + 3 = m + (3 * e + 6) by omega] at b1
      have b2 := bd_terms (m + (3 * e + 5))
      rw [show m + (3 * e + 5) + 1 = m + (3 * e + 6) by omega] at b2
      exact mFn_term (R1 := (WR_X12_allOf (m + (3 * e + 6))).1) (R2 := (WR_X12_allOf (m + (3 * e + 6))).2.1) (R3 := (WR_X12_allOf (m + (3 * e + 6))).2.2) (by omega) (mFn_sum60 hd) h1 b1 h2 b2
    exact ⟨up (e + 1) d hd _ (fun f hf => by cases hf; exact tsP_at e) ht m, ht m⟩
theorem mFn_any60 {e d : Nat} (h : d + e = 6) : mFn B n d W_X12_anyOf (tsP (sgB B n) (vlB B n) e).1 := by
  have h2 := (mFn_tests (B := B) (n := n) e d (60 - (3 * e + 6)) h).1
  rw [show 60 - (3 * e + 6) + (3 * e + 6) = 60 by omega] at h2
  exact h2
theorem bd_any60 : bdF W_X12_anyOf := bd_anys 57
end
