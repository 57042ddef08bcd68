/-! near, nearest -/
section Ctxs
variable {b : Bool} {σ : gSt} {N : Nat} {bk nm td yr : Nat → Nat} {fa : Nat → Int32} {most : Nat} {wt : Nat → Nat → Int32} {nv ti ap : Nat → Nat → Bool} {h : Nat → Nat}
theorem Ctx.nearC (hX : Ctx b σ N bk nm td yr fa most wt nv ti ap h) {e : Nat} (he : e < N) {p : Nat → Bool} (hp : p = rc N (fun j => decide (j < N)) (hgP wt ti) e) {m : Nat} (hm : m ≤ 100000) {Q : Int32 → gSt → Prop}
    (q2 : 10 < fa_cnt p N → ∀ t, Off (55 :: clsK) σ t → t.1 56 10 = nI 0 → Q (-2) t)
    (q1 : fa_cnt p N ≤ 10 → mnS (fa_cnt p N) (rmM most) (plW wt p N) (plW ap p N) (plW ti p N) 0 = none → ∀ t, Off (55 :: clsK) σ t → t.1 56 10 = nI 0 → Q (-1) t)
    (q0 : fa_cnt p N ≤ 10 → ∀ c, mnS (fa_cnt p N) (rmM most) (plW wt p N) (plW ap p N) (plW ti p N) 0 = some c → ∀ f a, nrA (fa_cnt p N) (rmM most) (plW wt p N) (plW ap p N) (plW ti p N) (hdH h p N) (c + m) = some (f, a) → ∀ t, Off (55 :: clsK) σ t → t.1 56 10 = nI 0 → t.1 56 2 = nI f → t.1 50 0 = nI (fa_cnt p N) → (∀ i, i < fa_cnt p N → t.1 51 i = nI (memP p N i)) → (∀ j, j < fa_cnt p N → t.1 61 j = nI (lp 0 a (a j))) → Q (nI 1) t) : W_X11_nearPartOf (nI e) (nI m) Q σ := by
  have hrm : rmM most < 1000 := by have := hX.2.2.2.2.1.2.2; unfold rmM; split <;> omega
  have hcnt : 1 ≤ fa_cnt p N := by rw [hp]; exact rc_cnt he
  have hle := fa_cnt_le p N
  have h30 := hX.2.1
  unfold W_X11_nearPartOf
  refine hX.solveC he hp (fun k t hO k10 => bq_t (by decide) (q2 k t (hO.mono (by simp)) k10)) (fun k k2 t hO k10 => bq_t (by decide) (q1 k k2 t (hO.mono (by simp)) k10)) (fun k c hc t hO hs => bq_f (by decide) ?_)
  obtain ⟨s1, s2, s3, s4, s5, s6, s7⟩ := hs
  refine p_lookAt (hd := h) h30 k s1.1 s2 (fun i hi => ⟨by rw [(hO.1 34 (by decide)).1]; exact (hX.2.2.2.2.2.1 i hi).1, by have := (hX.2.2.2.2.2.1 i hi).2.2.1; omega⟩) (fun t2 hO2 h55 => ?_)
  have e56 : t2.1 56 = t.1 56 := (hO2.1 56 (by decide)).1
  have hc9 : c ≤ 90000000 := by
    obtain ⟨d, _, hd⟩ := (mnS_some (Nat.zero_le _) hc).2
    rw [← hd]
    exact cSum_le k (fun i j hj hi => plW_ok hX.2.2.2.2.2.2.1 hj hi)
  obtain ⟨f, a, hfa⟩ := nrA_some (H := hdH h p N) (L := c + m) hc (by omega)
  refine p_approach (s1.fr hO2 (by decide)) hcnt k hrm hc9 hm (fun i j hj hi => plW_ok hX.2.2.2.2.2.2.1 hj hi) (by rw [e56]; exact s3) (by rw [e56]; exact s4) (by rw [e56]; exact s5) (by rw [e56]; exact s6) (by rw [(hO2.1 57 (by decide)).1]; exact s7) h55 (fun t3 hO3 g10 hRl => ?_)
  rw [hfa] at hRl
  obtain ⟨r1, r2, r3⟩ := hRl.2.2 f a rfl
  refine q0 k c hc f a hfa t3 ((hO.mono (by simp)).trans ((hO2.mono (by simp)).trans (hO3.mono (by simp)))) g10 r1 ?_ (fun i hi => ?_) r3
  · rw [(hO3.1 50 (by decide)).1, (hO2.1 50 (by decide)).1]; exact s1.1
  · rw [(hO3.1 51 (by decide)).1, (hO2.1 51 (by decide)).1]; exact s2 i hi
theorem Ctx.nearM (hX : Ctx b σ N bk nm td yr fa most wt nv ti ap h) {e : Nat} (he : e < N) {p : Nat → Bool} (hp : p = rc N (fun j => decide (j < N)) (hgP wt ti) e) {m : Nat} (hm : m ≤ 100000) {s : gSt} {v : Int64} (hs : OutM σ s v) {Q : Int32 → gSt → Prop}
    (q2 : 10 < fa_cnt p N → ∀ u, OutM σ u v → Q (-2) u)
    (q1 : fa_cnt p N ≤ 10 → mnS (fa_cnt p N) (rmM most) (plW wt p N) (plW ap p N) (plW ti p N) 0 = none → ∀ u, OutM σ u v → Q (-1) u)
    (q0 : fa_cnt p N ≤ 10 → ∀ c, mnS (fa_cnt p N) (rmM most) (plW wt p N) (plW ap p N) (plW ti p N) 0 = some c → ∀ f a, nrA (fa_cnt p N) (rmM most) (plW wt p N) (plW ap p N) (plW ti p N) (hdH h p N) (c + m) = some (f, a) → ∀ u, OutM σ u v → PrtM u N p → u.1 65 74 = nI f → (∀ j, j < fa_cnt p N → u.1 109 j = nI (a j) ∧ a j < 10) → Q (nI 0) u) : W_X12_findNear (nI e) (nI m) Q s := by
  have h30 := hX.2.1
  have hm30 := hX.2.2.2.2.1.2.2
  have hle := fa_cnt_le p N
  have hS := hX.2.2.2.2.2.2.1
  unfold W_X12_findNear
  refine hX.partM he hp hs (fun k u hu _ _ => bq_f neg2_le (q2 k u hu)) (fun k k2 u hu _ _ _ => bq_f neg1_le (q1 k k2 u hu)) (fun k c hc u hu hP hM hB => bq_t pos0_le (fL_i (fI_i ?_)))
  obtain ⟨f, a, hfa⟩ := nrA_some (H := hdH h p N) (L := c + m) hc (by omega)
  unfold W_X12_walks
  refine fI_i (fI_i ?_)
  rw [hB.2.2.2.2.1, show i2l (nI m) = lN m from nI_l (by omega), lN_add]
  generalize hu2 : sI (sI (sI (sL u 65 76 (lN (c + m))) 65 74 (-1)) 65 68 (nI 2)) 65 69 (nI 0) = u2
  have fu : Fr [] [76, 74, 68, 69] u u2 := by rw [← hu2]; exact (((Fr.rf.g (by simp)).f (by simp)).f (by simp)).f (by simp)
  have hP2 : PrtM u2 N p := hP.fr fu (by decide)
  have ho2 := hu.go fu (by decide) (by decide)
  have hc9 := hB.1
  have hR : RelNM (fa_cnt p N) N (c + m) p h (0 + (lvs (fa_cnt p N) 0 0 (fun _ => 0)).length) none u2 := by
    refine ⟨?_, ?_, fun _ => ?_, fun f a e => (by cases e), hP2, fun i hi => ⟨?_, by have := (hX.2.2.2.2.2.1 i hi).2.2.1; omega⟩⟩
    · rw [← hu2, sI_get, if_neg (by omega), sI_get, if_pos ⟨rfl, rfl⟩]
    · rw [← hu2, sI_get2, sI_get2, sI_get2, sL_get, if_pos ⟨rfl, rfl⟩]
    · rw [← hu2, sI_get, if_neg (by omega), sI_get, if_neg (by omega), sI_get, if_pos ⟨rfl, rfl⟩]
    · rw [(ho2.1.1 71 (by decide) (by decide)).1]; exact (hX.2.2.2.2.2.1 i hi).2.1
  have hwk := p_walk (okNM (most := most) (A := plW ap p N) (T := plW ti p N) (hd := h) (L := c + m) h30 k (by omega) (fun i j hj hi => plW_ok hS hj hi)) k hm30 (fun i j hj hi => plW_ok hS hj hi) (fa_cnt p N) 12 0 0 (fun _ => 0) 0 none u2 (fun s6 => Q (nI 0) s6) (by omega) (by omega) (hP2.mw (hM.fr fu (by decide)) h30 ((ho2.1.2.1 41 (by decide)).1.trans hX.2.2.2.2.1.1)) ⟨by rw [← hu2, sI_get, if_pos ⟨rfl, rfl⟩], fun j hj => by omega, fun k hk => by omega⟩ hR (canA_0 0 _) lwB_0 (fun t2 f2 hN2 hx2 => ?_)
  · rw [cSum_0] at hwk
    exact hwk
  · have hx2 : RelNM (fa_cnt p N) N (c + m) p h 0 (nrA (fa_cnt p N) (rmM most) (plW wt p N) (plW ap p N) (plW ti p N) (hdH h p N) (c + m)) t2 := hx2
    rw [hfa] at hx2
    obtain ⟨r1, r2, r3⟩ := hx2.2.2.2.1 f a rfl
    exact q0 k c hc f a hfa t2 (ho2.go f2 (by decide) (by decide)) hx2.2.2.2.2.1 r1 r3
end Ctxs
/-- near and nearest refuse alike -/
theorem e5_lit : (100000 : Int32) = nI 100000 := fa_lit 100000
theorem within_e5 {r : Int32} (h : (!decide (r < nI 0) && !decide ((100000 : Int32) < r)) = true) : ∃ m, m ≤ 100000 ∧ r = nI m := by
  rw [e5_lit] at h
  simp only [Bool.and_eq_true, Bool.not_eq_true', decide_eq_false_iff_not] at h
  obtain ⟨j, hj, rfl⟩ := nI_of h.1
  refine ⟨j, ?_, rfl⟩
  by_cases z : j ≤ 100000
  · exact z
  · exact absurd (by rw [nI_ltI (by decide) hj]; omega) h.2
theorem op_near {b : Bool} {σ : gSt} (hI : Inv b σ) (p r : Int32) : OKI (fun Q QX s => W_X11_near p r Q QX s) (W_X12_near p r) cdP σ := by
  obtain ⟨N, bk, nm, td, yr, fa, most, wt, nv, ti, ap, h, hX⟩ := hI.ctx
  have h30 := hX.2.1
  have hEn := hX.2.2.1
  unfold OKI W_X11_near
  rcases ent_or p N (by omega) with ⟨e, he, rfl⟩ | ⟨hp, -⟩
  · obtain ⟨p, hp⟩ : ∃ p, p = rc N (fun j => decide (j < N)) (hgP wt ti) e := ⟨_, rfl⟩
    refine q_need hEn.1 h30 he (q_within ?_)
    by_cases hv : (!decide (r < nI 0) && !decide ((100000 : Int32) < r)) = true
    · obtain ⟨m, hm, rfl⟩ := within_e5 hv
      rw [hv]
      have pre : ∀ {s : gSt} {v : Int64} {Q : Int32 → gSt → Prop} {Q0 : gSt → Prop}, OutM σ s v → W_X12_findNear (nI e) (nI m) Q s → W_X12_isEntry (nI e) (fun x2 s3 => ((x2 = 0 → Q0 s3) ∧ (¬ x2 = 0 → (W_X12_within (nI m) (nI 0) ((100000 : Int32)) (fun x5 => W_X12_may x5 (nI 2) (fun x6 s7 => ((x6 = 0 → Q0 s7) ∧ (¬ x6 = 0 → (W_X12_findNear (nI e) (nI m) Q s7)))) s3) s3)))) s := by
        intro s v Q Q0 hs q
        refine hX.isE hs he (bq_f (by decide) (p_within ?_))
        rw [hv]
        exact p_may_ok (by decide) hs.2.2.1 (bq_f (by decide) q)
      refine q_refuse (by decide) (hX.nearC he hp hm (fun k t hO k10 => bq_f neg2_le ?_) (fun k k2 t hO k10 => bq_f neg1_le ?_) (fun k c hc f a hfa t hO k10 k2 _ _ _ => bq_t pos1_le ?_))
      · rintro s2 rfl
        have hs := OutM.start (v := i2l (-2)) hO (by decide) (by decide) k10
        exact fI_i (pre hs (hX.nearM he hp hm hs (fun _ u hu => bq_f neg2_le (hu.fin hI rfl)) (fun k' => by omega) (fun k' => by omega)))
      · rintro s2 rfl
        have hs := OutM.start (v := i2l (-1)) hO (by decide) (by decide) k10
        exact fI_i (pre hs (hX.nearM he hp hm hs (fun k' => by omega) (fun _ _ u hu => bq_f neg1_le (hu.fin hI rfl)) (fun _ c hc => by rw [k2] at hc; cases hc)))
      · rintro s2 rfl
        have hs := OutM.start (v := i2l (t.1 56 2)) hO (by decide) (by decide) k10
        refine fI_i (pre hs (hX.nearM he hp hm hs (fun k' => by omega) (fun _ k3 => by rw [k3] at hc; cases hc) (fun _ c2 hc2 f2 a2 hfa2 u hu _ h74 _ => bq_t pos0_le (hu.fin hI ?_))))
        rw [hc, Option.some.injEq] at hc2
        subst hc2
        rw [hfa] at hfa2
        simp only [Option.some.injEq, Prod.mk.injEq] at hfa2
        rw [k2, h74, hfa2.1]
    · have hv : (!decide (r < nI 0) && !decide ((100000 : Int32) < r)) = false := by simpa using hv
      rw [hv]
      refine q_refuse_no rfl ⟨nI 2, .inr ⟨rfl, rfl⟩, fI_i (p_isE hX.2.2.2.1.1 h30 rfl he (bq_f (by decide) (p_within ?_)))⟩
      rw [hv]
      exact p_may_bad rfl (by decide) rfl (bq_t rfl (fin.no hI (.inr rfl)))
  · exact q_need_no hEn.1 h30 hp ⟨nI 1, .inl ⟨rfl, rfl⟩, fI_i (p_isE_no hX.2.2.2.1.1 h30 rfl hp (bq_t rfl (fin.no hI (.inl rfl))))⟩
theorem op_nearest {b : Bool} {σ : gSt} (hI : Inv b σ) (p r : Int32) : OKI (fun Q QX s => W_X11_nearest p r Q QX s) (W_X12_nearest p r) cdP σ := by
  obtain ⟨N, bk, nm, td, yr, fa, most, wt, nv, ti, ap, h, hX⟩ := hI.ctx
  have h30 := hX.2.1
  have hEn := hX.2.2.1
  unfold OKI W_X11_nearest
  rcases ent_or p N (by omega) with ⟨e, he, rfl⟩ | ⟨hp, -⟩
  · obtain ⟨p, hp⟩ : ∃ p, p = rc N (fun j => decide (j < N)) (hgP wt ti) e := ⟨_, rfl⟩
    have hpe : p e = true := by rw [hp]; exact rc_self e
    refine q_need hEn.1 h30 he (q_within ?_)
    by_cases hv : (!decide (r < nI 0) && !decide ((100000 : Int32) < r)) = true
    · obtain ⟨m, hm, rfl⟩ := within_e5 hv
      rw [hv]
      have pre : ∀ {s : gSt} {v : Int64} {Q : Int32 → gSt → Prop} {Q0 : gSt → Prop}, OutM σ s v → W_X12_findNear (nI e) (nI m) Q s → W_X12_isEntry (nI e) (fun x2 s3 => ((x2 = 0 → Q0 s3) ∧ (¬ x2 = 0 → (W_X12_within (nI m) (nI 0) ((100000 : Int32)) (fun x5 => W_X12_may x5 (nI 2) (fun x6 s7 => ((x6 = 0 → Q0 s7) ∧ (¬ x6 = 0 → (W_X12_findNear (nI e) (nI m) Q s7)))) s3) s3)))) s := by
        intro s v Q Q0 hs q
        refine hX.isE hs he (bq_f (by decide) (p_within ?_))
        rw [hv]
        exact p_may_ok (by decide) hs.2.2.1 (bq_f (by decide) q)
      refine q_refuse (by decide) (hX.nearC he hp hm (fun k t hO k10 => bq_f neg2_le ?_) (fun k k2 t hO k10 => bq_f neg1_le ?_) (fun k c hc f a hfa t hO k10 _ g0 g51 g61 => bq_t pos1_le (p_heapOf h30 k g0 g51 g61 he hpe ?_)))
      · rintro s2 rfl
        have hs := OutM.start (v := i2l (-2)) hO (by decide) (by decide) k10
        exact fI_i (pre hs (hX.nearM he hp hm hs (fun _ u hu => bq_f neg2_le (hu.fin hI rfl)) (fun k' => by omega) (fun k' => by omega)))
      · rintro s2 rfl
        have hs := OutM.start (v := i2l (-1)) hO (by decide) (by decide) k10
        exact fI_i (pre hs (hX.nearM he hp hm hs (fun k' => by omega) (fun _ _ u hu => bq_f neg1_le (hu.fin hI rfl)) (fun _ c hc => by rw [k2] at hc; cases hc)))
      · rintro s2 rfl
        have hs := OutM.start (v := i2l (nI (memP p N (lp 0 a (a (fa_cnt p e)))))) hO (by decide) (by decide) k10
        refine fI_i (pre hs (hX.nearM he hp hm hs (fun k' => by omega) (fun _ k3 => by rw [k3] at hc; cases hc) (fun _ c2 hc2 f2 a2 hfa2 u hu hP _ h109 => bq_t pos0_le ?_)))
        rw [hc, Option.some.injEq] at hc2
        subst hc2
        rw [hfa] at hfa2
        simp only [Option.some.injEq, Prod.mk.injEq] at hfa2
        obtain ⟨rfl, rfl⟩ := hfa2
        exact p_placeM h30 hP he hpe (p_heapNumber rfl hP k h109 (fa_cnt_ltn he hpe) (hu.fin hI rfl))
    · have hv : (!decide (r < nI 0) && !decide ((100000 : Int32) < r)) = false := by simpa using hv
      rw [hv]
      refine q_refuse_no rfl ⟨nI 2, .inr ⟨rfl, rfl⟩, fI_i (p_isE hX.2.2.2.1.1 h30 rfl he (bq_f (by decide) (p_within ?_)))⟩
      rw [hv]
      exact p_may_bad rfl (by decide) rfl (bq_t rfl (fin.no hI (.inr rfl)))
  · exact q_need_no hEn.1 h30 hp ⟨nI 1, .inl ⟨rfl, rfl⟩, fI_i (p_isE_no hX.2.2.2.1.1 h30 rfl hp (bq_t rfl (fin.no hI (.inl rfl))))⟩
