/-! loose -/
theorem op_loose {b : Bool} {σ : gSt} (hI : Inv b σ) (p r : Int32) : OKI (fun Q QX s => W_X11_loose p r Q QX s) (W_X12_loose p r) cdP σ := by
  obtain ⟨N, most, ob, span, F, fx, fy, ft, h30, hN1, hN, hL⟩ := hI.sl
  have hR := hI.1
  obtain ⟨l1, l2, l3, lm, lo, ls, l7, l8⟩ := hL
  have hF20 := l1.2.1
  unfold OKI W_X11_loose
  rcases pair_or p r N (by omega) with ⟨a, c, ha, hc, hne, rfl, rfl⟩ | ⟨E, k, h1, h2, h3⟩
  · obtain ⟨b1, b2⟩ := l8 a c (by omega) (by omega)
    refine q_pair hN1 h30 ha hc hne ⟨_, fun o l => s_isFixed hR a c (by omega) (by omega), ?_⟩
    rw [b1, b2, tie_iff]
    refine br_z (fun hf => ?_) (fun ht => ?_)
    · have hnx : ¬ tix F fx fy a c < F := of_decide_eq_false hf
      rintro s2 rfl
      have hF0 : fixM (sI (sL σ 115 0 (i2l (nI 0))) 65 0 (nI 0)) F fx fy ft := by
        unfold fixM at l1 ⊢
        exact l1
      refine fI_i (p_isP (N := N) hN h30 rfl ha hc hne (bq_f (by decide) (p_fixV hF0 (by omega) (by omega) ?_)))
      rw [if_neg hnx]
      exact bq_t rfl (fin.scr0 hI)
    · have hx : tix F fx fy a c < F := of_decide_eq_true ht
      have hat := tix_at hx
      refine ⟨_, fun o l => s_unbind hR a c F (by omega) (by omega) (by omega) l7, fun r s hp => ?_⟩
      obtain ⟨rfl, hO, k1, k2, k3, k4⟩ := hp
      refine ⟨rfl, hO.2, ?_⟩
      rintro s2 rfl
      have f0 : Fr [30, 31, 32, 115] [0] σ (sI (sL s 115 0 (i2l (nI 1))) 65 0 (nI 0)) := (((Fr.of (js := []) hO (by decide)).mono (by simp) (by simp)).l (by simp) (by decide)).f (by simp)
      have n1 : (sI (sL s 115 0 (i2l (nI 1))) 65 0 (nI 0)).1 65 1 = nI N := (f0.2.1 1 (by simp)).1.trans hN
      have hF0 : fixM (sI (sL s 115 0 (i2l (nI 1))) 65 0 (nI 0)) F fx fy ft := by
        unfold fixM
        rw [(f0.2.1 44 (by simp)).1, (f0.1 94 (by decide) (by decide)).1, (f0.1 95 (by decide) (by decide)).1, (f0.1 96 (by decide) (by decide)).1]
        exact l1
      refine fI_i (p_isP (N := N) n1 h30 rfl ha hc hne (bq_f (by decide) (p_fixV hF0 (by omega) (by omega) ?_)))
      rw [if_pos hx]
      refine bq_f (nI_nm1 (by omega)) (fI_i ?_)
      generalize hs3 : sI (sL s 115 0 (i2l (nI 1))) 65 0 (nI 0) = s3 at *
      rw [hF0.1, nI_pre (by omega)]
      obtain ⟨kk, hkk⟩ : ∃ k, k = tix F fx fy a c := ⟨_, rfl⟩
      rw [← hkk] at hx hat ⊢
      have e44 : ∀ s4 : gSt, s4.1 65 = (sI s3 65 44 (nI (F - 1))).1 65 → s4.1 65 44 = nI (F - 1) := fun s4 h => by rw [h, sI_get, if_pos ⟨rfl, rfl⟩]
      have c94 : ∀ q, s3.1 94 q = σ.1 94 q := fun q => congrFun (f0.1 94 (by decide) (by decide)).1 q
      have c95 : ∀ q, s3.1 95 q = σ.1 95 q := fun q => congrFun (f0.1 95 (by decide) (by decide)).1 q
      have c96 : ∀ q, s3.1 96 q = σ.1 96 q := fun q => congrFun (f0.1 96 (by decide) (by decide)).1 q
      have hl := l1.2.2 (F - 1) (by omega)
      refine rI_e (e44 _ rfl) (by omega) ?_
      rw [show (sI s3 65 44 (nI (F - 1))).1 94 (F - 1) = nI (fx (F - 1)) from (c94 _).trans hl.1]
      refine wI_i (by omega) (rI_e (e44 _ rfl) (by omega) ?_)
      rw [show (sI (sI s3 65 44 (nI (F - 1))) 94 kk (nI (fx (F - 1)))).1 95 (F - 1) = nI (fy (F - 1)) from (c95 _).trans hl.2.1]
      refine wI_i (by omega) (rI_e (e44 _ rfl) (by omega) ?_)
      rw [show (sI (sI (sI s3 65 44 (nI (F - 1))) 94 kk (nI (fx (F - 1)))) 95 kk (nI (fy (F - 1)))).1 96 (F - 1) = zI (ft (F - 1)) from (c96 _).trans hl.2.2.2.2]
      refine wZ_e (zI_01 _) rfl (by omega) ?_
      obtain ⟨t, ht⟩ : ∃ t, t = sI (sI (sI (sI s3 65 44 (nI (F - 1))) 94 kk (nI (fx (F - 1)))) 95 kk (nI (fy (F - 1)))) 96 kk (zI (ft (F - 1))) := ⟨_, rfl⟩
      rw [← ht]
      have f2 : Fr (30 :: 31 :: 32 :: 94 :: 95 :: 96 :: scrC) (41 :: 42 :: 43 :: 44 :: scrJ) σ t := by
        rw [ht]
        exact ((((f0.mono (by decide) (by decide)).f (by decide)).i (by decide) (by decide)).i (by decide) (by decide)).i (by decide) (by decide)
      have d30 : ∀ i, t.1 30 i = s.1 30 i := fun i => by rw [ht, ← hs3]; rfl
      have d31 : ∀ i, t.1 31 i = s.1 31 i := fun i => by rw [ht, ← hs3]; rfl
      have d32 : ∀ i, t.1 32 i = s.1 32 i := fun i => by rw [ht, ← hs3]; rfl
      have d65 : ∀ i, i ≠ 44 → i ≠ 0 → t.1 65 i = σ.1 65 i := fun i h1 h2 => by
        have e : t.1 65 i = (sI s3 65 44 (nI (F - 1))).1 65 i := by rw [ht]; rfl
        rw [e, sI_get, if_neg (fun q => h1 q.2)]
        exact (f0.2.1 i (by simpa using h2)).1
      have d94 : ∀ q, t.1 94 q = if q = kk then nI (fx (F - 1)) else σ.1 94 q := fun q => by
        have e : t.1 94 q = (sI (sI s3 65 44 (nI (F - 1))) 94 kk (nI (fx (F - 1)))).1 94 q := by rw [ht]; rfl
        rw [e, sI_get]
        have e2 : (sI s3 65 44 (nI (F - 1))).1 94 q = s3.1 94 q := rfl
        rw [e2, c94]; simp
      have d95 : ∀ q, t.1 95 q = if q = kk then nI (fy (F - 1)) else σ.1 95 q := fun q => by
        have e : t.1 95 q = (sI (sI (sI s3 65 44 (nI (F - 1))) 94 kk (nI (fx (F - 1)))) 95 kk (nI (fy (F - 1)))).1 95 q := by rw [ht]; rfl
        rw [e, sI_get]
        have e2 : (sI (sI s3 65 44 (nI (F - 1))) 94 kk (nI (fx (F - 1)))).1 95 q = s3.1 95 q := rfl
        rw [e2, c95]; simp
      have d96 : ∀ q, t.1 96 q = if q = kk then zI (ft (F - 1)) else σ.1 96 q := fun q => by
        rw [ht, sI_get]
        have e2 : (sI (sI (sI s3 65 44 (nI (F - 1))) 94 kk (nI (fx (F - 1)))) 95 kk (nI (fy (F - 1)))).1 96 q = s3.1 96 q := rfl
        rw [e2, c96]; simp
      refine ⟨by rw [ht, ← hs3]; rfl, fun _ => ?_, b, hI.newL f2 hN h30 (most2 := most) (ob2 := ob) (span2 := span) (F2 := F - 1) (fx2 := xat kk (fx (F - 1)) fx) (fy2 := xat kk (fy (F - 1)) fy) (ft2 := xat kk (ft (F - 1)) ft) ⟨⟨?_, by omega, fun q hq => ?_⟩, fun q hq => ?_, uniq_del l3 hx, ⟨by rw [d65 41 (by decide) (by decide)]; exact lm.1, by rw [d30, k2 5 (by decide)]; exact lm.2.1, lm.2.2⟩, ⟨by rw [d65 42 (by decide) (by decide)]; exact lo.1, by rw [d30, k2 6 (by decide)]; exact lo.2.1, lo.2.2⟩, ⟨by rw [d65 43 (by decide) (by decide)]; exact ls.1, by rw [d30, k2 7 (by decide)]; exact ls.2.1, ls.2.2⟩, by rw [d30]; exact k1, fun i j hi hj => ?_⟩⟩
      · rw [ht, ← hs3]; exact sL_out
      · have e : t.1 65 44 = (sI s3 65 44 (nI (F - 1))).1 65 44 := by rw [ht]; rfl
        rw [e, sI_get, if_pos ⟨rfl, rfl⟩]
      · rw [d94, d95, d96]
        by_cases e : q = kk
        · rw [e, if_pos rfl, if_pos rfl, if_pos rfl, xat_at, xat_at, xat_at]
          exact ⟨rfl, rfl, hl.2.2.1, hl.2.2.2.1, rfl⟩
        · rw [if_neg e, if_neg e, if_neg e, xat_ne e, xat_ne e, xat_ne e]
          exact l1.2.2 q (by omega)
      · by_cases e : q = kk
        · rw [e, xat_at, xat_at]; exact l2 (F - 1) (by omega)
        · rw [xat_ne e, xat_ne e]; exact l2 q (by omega)
      · rw [d31, d32, (tie_del l3 hx).1, (tie_del l3 hx).2, rowSet_sp k3 hj, rowSet_sp k4 hj, (l8 i j hi hj).1, (l8 i j hi hj).2]
        have hsp : sp a c i j = sp (fx kk) (fy kk) i j := by
          have h1 : sp a c i j = true ↔ sp (fx kk) (fy kk) i j = true := by rw [sp_iff] at hat ⊢; rw [sp_iff]; omega
          cases x1 : sp a c i j <;> cases x2 : sp (fx kk) (fy kk) i j <;> simp_all
        rw [hsp]
        exact ⟨rfl, rfl⟩
  · exact q_pair_no hN1 h30 E h2 ⟨nI k, h1, fI_i (p_isP_no (N := N) hN h30 rfl k h3 (bq_t rfl (fin.no hI (by omega))))⟩
