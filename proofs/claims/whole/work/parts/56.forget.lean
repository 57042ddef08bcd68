/-! forget -/
def KSf (b : Bool) : List Nat := [16, 28, 24, 25, 26, 27, 29, kR b, kR b + 6, 42, 43, 87, 88, 89, 115]
theorem op_forget {b : Bool} {σ : gSt} (hI : Inv b σ) (p r : Int32) : OKI (fun Q QX s => W_X11_forget b p r Q QX s) (W_X12_forget p r) cdP σ := by
  have hI0 := hI
  obtain ⟨hR, N, bk, nm, td, yr, fa, C, kind, st, cd, op, num, T, ta, tb, tw, most, ob, span, F, fx, fy, ft, h, m, kz, kh, tp, R, hs, hE, hRu, hT, hL, hP, hH, hD, hG⟩ := hI
  have h30 := hE.1.2.1
  have hN := hE.2.1.1
  have hN1 := hE.1.1
  unfold OKI W_X11_forget
  rcases pair_or p r N (by omega) with ⟨a, c, ha, hc, hne, rfl, rfl⟩ | ⟨E, k, h1, h2, h3⟩
  · obtain ⟨t1, t2, t3, t4, t5⟩ := hT
    have t60 := t1.2.1
    refine q_pair hN1 h30 ha hc hne ⟨_, fun o l => s_isByHand hR a c (by omega) (by omega), ?_⟩
    rw [t5 a c (by omega) (by omega)]
    refine br_z (fun hf => ?_) (fun ht => ?_)
    · have hnx : ¬ tix T ta tb a c < T := of_decide_eq_false hf
      rintro s2 rfl
      have hT0 : toldM (sI (sL σ 115 0 (i2l (nI 0))) 65 0 (nI 0)) T ta tb tw := by
        unfold toldM at t1 ⊢
        exact t1
      refine fI_i (p_isP (N := N) hN h30 rfl ha hc hne (bq_f (by decide) (p_toldV hT0 (by omega) (by omega) ?_)))
      rw [if_neg hnx]
      exact bq_t rfl (fin.scr0 hI0)
    · have hx : tix T ta tb a c < T := of_decide_eq_true ht
      have hat := tix_at hx
      refine ⟨_, fun o l => s_forget hR hE.1 hRu.1 hRu.2.2 a c ha hc T (by omega) t2, fun r s hp => ?_⟩
      obtain ⟨rfl, hO, k1, k2, k3, k4, k5⟩ := hp
      refine ⟨rfl, hO.2, ⟨_, fun o l => s_wipe (hO.2.trans hR), fun r s8 hp => ?_⟩⟩
      obtain ⟨rfl, hO8, w1, w2, w4, w3⟩ := hp
      refine ⟨rfl, hO8.2, ?_⟩
      rintro s2 rfl
      have hkb : kR b = 5 ∨ kR b = 17 := by cases b <;> simp [kR]
      have f8 : Fr [16, 28, 24, 25, 26, 27, 29, kR b, kR b + 6, 42, 43] [] σ s8 := ((Fr.of (js := []) hO (by cases b <;> decide)).mono (by simp) (by simp)).trans ((Fr.of (js := []) hO8 (by decide)).mono (by simp) (by simp))
      have f01 : Fr [16, 28, 24, 25, 26, 27, 29, kR b, kR b + 6, 42, 43, 115] [0] σ (sI (sL s8 115 0 (i2l (nI 1))) 65 0 (nI 0)) := ((f8.mono (ks' := [16, 28, 24, 25, 26, 27, 29, kR b, kR b + 6, 42, 43, 115]) (js' := [0]) (by cases b <;> decide) (by simp)).l (by simp) (by decide)).f (by decide)
      have n1 : (sI (sL s8 115 0 (i2l (nI 1))) 65 0 (nI 0)).1 65 1 = nI N := (f01.2.1 1 (by decide)).1.trans hN
      have hT0 : toldM (sI (sL s8 115 0 (i2l (nI 1))) 65 0 (nI 0)) T ta tb tw := by
        unfold toldM
        rw [(f01.2.1 33 (by decide)).1, (f01.1 87 (by decide) (by simp; omega)).1, (f01.1 88 (by decide) (by simp; omega)).1, (f01.1 89 (by decide) (by simp; omega)).1]
        exact t1
      refine fI_i (p_isP (N := N) n1 h30 rfl ha hc hne (bq_f (by decide) (p_toldV hT0 (by omega) (by omega) ?_)))
      rw [if_pos hx]
      refine bq_f (nI_nm1 (by omega)) (fI_i ?_)
      generalize hs3 : sI (sL s8 115 0 (i2l (nI 1))) 65 0 (nI 0) = s3 at *
      rw [hT0.1, nI_pre (by omega)]
      obtain ⟨kk, hkk⟩ : ∃ k, k = tix T ta tb a c := ⟨_, rfl⟩
      rw [← hkk] at hx hat ⊢
      have e33 : ∀ s4 : gSt, s4.1 65 = (sI s3 65 33 (nI (T - 1))).1 65 → s4.1 65 33 = nI (T - 1) := fun s4 h => by rw [h, sI_get, if_pos ⟨rfl, rfl⟩]
      have c87 : ∀ q, s3.1 87 q = σ.1 87 q := fun q => congrFun (f01.1 87 (by decide) (by simp; omega)).1 q
      have c88 : ∀ q, s3.1 88 q = σ.1 88 q := fun q => congrFun (f01.1 88 (by decide) (by simp; omega)).1 q
      have c89 : ∀ q, s3.1 89 q = σ.1 89 q := fun q => congrFun (f01.1 89 (by decide) (by simp; omega)).1 q
      have hl := t1.2.2 (T - 1) (by omega)
      refine rI_e (e33 _ rfl) (by omega) ?_
      rw [show (sI s3 65 33 (nI (T - 1))).1 87 (T - 1) = nI (ta (T - 1)) from (c87 _).trans hl.1]
      refine wI_i (by omega) (rI_e (e33 _ rfl) (by omega) ?_)
      rw [show (sI (sI s3 65 33 (nI (T - 1))) 87 kk (nI (ta (T - 1)))).1 88 (T - 1) = nI (tb (T - 1)) from (c88 _).trans hl.2.1]
      refine wI_i (by omega) (rI_e (e33 _ rfl) (by omega) ?_)
      rw [show (sI (sI (sI s3 65 33 (nI (T - 1))) 87 kk (nI (ta (T - 1)))) 88 kk (nI (tb (T - 1)))).1 89 (T - 1) = tw (T - 1) from (c89 _).trans hl.2.2.2.2]
      refine wI_i (by omega) (p_untell ?_)
      obtain ⟨s5, hs5⟩ : ∃ t, t = sI (sI (sI (sI s3 65 33 (nI (T - 1))) 87 kk (nI (ta (T - 1)))) 88 kk (nI (tb (T - 1)))) 89 kk (tw (T - 1)) := ⟨_, rfl⟩
      rw [← hs5]
      obtain ⟨t, ht⟩ : ∃ t, t = sI (sL (sI s5 65 56 (nI 0)) 65 57 (lN 0)) 65 60 (nI 0) := ⟨_, rfl⟩
      rw [← ht]
      have f5 : Fr (KSf b) [0, 33] σ s5 := by
        rw [hs5]
        have g0 : Fr (KSf b) [0, 33] σ s3 := f01.mono (by cases b <;> decide) (by decide)
        exact ((((g0.f (by decide)).i (by cases b <;> decide) (by decide)).i (by cases b <;> decide) (by decide)).i (by cases b <;> decide) (by decide))
      have fT : Fr (KSf b) [0, 33, 56, 57, 60] σ t := by
        rw [ht]
        exact ((((f5.mono (js' := [0, 33, 56, 57, 60]) (by simp) (by simp)).f (by decide)).g (by decide)).f (by decide))
      have tk : ∀ i, i ≠ 65 → t.1 i = s5.1 i ∧ t.2.1 i = s5.2.1 i := fun i hi => by
        refine ⟨?_, ?_⟩
        · rw [ht]; funext x
          rw [sI_get, if_neg (fun q => hi q.1)]
          show (sI s5 65 56 (nI 0)).1 i x = _
          rw [sI_get, if_neg (fun q => hi q.1)]
        · rw [ht]
          show (sL (sI s5 65 56 (nI 0)) 65 57 (lN 0)).2.1 i = _
          simp only [sL, if_neg hi]; rfl
      have t65 : ∀ i, i ≠ 56 → i ≠ 60 → t.1 65 i = s5.1 65 i := fun i a1 a2 => by
        rw [ht, sI_get, if_neg (fun q => a2 q.2)]
        show (sI s5 65 56 (nI 0)).1 65 i = _
        rw [sI_get, if_neg (fun q => a1 q.2)]
      have hoff : ∀ i, i ∉ [65, 87, 88, 89, 115] → t.1 i = s8.1 i ∧ t.2.1 i = s8.2.1 i := fun i hi => by
        simp only [List.mem_cons, List.not_mem_nil, or_false, not_or] at hi
        obtain ⟨i1, i2, i3, i4, i5⟩ := hi
        refine ⟨(tk i i1).1.trans ?_, (tk i i1).2.trans ?_⟩
        · rw [hs5, ← hs3]; funext x
          rw [sI_get, if_neg (fun q => i4 q.1), sI_get, if_neg (fun q => i3 q.1), sI_get, if_neg (fun q => i2 q.1), sI_get, if_neg (fun q => i1 q.1), sI_get, if_neg (fun q => i1 q.1)]; rfl
        · rw [hs5, ← hs3]
          show (sL s8 115 0 (i2l (nI 1))).2.1 i = _
          simp only [sL, if_neg i5]
      have d87 : ∀ q, t.1 87 q = if q = kk then nI (ta (T - 1)) else σ.1 87 q := fun q => by
        rw [(tk 87 (by decide)).1]
        have e : s5.1 87 q = (sI (sI s3 65 33 (nI (T - 1))) 87 kk (nI (ta (T - 1)))).1 87 q := by rw [hs5]; rfl
        rw [e, sI_get]
        have e2 : (sI s3 65 33 (nI (T - 1))).1 87 q = s3.1 87 q := rfl
        rw [e2, c87]; simp
      have d88 : ∀ q, t.1 88 q = if q = kk then nI (tb (T - 1)) else σ.1 88 q := fun q => by
        rw [(tk 88 (by decide)).1]
        have e : s5.1 88 q = (sI (sI (sI s3 65 33 (nI (T - 1))) 87 kk (nI (ta (T - 1)))) 88 kk (nI (tb (T - 1)))).1 88 q := by rw [hs5]; rfl
        rw [e, sI_get]
        have e2 : (sI (sI s3 65 33 (nI (T - 1))) 87 kk (nI (ta (T - 1)))).1 88 q = s3.1 88 q := rfl
        rw [e2, c88]; simp
      have d89 : ∀ q, t.1 89 q = if q = kk then tw (T - 1) else σ.1 89 q := fun q => by
        rw [(tk 89 (by decide)).1, hs5, sI_get]
        have e2 : (sI (sI (sI s3 65 33 (nI (T - 1))) 87 kk (nI (ta (T - 1)))) 88 kk (nI (tb (T - 1)))).1 89 q = s3.1 89 q := rfl
        rw [e2, c89]; simp
      have h56 : t.1 65 56 = nI 0 := by
        rw [ht, sI_get, if_neg (by decide)]
        show (sI s5 65 56 (nI 0)).1 65 56 = _
        rw [sI_get, if_pos ⟨rfl, rfl⟩]
      have h57 : t.2.1 65 57 = lN 0 := by rw [ht]; show (sL (sI s5 65 56 (nI 0)) 65 57 (lN 0)).2.1 65 57 = _; simp [sL, vp_updL]
      have h60 : t.1 65 60 = nI 0 := by rw [ht, sI_get, if_pos ⟨rfl, rfl⟩]
      have x0 : t.1 65 0 = nI 0 := by
        rw [t65 0 (by decide) (by decide), hs5]
        show (sI s3 65 33 (nI (T - 1))).1 65 0 = _
        rw [sI_get, if_neg (by decide), ← hs3, sI_get, if_pos ⟨rfl, rfl⟩]
      have x115 : t.2.1 115 0 = i2l (nI 1) := by
        rw [(tk 115 (by decide)).2, hs5, ← hs3]
        exact sL_out
      have x33 : t.1 65 33 = nI (T - 1) := by
        rw [t65 33 (by decide) (by decide), hs5]
        exact e33 _ rfl
      have f3 : t.1 3 = σ.1 3 := (fT.1 3 (by decide) (by simp [KSf]; omega)).1
      refine ⟨x0, fun _ => x115, b, fT.2.2.trans hR, N, bk, nm, td, yr, fa, C, kind, st, cd, op, num, T - 1, xat kk (ta (T - 1)) ta, xat kk (tb (T - 1)) tb, xat kk (tw (T - 1)) tw, most, ob, span, F, fx, fy, ft, h, m, kz, kh, tp, 0, false, hE.fr fT (by cases b <;> decide) (by decide), invR_keep hRu ?_ ?_ ((fT.2.1 16 (by decide)).1) (fun k hk => (fT.1 k (by simp at hk; omega) (by simp at hk; simp [KSf]; omega)).1), (?_ : invT t N (T - 1) (xat kk (ta (T - 1)) ta) (xat kk (tb (T - 1)) tb) (xat kk (tw (T - 1)) tw)), hL.fr fT (by cases b <;> decide) (by decide), ?_, hH.fr fT (by cases b <;> decide) (by decide), hD.fr fT (by cases b <;> decide) (by decide), (?_ : invG t N 0 false)⟩
      · rw [(hoff (kR b) (by cases b <;> decide)).1, (hO8.1 (kR b) (by cases b <;> decide)).1]
        exact k3 0 (by decide) (by decide) (by decide) (by decide)
      · intro k hk
        refine (fT.1 (kR b + k) (by simp at hk; omega) (by simp at hk; simp [KSf]; omega)).1
      · refine ⟨⟨x33, by omega, fun q hq => ?_⟩, by rw [(hoff 16 (by decide)).1, (hO8.1 16 (by decide)).1]; exact k1, fun q hq => ?_, uniq_del t4 hx, fun i j hi hj => ?_⟩
        · rw [d87, d88, d89]
          by_cases e : q = kk
          · rw [if_pos e, if_pos e, if_pos e, e, xat_at, xat_at, xat_at]; exact ⟨rfl, rfl, hl.2.2.1, hl.2.2.2.1, rfl⟩
          · rw [if_neg e, if_neg e, if_neg e, xat_ne e, xat_ne e, xat_ne e]; exact t1.2.2 q (by omega)
        · by_cases e : q = kk
          · rw [e, xat_at, xat_at, xat_at]; exact t3 (T - 1) (by omega)
          · rw [xat_ne e, xat_ne e, xat_ne e]; exact t3 q (by omega)
        · rw [(hoff 28 (by decide)).1, (hO8.1 28 (by decide)).1, rowSet_sp k4 hj, t5 i j hi hj]
          by_cases e : sp a c i j = true
          · rw [if_pos e, decide_eq_false (del_hit t4 hx (by rw [sp_eq hat]; exact e))]
          · rw [if_neg e]
            exact decide_eq_decide.mpr (del_other tw t4 hx (by rw [sp_eq hat]; exact e)).1.symm
      · have q24 : t.1 24 = s.1 24 := (hoff 24 (by decide)).1.trans (hO8.1 24 (by decide)).1
        have q25 : t.1 25 = s.1 25 := (hoff 25 (by decide)).1.trans (hO8.1 25 (by decide)).1
        have q26 : t.1 26 = s.1 26 := (hoff 26 (by decide)).1.trans (hO8.1 26 (by decide)).1
        have q27 : t.1 27 = s.1 27 := (hoff 27 (by decide)).1.trans (hO8.1 27 (by decide)).1
        refine ⟨?_, ((k5.padd h30 ha hc hne).z hP.2).eq q27 q24⟩
        intro i j hji hi
        rw [f3]
        unfold cachedAt
        rw [q24, q25, q26, q27]
        by_cases e : sp a c i j = true
        · have hn := del_hit (ta := ta) (tb := tb) t4 hx (a := i) (c := j) (by rw [sp_eq hat]; exact e)
          have hcc := k5.hit (by omega) (by omega) e
          have ef : fct (σ.1 3) bk nm td yr fa a c = fct (σ.1 3) bk nm td yr fa i j := by
            rw [sp_iff] at e
            rcases e with ⟨rfl, rfl⟩ | ⟨rfl, rfl⟩
            · rfl
            · exact hE.symm ha hc
          rw [ef] at hcc
          obtain ⟨r1, r2, r3⟩ := ruled_wgt (Fc := fct (σ.1 3) bk nm td yr fa i j) (num := num) (kind := kind) (st := st) (cd := cd) (op := op) (C := C) (tw := xat kk (tw (T - 1)) tw) hn
          rw [r1, r2, r3] at hcc
          exact ⟨_, fun _ => rfl, hcc⟩
        · obtain ⟨g, hg, hcc⟩ := hP.1 i j hji hi
          obtain ⟨o1, o2⟩ := del_other (a := i) (c := j) tw t4 hx (by rw [sp_eq hat]; exact e)
          have := k5.other (by omega) (by omega) (by omega) (by omega) e hcc
          refine ⟨g, fun hz => hg (fun z => hz (o1.mpr z)), ?_⟩
          unfold wgt at this ⊢
          by_cases hij : tix T ta tb i j < T
          · rw [if_pos (o1.mpr hij), o2 hij, decide_eq_true (o1.mpr hij)]
            rw [if_pos hij, decide_eq_true hij] at this
            exact this
          · have hij2 := fun z => hij (o1.mp z)
            rw [if_neg hij2, decide_eq_false hij2]
            rw [if_neg hij, decide_eq_false hij] at this
            exact this
      · exact invG_wiped hG (hO.1 42 (by cases b <;> decide)).1 (hO.1 43 (by cases b <;> decide)).1 w1 w2 w3 (hoff 42 (by decide)).1 (hoff 42 (by decide)).2 (hoff 43 (by decide)).1 h56 h57 h60
  · exact q_pair_no hN1 h30 E h2 ⟨nI k, h1, fI_i (p_isP_no (N := N) hN h30 rfl k h3 (bq_t rfl (fin.no hI0 (by omega))))⟩
