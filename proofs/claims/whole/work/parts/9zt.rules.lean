/-! rules -/
theorem CC.rules {b : Bool} {B : Nat → Nat} {n C : Nat} {z : CSt} {u : gSt} (h : CC b B n C z u) (he : cLE z) : rulesAt u (kD b) z.2.1 z.2.2.1 z.2.2.2.2 z.2.2.2.1 z.1.2.2.1 z.1.2.2.2 := by
  obtain ⟨hc, hq, ⟨a0, a1, a2⟩, h16, hst⟩ := h
  refine ⟨a0, a1, a2, fun j hC hj => ?_⟩
  rw [hst] at hj
  exact ⟨hc.2.2.2.2.2.2.2 j hj, he j hj, hq j hj⟩
theorem op_rules {b : Bool} {σ : gSt} (hw : ∀ B n, wbOK b B n) (hI : Inv b σ) (p : Int32) : OKI (fun Q QX s => W_X11_rules b p Q QX s) (W_X12_rules p) cdA σ := by
  have hI0 := hI
  obtain ⟨hR, N, bk, nm, td, yr, fa, C, kind, st, cd, op, num, T, ta, tb, tw, most, ob, span, F, fx, fy, ft, h, m, kz, kh, tp, R, hs, hE, hRu, hT, hL, hP, hH, hD, hG⟩ := hI
  have h30 := hE.1.2.1
  obtain ⟨d1, d2, d3, d4, d5, d6⟩ := hD
  have bad : fin (nI 1) (lN 0) (sI (sI σ 65 0 (nI 0)) 65 0 (nI 1)) := fin.no hI0 (.inl rfl)
  unfold OKI W_X11_rules
  refine q_within ?_
  rw [d1]
  rcases in_or p tp (by omega) with ⟨n, hn, rfl⟩ | hp
  · rw [within_yes hn (by omega)]
    have hBC : bytC σ (fun i => nt (σ.1 12 i)) n := ⟨by omega, fun i hi => by
      obtain ⟨v, v1, v2⟩ := (d4 i (by omega)).2
      show σ.1 12 i = nI (nt (σ.1 12 i)) ∧ nt (σ.1 12 i) < 256
      rw [v2, nt_nI (by omega)]
      exact ⟨rfl, v1⟩⟩
    obtain ⟨B, hB⟩ : ∃ B, B = fun i => nt (σ.1 12 i) := ⟨_, rfl⟩
    rw [← hB] at hBC
    have h73 : ∀ i, i < n → σ.1 73 i = nI (B i) ∧ B i < 256 := fun i hi => by rw [← (d4 i (by omega)).1]; exact hBC.2 i hi
    refine q_refuse (by decide) (p_readC hR hBC (hw B n) (fun e he u hu u40 u41 u42 => bq_t rfl ?_) (fun z C2 hz u hu u40 hCC => bq_f (by decide) ?_))
    · rintro s2 rfl
      rw [u41]
      have fu : Fr [4, kD b, kD b + 1, kD b + 2, kD b + 3, kD b + 4, kD b + 5, 13, 14, 15, 115] [] σ (sL u 115 0 (i2l (nI e.1 - nI 10))) := ((Fr.of (js := []) hu (by cases b <;> decide)).mono (by simp) (by simp)).l (by simp) (by decide)
      refine p_mrules (B := B) (tp := tp) (by rw [(fu.2.1 9 (by simp)).1]; exact d2) d3 hn (fun i hi => by rw [(fu.1 73 (by decide) (by cases b <;> decide)).1]; exact h73 i hi) (fun e2 he2 v hv v0 v9 v18 => ?_) (fun z2 hz2 => by rw [he] at hz2; cases hz2)
      rw [he] at he2
      cases he2
      have fT : Fr [4, kD b, kD b + 1, kD b + 2, kD b + 3, kD b + 4, kD b + 5, 13, 14, 15, 115, 80, 81, 82, 83, 84, 85] [0, 9, 10, 11, 12, 13, 14, 15, 17, 18] σ v := (fu.mono (by simp) (by simp)).trans (hv.mono (by simp) (by simp))
      have h4 : v.1 4 = u.1 4 := (hv.1 4 (by decide) (by decide)).1
      refine ⟨v0, fun _ => ?_, b, fT.2.2.trans hR, N, bk, nm, td, yr, fa, C, kind, st, cd, op, num, T, ta, tb, tw, most, ob, span, F, fx, fy, ft, h, m, kz, kh, 0, R, hs, hE.fr fT (by cases b <;> decide) (by decide), hRu.fr fT (by cases b <;> decide) (by decide), hT.fr fT (by cases b <;> decide) (by decide), hL.fr fT (by cases b <;> decide) (by decide), hP.fr fT (by cases b <;> decide) (by decide), hH.fr fT (by cases b <;> decide) (by decide), ?_, hG.fr fT (by cases b <;> decide) (by decide)⟩
      · rw [(hv.1 115 (by decide) (by decide)).2]
        exact sL_out
      · refine ⟨by rw [h4]; exact u40, v9, by omega, fun i hi => absurd hi (Nat.not_lt_zero i), ?_, ?_⟩
        · rw [h4, u42, v18]
        · rw [(fT.1 56 (by decide) (by cases b <;> decide)).1]; exact d6
    · have hOK := (cOK_rd 17 z0P z cOK_z0 hz)
      have hLE := (cLE_rd 17 z0P z cLE_z0 hz)
      have hlen : z.1.2.1 ≤ 400 := by
        obtain ⟨hc, _⟩ := hCC
        obtain ⟨hT2, ⟨h42, _⟩, _, _, hc, _, hk, _⟩ := hc
        have := hT2.1
        omega
      have hrOK := hOK.ok hlen
      have fu : Fr [4, kD b, kD b + 1, kD b + 2, kD b + 3, kD b + 4, kD b + 5, 13, 14, 15] [] σ u := Fr.of (js := []) hu (by cases b <;> decide)
      have hkR : kR (!b) = kD b := by cases b <;> rfl
      have hkr := kD_or (b := b)
      have hR1 : (swR b u).2.2 = gRf (!b) := swR_ref (hu.2.trans hR)
      have hE1 : invE (swR b u) N bk nm td yr fa := (hE.fr fu (by cases b <;> decide) (by decide) : invE u N bk nm td yr fa)
      have hT1 : invT (swR b u) N T ta tb tw := (hT.fr fu (by cases b <;> decide) (by decide) : invT u N T ta tb tw)
      have hL1 : invL (swR b u) N most ob span F fx fy ft := (hL.fr fu (by cases b <;> decide) (by decide) : invL u N most ob span F fx fy ft)
      have hH1 : invH (swR b u) N h m kz kh := (hH.fr fu (by cases b <;> decide) (by decide) : invH u N h m kz kh)
      have hP1 : invP (swR b u) N bk nm td yr fa C kind st cd op num T ta tb tw := (hP.fr fu (by cases b <;> decide) (by decide) : invP u N bk nm td yr fa C kind st cd op num T ta tb tw)
      have hr1 : rulesAt (swR b u) (kR (!b)) z.2.1 z.2.2.1 z.2.2.2.2 z.2.2.2.1 z.1.2.2.1 z.1.2.2.2 := by
        rw [hkR]
        exact (hCC.rules hLE : rulesAt u (kD b) z.2.1 z.2.2.1 z.2.2.2.2 z.2.2.2.1 z.1.2.2.1 z.1.2.2.2)
      obtain ⟨w, hw⟩ : ∃ w, w = swR b u := ⟨_, rfl⟩
      have w1e : w.1 = u.1 := by rw [hw]; rfl
      have w2e : w.2.1 = u.2.1 := by rw [hw]; rfl
      rw [← hw] at hR1 hE1 hT1 hL1 hH1 hP1 hr1 ⊢
      refine ⟨_, fun o l => s_judgeFrom hR1 hE1.1 hr1 hrOK 0 (Nat.zero_le _), fun r s7 hp => ?_⟩
      obtain ⟨rfl, hO7, k1, k2⟩ := hp
      refine ⟨rfl, hO7.2, ⟨_, fun o l => s_wipe (hO7.2.trans hR1), fun r s8 hp => ?_⟩⟩
      obtain ⟨rfl, hO8, w1, w2, w4, w3⟩ := hp
      refine ⟨rfl, hO8.2, ?_⟩
      rw [hkR] at hO7 k1 hr1
      have f7 : Fr [24, 25, 26, 27, 29, kD b, kD b + 6] [] w s7 := Fr.of (js := []) hO7 (by simp; omega)
      have f8 : Fr [42, 43] [] s7 s8 := Fr.of (js := []) hO8 (by decide)
      have hc0 : s8.1 (kD b) 0 = nI z.2.1 := by
        rw [(f8.1 (kD b) (by omega) (by simp; omega)).1, k1 0 (by decide) (by decide) (by decide) (by decide)]
        exact hr1.1
      rw [hc0]
      rintro s2 rfl
      have fs : Fr [24, 25, 26, 27, 29, kD b, kD b + 6, 42, 43, 115] [] w (sL s8 115 0 (i2l (nI z.2.1))) := (((f7.mono (by simp) (by simp)).trans (f8.mono (by simp) (by simp))).l (by simp) (by decide))
      refine p_mrules (B := B) (tp := tp) ?_ d3 hn (fun i hi => ?_) (fun e2 he2 => by rw [hz] at he2; cases he2) (fun z2 hz2 _ v hv v0 v9 v18 v56 v57 v60 hM => ?_)
      · rw [(fs.2.1 9 (by simp)).1, w1e, (fu.2.1 9 (by simp)).1]; exact d2
      · rw [(fs.1 73 (by decide) (by simp; omega)).1, w1e, (fu.1 73 (by decide) (by cases b <;> decide)).1]; exact h73 i hi
      · rw [hz] at hz2
        cases hz2
        have hv8 : Fr [115, 74, 75, 76, 77, 78, 79, 80, 81, 82, 83, 84, 85] [0, 9, 10, 11, 12, 13, 14, 15, 16, 17, 18, 56, 57, 60] s8 v := ((Fr.rf (ks := [115]) (js := [])).l (by simp) (by decide) |>.mono (by simp) (by simp)).trans (hv.mono (by simp) (by simp))
        have gT : Fr [24, 25, 26, 27, 29, kD b, kD b + 6, 42, 43, 115, 74, 75, 76, 77, 78, 79, 80, 81, 82, 83, 84, 85] [0, 9, 10, 11, 12, 13, 14, 15, 16, 17, 18, 56, 57, 60] w v := (fs.mono (by simp) (by simp)).trans (hv.mono (by simp) (by simp))
        have h7v : Fr [42, 43, 115, 74, 75, 76, 77, 78, 79, 80, 81, 82, 83, 84, 85] [0, 9, 10, 11, 12, 13, 14, 15, 16, 17, 18, 56, 57, 60] s7 v := (f8.mono (by simp) (by simp)).trans (hv8.mono (by simp) (by simp))
        have h4 : v.1 4 = u.1 4 := by rw [(gT.1 4 (by decide) (by simp; omega)).1, w1e]
        refine ⟨v0, fun _ => ?_, !b, gT.2.2.trans hR1, N, bk, nm, td, yr, fa, z.2.1, z.2.2.1, z.2.2.2.2, z.2.2.2.1, z.1.2.2.1, z.1.2.2.2, T, ta, tb, tw, most, ob, span, F, fx, fy, ft, h, m, kz, kh, 0, 0, false, hE1.fr gT (by cases b <;> decide) (by decide), ⟨?_, hM, hrOK⟩, hT1.fr gT (by cases b <;> decide) (by decide), hL1.fr gT (by cases b <;> decide) (by decide), ?_, hH1.fr gT (by cases b <;> decide) (by decide), ?_, (?_ : invG v N 0 false)⟩
        · rw [(hv.1 115 (by decide) (by decide)).2]
          exact sL_out
        · rw [hkR]
          have e0 : v.1 (kD b) 0 = w.1 (kD b) 0 := by
            rw [(h7v.1 (kD b) (by omega) (by simp; omega)).1]
            exact k1 0 (by decide) (by decide) (by decide) (by decide)
          have ek : ∀ k, 1 ≤ k → k ≤ 5 → v.1 (kD b + k) = w.1 (kD b + k) := fun k q1 q2 => (gT.1 (kD b + k) (by omega) (by simp; omega)).1
          exact hr1.off e0 ek
        · have hj : invP s7 N bk nm td yr fa z.2.1 z.2.2.1 z.2.2.2.2 z.2.2.2.1 z.1.2.2.1 z.1.2.2.2 T ta tb tw := by
            refine invP_judged h30 k2 (fun i j hi hj => hT1.2.2.2.2 i j hi hj) (f7.1 3 (by decide) (by simp; omega)).1 hP1.2 (fun i j hji hi h => ?_)
            have hx := h.resolve_left (by omega)
            obtain ⟨g, hg, hcc⟩ := hP1.1 i j hji hi
            refine ⟨g, fun z => absurd hx z, ?_⟩
            unfold wgt at hcc ⊢
            rw [if_pos hx, decide_eq_true hx] at hcc ⊢
            exact hcc
          exact hj.fr h7v (by decide) (by decide)
        · refine ⟨by rw [h4]; exact u40, v9, by omega, fun i hi => absurd hi (Nat.not_lt_zero i), ?_, ?_⟩
          · rw [h4, v18]; exact hCC.1.2.1.2
          · rw [(gT.1 56 (by decide) (by simp; omega)).1, w1e, (fu.1 56 (by decide) (by cases b <;> decide)).1]; exact d6
        · have x42 : s7.1 42 = σ.1 42 := by rw [(f7.1 42 (by decide) (by simp; omega)).1, w1e, (fu.1 42 (by decide) (by cases b <;> decide)).1]
          have x43 : s7.1 43 = σ.1 43 := by rw [(f7.1 43 (by decide) (by simp; omega)).1, w1e, (fu.1 43 (by decide) (by cases b <;> decide)).1]
          exact invG_wiped hG x42 x43 w1 w2 w3 (hv8.1 42 (by decide) (by decide)).1 (hv8.1 42 (by decide) (by decide)).2 (hv8.1 43 (by decide) (by decide)).1 v56 v57 v60
  · rw [within_no (by omega) hp]
    refine q_refuse_no rfl ⟨nI 1, ⟨rfl, rfl⟩, ?_⟩
    unfold W_X12_rules
    refine fI_i ?_
    intro J3 hJ3 J54 hJ54
    have e9 : (sI σ 65 0 (nI 0)).1 65 9 = nI tp := by rw [sI_get, if_neg (fun w => absurd w.2 (by decide))]; exact d2
    rw [e9]
    have no : J54 := hJ54 (hJ3 _ (p_may_bad rfl (by decide) (by rw [sI_get, if_pos ⟨rfl, rfl⟩]) (bq_t rfl bad)))
    refine ⟨fun _ => no, fun q1 => ⟨fun _ => no, fun q2 => ?_⟩⟩
    rcases hp with hp | hp
    · exact absurd hp q1
    · obtain ⟨j, hj, rfl⟩ := nI_of q1
      rw [nI_leI (by omega) hj] at hp
      rw [nI_ltI (by omega) hj] at q2
      omega
