/-! like -/
def KSl (b : Bool) : List Nat := [3, 24, 25, 26, 27, 29, kR b, kR b + 6, 42, 43, 72, 115]
theorem op_like {b : Bool} {σ : gSt} (hI : Inv b σ) (p r v : Int32) : OKI (fun Q QX s => W_X11_like b p r v Q QX s) (W_X12_like p r v) cdA σ := by
  have hI0 := hI
  obtain ⟨hR, N, bk, nm, td, yr, fa, C, kind, st, cd, op, num, T, ta, tb, tw, most, ob, span, F, fx, fy, ft, h, m, kz, kh, tp, R, hs, hE, hRu, hT, hL, hP, hH, hD, hG⟩ := hI
  have h30 := hE.1.2.1
  have hkb : kR b = 5 ∨ kR b = 17 := by cases b <;> simp [kR]
  unfold OKI W_X11_like
  have bad : fin (nI 1) (lN 0) (sI (sI σ 65 0 (nI 0)) 65 0 (nI 1)) := fin.no hI0 (.inl rfl)
  rcases in_or p 15 (by decide) with ⟨a, ha, rfl⟩ | hp
  · refine q_within ?_
    rw [within_yes ha (by decide)]
    refine q_refuse (by decide) (q_within ?_)
    rcases in_or r 15 (by decide) with ⟨c, hc, rfl⟩ | hr
    · rw [within_yes hc (by decide)]
      refine q_refuse (by decide) (q_within ?_)
      rcases in_or v 100 (by decide) with ⟨e, he, rfl⟩ | hv
      · rw [within_yes he (by decide)]
        refine q_refuse (by decide) (br_eq (by omega) (by omega) (fun hac => ?_) (fun hac => ?_))
        · rintro s2 rfl
          refine fI_i (p_within ?_)
          rw [within_yes ha (by decide)]
          intro J4 hJ4 J13 hJ13
          refine bq_f (by decide) (p_within ?_)
          rw [within_yes hc (by decide)]
          refine bq_f (by decide) (p_within ?_)
          rw [within_yes he (by decide)]
          exact bq_f (by decide) (hJ4 _ (p_may_ok (by decide) rfl (bq_f (by decide) (bq_t (by rw [hac]) (fin.scr0 hI0)))))
        · refine ⟨_, fun o l => s_setLikeness hR a c (nI e) (by omega) (by omega), fun r s6 hp => ?_⟩
          obtain ⟨x, rfl, hx, hO6, h3⟩ := hp
          refine ⟨_, rfl, hO6.2, ?_⟩
          refine ⟨_, fun o l => s_judgeFrom (hO6.2.trans hR) (hE.1.off hO6 (by decide) (by decide)) (hRu.1.off (by rw [(hO6.1 (kR b) (by simp; omega)).1]) (fun j q1 q2 => (hO6.1 _ (by simp; omega)).1)) hRu.2.2 0 (Nat.zero_le _), fun r s7 hp => ?_⟩
          obtain ⟨rfl, hO7, k1, k2⟩ := hp
          refine ⟨rfl, hO7.2, ⟨_, fun o l => s_wipe (hO7.2.trans (hO6.2.trans hR)), fun r s8 hp => ?_⟩⟩
          obtain ⟨rfl, hO8, w1, w2, w4, w3⟩ := hp
          refine ⟨rfl, hO8.2, ?_⟩
          rintro s2 rfl
          obtain ⟨s3, hs3⟩ : ∃ t, t = sI (sL s8 115 0 (i2l x)) 65 0 (nI 0) := ⟨_, rfl⟩
          refine fI_i ?_
          rw [← hs3]
          have e0 : s3.1 65 0 = nI 0 := by rw [hs3, sI_get, if_pos ⟨rfl, rfl⟩]
          have e1 : nI 16 * nI a + nI c = nI (16 * a + c) := by rw [nI_mul, nI_add]
          have e2 : nI 16 * nI c + nI a = nI (16 * c + a) := by rw [nI_mul, nI_add]
          refine p_within ?_
          rw [within_yes ha (by decide)]
          intro J4 hJ4 J13 hJ13
          refine bq_f (by decide) (p_within ?_)
          rw [within_yes hc (by decide)]
          refine bq_f (by decide) (p_within ?_)
          rw [within_yes he (by decide)]
          refine bq_f (by decide) (hJ4 _ (p_may_ok (by decide) e0 (bq_f (by decide) (bq_f (fun h => hac ((nI_eq (by omega) (by omega)).mp h)) (rI_e e1 (by omega) (wI_e e1 (by omega) (wI_e e2 (by omega) (p_untell ?_))))))))
          obtain ⟨s5, hs5⟩ : ∃ t, t = sI (sI s3 72 (16 * a + c) (nI e)) 72 (16 * c + a) (nI e) := ⟨_, rfl⟩
          rw [← hs5]
          obtain ⟨t, ht⟩ : ∃ t, t = sI (sL (sI s5 65 56 (nI 0)) 65 57 (lN 0)) 65 60 (nI 0) := ⟨_, rfl⟩
          rw [← ht]
          have g8 : Fr [42, 43, 72, 115] [0] s7 s3 := by
            rw [hs3]
            exact ((((Fr.of (js := []) hO8 (by decide)).mono (by simp) (by simp)).l (by simp) (by decide)).f (by simp))
          have gT : Fr [42, 43, 72, 115] [0, 56, 57, 60] s7 t := by
            rw [ht, hs5]
            exact (((((g8.mono (by simp) (by simp)).i (by simp) (by decide)).i (by simp) (by decide)).f (by simp)).g (by simp)).f (by simp)
          have g7 : Fr [3, 24, 25, 26, 27, 29, kR b, kR b + 6] [] σ s7 := ((Fr.of (js := []) hO6 (by decide)).mono (by simp) (by simp)).trans ((Fr.of (js := []) hO7 (by simp; omega)).mono (by simp) (by simp))
          have fT : Fr (KSl b) [0, 56, 57, 60] σ t := (g7.mono (by simp [KSl]) (by simp)).trans (gT.mono (by simp [KSl]) (by simp))
          have f3 : Fr (KSl b) [0] σ s3 := (g7.mono (by simp [KSl]) (by simp)).trans (g8.mono (by simp [KSl]) (by simp))
          have tk : ∀ i, i ≠ 65 → t.1 i = s5.1 i ∧ t.2.1 i = s5.2.1 i := fun i hi => by
            refine ⟨?_, ?_⟩
            · rw [ht]; funext x
              rw [sI_get, if_neg (fun q => hi q.1)]
              show (sI s5 65 56 (nI 0)).1 i x = _
              rw [sI_get, if_neg (fun q => hi q.1)]
            · rw [ht]
              show (sL (sI s5 65 56 (nI 0)) 65 57 (lN 0)).2.1 i = _
              simp only [sL, if_neg hi]; rfl
          have x72 : ∀ j, s3.1 72 j = σ.1 72 j := fun j => by
            have e : s3.1 72 j = s8.1 72 j := by rw [hs3]; rfl
            rw [e, (hO8.1 72 (by decide)).1, (g7.1 72 (by decide) (by simp; omega)).1]
          have d72 : ∀ j, t.1 72 j = if j = 16 * c + a then nI e else if j = 16 * a + c then nI e else σ.1 72 j := fun j => by
            rw [(tk 72 (by decide)).1, hs5, sI_get, sI_get, x72]; simp
          have d3 : ∀ j, t.1 3 j = if j = a * 16 + c ∨ j = c * 16 + a then nI e else σ.1 3 j := fun j => by
            rw [(gT.1 3 (by decide) (by decide)).1, (hO7.1 3 (by simp; omega)).1]; exact h3 j
          have h56 : t.1 65 56 = nI 0 := by
            rw [ht, sI_get, if_neg (by decide)]
            show (sI s5 65 56 (nI 0)).1 65 56 = _
            rw [sI_get, if_pos ⟨rfl, rfl⟩]
          have h57 : t.2.1 65 57 = lN 0 := by rw [ht]; show (sL (sI s5 65 56 (nI 0)) 65 57 (lN 0)).2.1 65 57 = _; simp [sL, vp_updL]
          have h60 : t.1 65 60 = nI 0 := by rw [ht, sI_get, if_pos ⟨rfl, rfl⟩]
          have x0 : t.1 65 0 = nI 0 := by
            rw [ht, sI_get, if_neg (by decide)]
            show (sI s5 65 56 (nI 0)).1 65 0 = _
            rw [sI_get, if_neg (by decide), hs5]
            exact e0
          have x115 : t.2.1 115 0 = i2l x := by
            rw [(tk 115 (by decide)).2, hs5, hs3]
            exact sL_out
          have old : s3.1 72 (16 * a + c) = x := by
            rw [x72, hx, hE.2.1.2.2.2 a c (by omega) (by omega), if_neg hac]
          refine ⟨x0, fun _ => by rw [x115, old], b, fT.2.2.trans hR, N, bk, nm, td, yr, fa, C, kind, st, cd, op, num, T, ta, tb, tw, most, ob, span, F, fx, fy, ft, h, m, kz, kh, tp, 0, false, ⟨?_, ?_, ?_, hE.2.2.2⟩, invR_keep hRu ?_ ?_ ((fT.2.1 16 (by decide)).1) (fun k hk => (fT.1 k (by simp at hk; omega) (by simp at hk; simp [KSl]; omega)).1), hT.fr fT (by cases b <;> decide) (by decide), hL.fr fT (by cases b <;> decide) (by decide), ?_, hH.fr fT (by cases b <;> decide) (by decide), hD.fr fT (by cases b <;> decide) (by decide), (?_ : invG t N 0 false)⟩
          · have := hE.1
            unfold entAt at this ⊢
            rw [(fT.1 1 (by decide) (by simp [KSl]; omega)).1, (fT.1 2 (by decide) (by simp [KSl]; omega)).1]
            exact this
          · have := hE.2.1
            unfold entM at this ⊢
            rw [(fT.2.1 1 (by decide)).1, (fT.1 66 (by decide) (by simp [KSl]; omega)).1, (fT.1 67 (by decide) (by simp [KSl]; omega)).1, (fT.1 68 (by decide) (by simp [KSl]; omega)).1, (fT.1 69 (by decide) (by simp [KSl]; omega)).1, (fT.1 70 (by decide) (by simp [KSl]; omega)).1]
            refine ⟨this.1, this.2.1, this.2.2.1, fun x y hx hy => ?_⟩
            rw [d72, d3]
            by_cases q1 : x = c ∧ y = a
            · rw [if_pos (by omega), if_neg (by omega), if_pos (by omega)]
            · by_cases q2 : x = a ∧ y = c
              · rw [if_neg (by omega), if_pos (by omega), if_neg (by omega), if_pos (by omega)]
              · rw [if_neg (by omega), if_neg (by omega), this.2.2.2 x y hx hy]
                by_cases q3 : x = y
                · rw [if_pos q3, if_pos q3]
                · rw [if_neg q3, if_neg q3, if_neg (by omega)]
          · intro x y hx hy
            rw [d3, d3, hE.2.2.1 x y hx hy]
            by_cases q1 : (x = c ∧ y = a) ∨ (x = a ∧ y = c)
            · rw [if_pos (by omega), if_pos (by omega)]
            · rw [if_neg (by omega), if_neg (by omega)]
          · rw [(gT.1 (kR b) (by omega) (by simp; omega)).1, k1 0 (by decide) (by decide) (by decide) (by decide), (hO6.1 (kR b) (by simp; omega)).1]
          · intro k hk
            exact (fT.1 (kR b + k) (by simp at hk; omega) (by simp at hk; simp [KSl]; omega)).1
          · have hj : invP s7 N bk nm td yr fa C kind st cd op num T ta tb tw := by
              refine invP_judged h30 k2 (fun i j hi hj => ?_) (hO7.1 3 (by simp; omega)).1 (hP.2.eq (hO6.1 27 (by decide)).1 (hO6.1 24 (by decide)).1) (fun i j hji hi h => ?_)
              · rw [(hO6.1 28 (by decide)).1]
                exact hT.2.2.2.2 i j hi hj
              · have hx := h.resolve_left (by omega)
                obtain ⟨g, hg, hcc⟩ := hP.1 i j hji hi
                refine ⟨g, fun z => absurd hx z, ?_⟩
                unfold wgt at hcc ⊢
                unfold cachedAt at hcc ⊢
                rw [(hO6.1 24 (by decide)).1, (hO6.1 25 (by decide)).1, (hO6.1 26 (by decide)).1, (hO6.1 27 (by decide)).1]
                rw [if_pos hx, decide_eq_true hx] at hcc ⊢
                exact hcc
            exact hj.fr gT (by decide) (by decide)
          · exact invG_wiped hG (g7.1 42 (by decide) (by simp; omega)).1 (g7.1 43 (by decide) (by simp; omega)).1 w1 w2 w3 (by rw [(tk 42 (by decide)).1, hs5, hs3]; rfl) (by rw [(tk 42 (by decide)).2, hs5, hs3]; rfl) (by rw [(tk 43 (by decide)).1, hs5, hs3]; rfl) h56 h57 h60
      · rw [within_no (by decide) hv]
        refine q_refuse_no rfl ⟨nI 1, ⟨rfl, rfl⟩, fI_i (p_within ?_)⟩
        rw [within_yes ha (by decide)]
        intro J4 hJ4 J13 hJ13
        refine bq_f (by decide) (p_within ?_)
        rw [within_yes hc (by decide)]
        refine bq_f (by decide) (p_within ?_)
        rw [within_no (by decide) hv]
        exact bq_t rfl (hJ13 (hJ4 _ (p_may_bad rfl (by decide) rfl (bq_t rfl bad))))
    · rw [within_no (by decide) hr]
      refine q_refuse_no rfl ⟨nI 1, ⟨rfl, rfl⟩, fI_i (p_within ?_)⟩
      rw [within_yes ha (by decide)]
      intro J4 hJ4 J13 hJ13
      refine bq_f (by decide) (p_within ?_)
      rw [within_no (by decide) hr]
      exact bq_t rfl (hJ13 (hJ4 _ (p_may_bad rfl (by decide) rfl (bq_t rfl bad))))
  · refine q_within ?_
    rw [within_no (by decide) hp]
    refine q_refuse_no rfl ⟨nI 1, ⟨rfl, rfl⟩, fI_i (p_within ?_)⟩
    rw [within_no (by decide) hp]
    intro J4 hJ4 J13 hJ13
    exact bq_t rfl (hJ13 (hJ4 _ (p_may_bad rfl (by decide) rfl (bq_t rfl bad))))
