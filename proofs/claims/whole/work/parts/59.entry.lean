/-! entry -/
def KSe (b : Bool) : List Nat := [1, 2, 24, 25, 26, 27, 29, kR b, kR b + 6, 33, 34, 42, 43, 66, 67, 68, 69, 70, 71, 115]
theorem flaw_or (p : Int32) : ((p = -1 ∨ ∃ k, k < 16 ∧ p = nI k) ∧ (!decide (p < (-1 : Int32)) && !decide (nI 15 < p)) = true) ∨ (!decide (p < (-1 : Int32)) && !decide (nI 15 < p)) = false := by
  by_cases h : (!decide (p < (-1 : Int32)) && !decide (nI 15 < p)) = true
  · refine .inl ⟨?_, h⟩
    simp only [Bool.and_eq_true, Bool.not_eq_true', decide_eq_false_iff_not] at h
    by_cases hz : p < 0
    · left
      have e1 : (-1 : Int32).toInt = -1 := by decide
      have e0 : (0 : Int32).toInt = 0 := by decide
      rw [fa_lt, e0] at hz
      have := h.1
      rw [fa_lt, e1] at this
      rw [fa_eq, e1]; omega
    · right
      obtain ⟨j, hj, rfl⟩ := nI_of hz
      have := h.2
      rw [nI_ltI (by decide) hj] at this
      exact ⟨j, by omega, rfl⟩
  · exact .inr (by simpa using h)
theorem fct_new {lk : Nat → Int32} {bk nm td yr : Nat → Nat} {fa : Nat → Int32} {N b1 n1 t1 y1 : Nat} {f1 : Int32} {i j : Nat} (hi : i < N) (hj : j < N) : fct lk (xat N b1 bk) (xat N n1 nm) (xat N t1 td) (xat N y1 yr) (xat N f1 fa) i j = fct lk bk nm td yr fa i j := by
  have h1 : i ≠ N := by omega
  have h2 : j ≠ N := by omega
  unfold fct
  simp only [xat_ne h1, xat_ne h2]
theorem op_entry {b : Bool} {σ : gSt} (hI : Inv b σ) (p r u y f1 : Int32) : OKI (fun Q QX s => W_X11_entry b p r u y f1 Q QX s) (W_X12_entry p r u y f1) cdA σ := by
  have hI0 := hI
  obtain ⟨hR, N, bk, nm, td, yr, fa, C, kind, st, cd, op, num, T, ta, tb, tw, most, ob, span, F, fx, fy, ft, h, m, kz, kh, tp, R, hs, hE, hRu, hT, hL, hP, hH, hD, hG⟩ := hI
  have h30 := hE.1.2.1
  have hkb : kR b = 5 ∨ kR b = 17 := by cases b <;> simp [kR]
  unfold OKI W_X11_entry
  have bad : fin (nI 1) (lN 0) (sI (sI σ 65 0 (nI 0)) 65 0 (nI 1)) := fin.no hI0 (.inl rfl)
  rcases in_or p 7 (by decide) with ⟨b1, lb1, rfl⟩ | hq
  · refine q_within ?_
    rw [within_yes lb1 (by decide)]
    refine q_refuse (by decide) ?_
    rcases in_or r 15 (by decide) with ⟨n1, ln1, rfl⟩ | hq
    · refine q_within ?_
      rw [within_yes ln1 (by decide)]
      refine q_refuse (by decide) ?_
      rcases in_or u 7 (by decide) with ⟨t1, lt1, rfl⟩ | hq
      · refine q_within ?_
        rw [within_yes lt1 (by decide)]
        refine q_refuse (by decide) ?_
        rcases in_or y 199 (by decide) with ⟨y1, ly1, rfl⟩ | hq
        · refine q_within ?_
          rw [within_yes ly1 (by decide)]
          refine q_refuse (by decide) ?_
          refine q_within ?_
          rcases flaw_or f1 with ⟨hfl, hv⟩ | hv
          · rw [hv]
            refine q_refuse (by decide) ?_
            rw [hE.1.1]
            refine br_lt (by omega) (by decide) (fun hlt => ?_) (fun hge => ?_)
            · refine ⟨_, fun o l => s_addEntry hR N b1 n1 t1 y1 f1 hlt hE.1.1, fun r s6 hp => ?_⟩
              obtain ⟨x, rfl, rfl, hO6, a1, a2⟩ := hp
              refine ⟨_, rfl, hO6.2, ?_⟩
              have hEn : entAt s6 (N + 1) (xat N b1 bk) (xat N n1 nm) (xat N t1 td) (xat N y1 yr) (xat N f1 fa) := by
                refine ⟨a1, by omega, fun i hi => ?_⟩
                rw [a2, a2, a2, a2, a2]
                by_cases e : i = N
                · rw [e, xat_at, xat_at, xat_at, xat_at, xat_at]
                  simp
                  omega
                · have := hE.1.2.2 i (by omega)
                  rw [xat_ne e, xat_ne e, xat_ne e, xat_ne e, xat_ne e]
                  have k1 : ∀ a d : Nat, a < 5 → d < 5 → i * 5 + a ≠ N * 5 + d := fun a d ha hd => by omega
                  have q0 := fun d hd => k1 0 d (by omega) hd
                  simp only [Nat.add_zero] at q0
                  have r0 : i * 5 ≠ N * 5 := q0 0 (by omega)
                  have r1 : ∀ a, a < 5 → i * 5 + a ≠ N * 5 := fun a ha => k1 a 0 ha (by omega)
                  refine ⟨?_, ?_, ?_, ?_, ?_, this.2.2.2.2.2⟩
                  · rw [if_neg r0, if_neg (q0 1 (by omega)), if_neg (q0 2 (by omega)), if_neg (q0 3 (by omega)), if_neg (q0 4 (by omega))]; exact this.1
                  · rw [if_neg (r1 1 (by omega)), if_neg (k1 1 1 (by omega) (by omega)), if_neg (k1 1 2 (by omega) (by omega)), if_neg (k1 1 3 (by omega) (by omega)), if_neg (k1 1 4 (by omega) (by omega))]; exact this.2.1
                  · rw [if_neg (r1 2 (by omega)), if_neg (k1 2 1 (by omega) (by omega)), if_neg (k1 2 2 (by omega) (by omega)), if_neg (k1 2 3 (by omega) (by omega)), if_neg (k1 2 4 (by omega) (by omega))]; exact this.2.2.1
                  · rw [if_neg (r1 3 (by omega)), if_neg (k1 3 1 (by omega) (by omega)), if_neg (k1 3 2 (by omega) (by omega)), if_neg (k1 3 3 (by omega) (by omega)), if_neg (k1 3 4 (by omega) (by omega))]; exact this.2.2.2.1
                  · rw [if_neg (r1 4 (by omega)), if_neg (k1 4 1 (by omega) (by omega)), if_neg (k1 4 2 (by omega) (by omega)), if_neg (k1 4 3 (by omega) (by omega)), if_neg (k1 4 4 (by omega) (by omega))]; exact this.2.2.2.2.1
              refine ⟨_, fun o l => s_judgeFrom (hO6.2.trans hR) hEn (hRu.1.off (by rw [(hO6.1 (kR b) (by simp; omega)).1]) (fun j q1 q2 => (hO6.1 _ (by simp; omega)).1)) hRu.2.2 N (by omega), fun r s7 hp => ?_⟩
              obtain ⟨rfl, hO7, k1, k2⟩ := hp
              refine ⟨rfl, hO7.2, ?_⟩
              have i33 : s7.1 33 = σ.1 33 := (hO7.1 33 (by simp; omega)).1.trans (hO6.1 33 (by decide)).1
              have i34 : s7.1 34 = σ.1 34 := (hO7.1 34 (by simp; omega)).1.trans (hO6.1 34 (by decide)).1
              refine ⟨_, fun o l => s_welcome (hO7.2.trans (hO6.2.trans hR)) (N := N) h30 (by rw [i33]; exact hH.1) hlt, fun r s7b hp => ?_⟩
              obtain ⟨rfl, hOw, v1, v2, v3⟩ := hp
              refine ⟨rfl, hOw.2, ⟨_, fun o l => s_wipe (hOw.2.trans (hO7.2.trans (hO6.2.trans hR))), fun r s8 hp => ?_⟩⟩
              obtain ⟨rfl, hO8, w1, w2, w4, w3⟩ := hp
              refine ⟨rfl, hO8.2, ?_⟩
              rintro s2 rfl
              obtain ⟨s3, hs3⟩ : ∃ t, t = sI (sL s8 115 0 (i2l (nI N))) 65 0 (nI 0) := ⟨_, rfl⟩
              refine fI_i ?_
              rw [← hs3]
              have g7 : Fr [1, 2, 24, 25, 26, 27, 29, kR b, kR b + 6] [] σ s7 := ((Fr.of (js := []) hO6 (by decide)).mono (by simp) (by simp)).trans ((Fr.of (js := []) hO7 (by simp; omega)).mono (by simp) (by simp))
              have g8 : Fr [33, 34, 42, 43, 115] [0] s7 s3 := by
                rw [hs3]
                exact ((((Fr.of (js := []) hOw (by decide)).mono (by simp) (by simp)).trans ((Fr.of (js := []) hO8 (by decide)).mono (by simp) (by simp))).l (by simp) (by decide)).f (by simp)
              have e0 : s3.1 65 0 = nI 0 := by rw [hs3, sI_get, if_pos ⟨rfl, rfl⟩]
              have e1 : s3.1 65 1 = nI N := by rw [(g8.2.1 1 (by decide)).1, (g7.2.1 1 (by decide)).1]; exact hE.2.1.1
              refine p_within ?_
              rw [within_yes lb1 (by decide)]
              intro J4 hJ4 J17 hJ17
              refine bq_f (by decide) (p_within ?_)
              rw [within_yes ln1 (by decide)]
              refine bq_f (by decide) (p_within ?_)
              rw [within_yes lt1 (by decide)]
              refine bq_f (by decide) (p_within ?_)
              rw [within_yes ly1 (by decide)]
              refine bq_f (by decide) (p_within ?_)
              rw [hv]
              refine bq_f (by decide) (hJ4 _ (p_may_ok (by decide) e0 (bq_f (by decide) (bq_f (by rw [e1, nI_eq (by omega) (by decide)]; omega) (wI_e e1 hlt (wI_e e1 hlt (wI_e e1 hlt (wI_e e1 hlt (wI_e e1 hlt (wI_e e1 hlt (fI_i (p_untell ?_))))))))))))
              obtain ⟨s4, hs4⟩ : ∃ t, t = sI (sI (sI (sI (sI (sI s3 66 N (nI b1)) 67 N (nI n1)) 68 N (nI t1)) 69 N (nI y1)) 70 N f1) 71 N (nI N) := ⟨_, rfl⟩
              have e14 : s4.1 65 1 = nI N := by rw [hs4]; exact e1
              show fin (nI 0) (i2l ((sI (sL (sI (sI (sI (sI (sI (sI (sI (sI s3 66 N (nI b1)) 67 N (nI n1)) 68 N (nI t1)) 69 N (nI y1)) 70 N f1) 71 N (s3.1 65 1)) 65 1 (s3.1 65 1 + nI 1)) 65 56 (nI 0)) 65 57 (lN 0)) 65 60 (nI 0)).1 65 1 - nI 1)) (sI (sL (sI (sI (sI (sI (sI (sI (sI (sI s3 66 N (nI b1)) 67 N (nI n1)) 68 N (nI t1)) 69 N (nI y1)) 70 N f1) 71 N (s3.1 65 1)) 65 1 (s3.1 65 1 + nI 1)) 65 56 (nI 0)) 65 57 (lN 0)) 65 60 (nI 0))
              rw [e1, nI_add, ← hs4]
              obtain ⟨s5, hs5⟩ : ∃ t, t = sI s4 65 1 (nI (N + 1)) := ⟨_, rfl⟩
              rw [← hs5]
              obtain ⟨t, ht⟩ : ∃ t, t = sI (sL (sI s5 65 56 (nI 0)) 65 57 (lN 0)) 65 60 (nI 0) := ⟨_, rfl⟩
              rw [← ht]
              have g4 : Fr [33, 34, 42, 43, 66, 67, 68, 69, 70, 71, 115] [0] s7 s4 := by
                rw [hs4]
                exact ((((((g8.mono (by simp) (by simp)).i (by simp) (by decide)).i (by simp) (by decide)).i (by simp) (by decide)).i (by simp) (by decide)).i (by simp) (by decide)).i (by simp) (by decide)
              have gT : Fr [33, 34, 42, 43, 66, 67, 68, 69, 70, 71, 115] [0, 1, 56, 57, 60] s7 t := by
                rw [ht, hs5]
                exact ((((g4.mono (by simp) (by simp)).f (by simp)).f (by simp)).g (by simp)).f (by simp)
              have fT : Fr (KSe b) [0, 1, 56, 57, 60] σ t := (g7.mono (by simp [KSe]) (by simp)).trans (gT.mono (by simp [KSe]) (by simp))
              have tk : ∀ i, i ≠ 65 → t.1 i = s4.1 i ∧ t.2.1 i = s4.2.1 i := fun i hi => by
                refine ⟨?_, ?_⟩
                · rw [ht, hs5]; funext x
                  rw [sI_get, if_neg (fun q => hi q.1)]
                  show (sI (sI s4 65 1 (nI (N + 1))) 65 56 (nI 0)).1 i x = _
                  rw [sI_get, if_neg (fun q => hi q.1), sI_get, if_neg (fun q => hi q.1)]
                · rw [ht, hs5]
                  show (sL (sI (sI s4 65 1 (nI (N + 1))) 65 56 (nI 0)) 65 57 (lN 0)).2.1 i = _
                  simp only [sL, if_neg hi]; rfl
              have c4 : ∀ i, i ∉ [65, 66, 67, 68, 69, 70, 71] → s4.1 i = s3.1 i := fun i hi => by
                simp only [List.mem_cons, List.not_mem_nil, or_false, not_or] at hi
                rw [hs4]; funext x
                simp only [sI_get, hi, false_and, if_false]
              have c7 : ∀ i, i ∈ [66, 67, 68, 69, 70, 71] → s3.1 i = σ.1 i := fun i hi => by
                simp only [List.mem_cons, List.not_mem_nil, or_false] at hi
                rw [(g8.1 i (by omega) (by simp; omega)).1, (g7.1 i (by omega) (by simp; omega)).1]
              have d : ∀ j, t.1 66 j = (if j = N then nI b1 else σ.1 66 j) ∧ t.1 67 j = (if j = N then nI n1 else σ.1 67 j) ∧ t.1 68 j = (if j = N then nI t1 else σ.1 68 j) ∧ t.1 69 j = (if j = N then nI y1 else σ.1 69 j) ∧ t.1 70 j = (if j = N then f1 else σ.1 70 j) ∧ t.1 71 j = (if j = N then nI N else σ.1 71 j) := fun j => by
                rw [(tk 66 (by decide)).1, (tk 67 (by decide)).1, (tk 68 (by decide)).1, (tk 69 (by decide)).1, (tk 70 (by decide)).1, (tk 71 (by decide)).1, hs4, ← c7 66 (by simp), ← c7 67 (by simp), ← c7 68 (by simp), ← c7 69 (by simp), ← c7 70 (by simp), ← c7 71 (by simp)]
                simp [sI_get]
              have h56 : t.1 65 56 = nI 0 := by
                rw [ht, sI_get, if_neg (by decide)]
                show (sI s5 65 56 (nI 0)).1 65 56 = _
                rw [sI_get, if_pos ⟨rfl, rfl⟩]
              have h57 : t.2.1 65 57 = lN 0 := by rw [ht]; show (sL (sI s5 65 56 (nI 0)) 65 57 (lN 0)).2.1 65 57 = _; simp [sL, vp_updL]
              have h60 : t.1 65 60 = nI 0 := by rw [ht, sI_get, if_pos ⟨rfl, rfl⟩]
              have x65 : ∀ i, i ≠ 56 → i ≠ 60 → t.1 65 i = s5.1 65 i := fun i h1 h2 => by
                rw [ht, sI_get, if_neg (fun q => h2 q.2)]
                show (sI s5 65 56 (nI 0)).1 65 i = _
                rw [sI_get, if_neg (fun q => h1 q.2)]
              have x0 : t.1 65 0 = nI 0 := by
                rw [x65 0 (by decide) (by decide), hs5, sI_get, if_neg (by decide), hs4]
                exact e0
              have x1 : t.1 65 1 = nI (N + 1) := by
                rw [x65 1 (by decide) (by decide), hs5, sI_get, if_pos ⟨rfl, rfl⟩]
              have x115 : t.2.1 115 0 = i2l (nI N) := by
                rw [(tk 115 (by decide)).2, hs4, hs3]
                exact sL_out
              have t33 : t.1 33 = s7b.1 33 := by
                rw [(tk 33 (by decide)).1, c4 33 (by decide), hs3, ← (hO8.1 33 (by decide)).1]; rfl
              have t34 : t.1 34 = s7b.1 34 := by
                rw [(tk 34 (by decide)).1, c4 34 (by decide), hs3, ← (hO8.1 34 (by decide)).1]; rfl
              refine ⟨x0, fun _ => by rw [x115, x1, nI_pre (by omega), Nat.add_sub_cancel], b, fT.2.2.trans hR, N + 1, xat N b1 bk, xat N n1 nm, xat N t1 td, xat N y1 yr, xat N f1 fa, C, kind, st, cd, op, num, T, ta, tb, tw, most, ob, span, F, fx, fy, ft, xat N N h, m, kz, kh, tp, 0, false, ⟨?_, ?_, ?_, ?_⟩, invR_keep hRu ?_ ?_ ((fT.2.1 16 (by decide)).1) (fun k hk => (fT.1 k (by simp at hk; omega) (by simp at hk; simp [KSe]; omega)).1), ?_, ?_, ?_, ?_, hD.fr fT (by cases b <;> decide) (by decide), (?_ : invG t (N + 1) 0 false)⟩
              · unfold entAt at hEn ⊢
                rw [(gT.1 1 (by decide) (by simp)).1, (gT.1 2 (by decide) (by simp)).1, (hO7.1 1 (by simp; omega)).1, (hO7.1 2 (by simp; omega)).1]
                exact hEn
              · have := hE.2.1
                refine ⟨x1, by omega, fun i hi => ?_, ?_⟩
                · obtain ⟨d1, d2, d3, d4, d5, d6⟩ := d i
                  rw [d1, d2, d3, d4, d5]
                  by_cases e : i = N
                  · rw [e, xat_at, xat_at, xat_at, xat_at, xat_at]
                    simp; omega
                  · rw [xat_ne e, xat_ne e, xat_ne e, xat_ne e, xat_ne e, if_neg e, if_neg e, if_neg e, if_neg e, if_neg e]
                    exact this.2.2.1 i (by omega)
                · rw [(fT.1 72 (by decide) (by simp [KSe]; omega)).1, (fT.1 3 (by decide) (by simp [KSe]; omega)).1]
                  exact this.2.2.2
              · rw [(fT.1 3 (by decide) (by simp [KSe]; omega)).1]
                exact hE.2.2.1
              · intro i hi
                by_cases e : i = N
                · rw [e, xat_at]; exact hfl
                · rw [xat_ne e]; exact hE.2.2.2 i (by omega)
              · rw [(gT.1 (kR b) (by omega) (by simp; omega)).1, k1 0 (by decide) (by decide) (by decide) (by decide), (hO6.1 (kR b) (by simp; omega)).1]
              · intro k hk
                exact (fT.1 (kR b + k) (by simp at hk; omega) (by simp at hk; simp [KSe]; omega)).1
              · obtain ⟨q1, q2, q3, q4, q5⟩ := hT.fr fT (by cases b <;> decide) (by decide)
                exact ⟨q1, q2, fun q hq => by have := q3 q hq; exact ⟨by omega, by omega, this.2.2.1, this.2.2.2⟩, q4, q5⟩
              · obtain ⟨q1, q2, q3⟩ := hL.fr fT (by cases b <;> decide) (by decide)
                exact ⟨q1, fun q hq => by have := q2 q hq; exact ⟨by omega, by omega, this.2.2⟩, q3⟩
              · have hj : invP s7 (N + 1) (xat N b1 bk) (xat N n1 nm) (xat N t1 td) (xat N y1 yr) (xat N f1 fa) C kind st cd op num T ta tb tw := by
                  refine invP_judged (by omega) k2 (fun i j hi hj => ?_) (hO7.1 3 (by simp; omega)).1 ((hP.2.mono (by omega)).eq (hO6.1 27 (by decide)).1 (hO6.1 24 (by decide)).1) (fun i j hji hi h => ?_)
                  · rw [(hO6.1 28 (by decide)).1]
                    exact hT.2.2.2.2 i j hi hj
                  · have hlN : i < N := by
                      rcases h with h | h
                      · exact h
                      · have h1 := tix_at h
                        have h2 := hT.2.2.1 _ h
                        rw [sp_iff] at h1
                        omega
                    obtain ⟨g, hg, hcc⟩ := hP.1 i j hji hlN
                    rw [fct_new hlN (by omega), (hO6.1 3 (by decide)).1]
                    refine ⟨g, hg, ?_⟩
                    unfold cachedAt at hcc ⊢
                    rw [(hO6.1 24 (by decide)).1, (hO6.1 25 (by decide)).1, (hO6.1 26 (by decide)).1, (hO6.1 27 (by decide)).1]
                    exact hcc
                exact hj.fr gT (by decide) (by decide)
              · obtain ⟨q1, q2, q3, q4⟩ := hH
                refine ⟨by rw [t33]; exact v1, ⟨by rw [t33, v2 2 (by decide), i33]; exact q2.1, by rw [(fT.2.1 88 (by decide)).1]; exact q2.2.1, q2.2.2⟩, fun i hi => ?_, fun q hq => ?_⟩
                · rw [t34, v3, i34, (d i).2.2.2.2.2]
                  by_cases e : i = N
                  · rw [e, if_pos rfl, if_pos rfl, xat_at]
                    exact ⟨rfl, rfl, Nat.le_refl _, xat_at⟩
                  · have := q3 i (by omega)
                    rw [if_neg e, if_neg e, xat_ne e, xat_ne (by omega)]
                    exact this
                · rw [(fT.1 37 (by decide) (by simp [KSe]; omega)).1, (fT.1 113 (by decide) (by simp [KSe]; omega)).1, (fT.1 36 (by decide) (by simp [KSe]; omega)).1, (fT.1 114 (by decide) (by simp [KSe]; omega)).1]
                  have := q4 q hq
                  exact ⟨this.1, this.2.1, by omega, this.2.2.2⟩
              · exact invG_wiped hG ((hOw.1 42 (by decide)).1.trans (g7.1 42 (by decide) (by simp; omega)).1) ((hOw.1 43 (by decide)).1.trans (g7.1 43 (by decide) (by simp; omega)).1) w1 w2 w3 (by rw [(tk 42 (by decide)).1, hs4, hs3]; rfl) (by rw [(tk 42 (by decide)).2, hs4, hs3]; rfl) (by rw [(tk 43 (by decide)).1, hs4, hs3]; rfl) h56 h57 h60
            · rintro s2 rfl
              refine fI_i ?_
              refine p_within ?_
              rw [within_yes lb1 (by decide)]
              intro J4 hJ4 J17 hJ17
              refine bq_f (by decide) (p_within ?_)
              rw [within_yes ln1 (by decide)]
              refine bq_f (by decide) (p_within ?_)
              rw [within_yes lt1 (by decide)]
              refine bq_f (by decide) (p_within ?_)
              rw [within_yes ly1 (by decide)]
              refine bq_f (by decide) (p_within ?_)
              rw [hv]
              refine bq_f (by decide) (hJ4 _ (p_may_ok (by decide) rfl (bq_f (by decide) (bq_t ?_ (fin.scr0 hI0)))))
              show σ.1 65 1 = nI 30
              rw [hE.2.1.1, show N = 30 by omega]
          · rw [hv]
            refine q_refuse_no rfl ⟨nI 1, ⟨rfl, rfl⟩, ?_⟩
            refine fI_i (p_within ?_)
            rw [within_yes lb1 (by decide)]
            intro J4 hJ4 J17 hJ17
            refine bq_f (by decide) (p_within ?_)
            rw [within_yes ln1 (by decide)]
            refine bq_f (by decide) (p_within ?_)
            rw [within_yes lt1 (by decide)]
            refine bq_f (by decide) (p_within ?_)
            rw [within_yes ly1 (by decide)]
            refine bq_f (by decide) (p_within ?_)
            rw [hv]
            exact bq_t rfl (hJ17 (hJ4 _ (p_may_bad rfl (by decide) rfl (bq_t rfl bad))))
        · refine q_within ?_
          rw [within_no (by decide) hq]
          refine q_refuse_no rfl ⟨nI 1, ⟨rfl, rfl⟩, ?_⟩
          refine fI_i (p_within ?_)
          rw [within_yes lb1 (by decide)]
          intro J4 hJ4 J17 hJ17
          refine bq_f (by decide) (p_within ?_)
          rw [within_yes ln1 (by decide)]
          refine bq_f (by decide) (p_within ?_)
          rw [within_yes lt1 (by decide)]
          refine bq_f (by decide) (p_within ?_)
          rw [within_no (by decide) hq]
          exact bq_t rfl (hJ17 (hJ4 _ (p_may_bad rfl (by decide) rfl (bq_t rfl bad))))
      · refine q_within ?_
        rw [within_no (by decide) hq]
        refine q_refuse_no rfl ⟨nI 1, ⟨rfl, rfl⟩, ?_⟩
        refine fI_i (p_within ?_)
        rw [within_yes lb1 (by decide)]
        intro J4 hJ4 J17 hJ17
        refine bq_f (by decide) (p_within ?_)
        rw [within_yes ln1 (by decide)]
        refine bq_f (by decide) (p_within ?_)
        rw [within_no (by decide) hq]
        exact bq_t rfl (hJ17 (hJ4 _ (p_may_bad rfl (by decide) rfl (bq_t rfl bad))))
    · refine q_within ?_
      rw [within_no (by decide) hq]
      refine q_refuse_no rfl ⟨nI 1, ⟨rfl, rfl⟩, ?_⟩
      refine fI_i (p_within ?_)
      rw [within_yes lb1 (by decide)]
      intro J4 hJ4 J17 hJ17
      refine bq_f (by decide) (p_within ?_)
      rw [within_no (by decide) hq]
      exact bq_t rfl (hJ17 (hJ4 _ (p_may_bad rfl (by decide) rfl (bq_t rfl bad))))
  · refine q_within ?_
    rw [within_no (by decide) hq]
    refine q_refuse_no rfl ⟨nI 1, ⟨rfl, rfl⟩, ?_⟩
    refine fI_i (p_within ?_)
    rw [within_no (by decide) hq]
    intro J4 hJ4 J17 hJ17
    exact bq_t rfl (hJ17 (hJ4 _ (p_may_bad rfl (by decide) rfl (bq_t rfl bad))))
