/-! weigh -/
theorem p_toldV {σ : gSt} {T : Nat} {ta tb : Nat → Nat} {tw : Nat → Int32} (hT : toldM σ T ta tb tw) {a c : Nat} (ha : a < 30) (hc : c < 30) {Q : Int32 → Prop} (q : Q (if tix T ta tb a c < T then nI (tix T ta tb a c) else -1)) : W_X12_toldAt (nI a) (nI c) Q σ := by
  refine p_toldAt hT.1 hT.2.1 (fun q hq => ⟨(hT.2.2 q hq).1, (hT.2.2 q hq).2.1, (hT.2.2 q hq).2.2.1, (hT.2.2 q hq).2.2.2.1⟩) ha hc (fun k hk1 hk2 _ => ?_) (fun hk2 _ => ?_)
  · rw [hk2, if_pos hk1] at q; exact q
  · rw [hk2, if_neg (Nat.lt_irrefl _)] at q; exact q
theorem sp_eq {x y a c i j : Nat} (h : sp x y a c = true) : sp x y i j = sp a c i j := by
  have h1 : sp x y i j = true ↔ sp a c i j = true := by rw [sp_iff] at h ⊢; rw [sp_iff]; omega
  cases x1 : sp x y i j <;> cases x2 : sp a c i j <;> simp_all
/-- told anew in its place -/
theorem tix_rep {T k : Nat} {ta tb : Nat → Nat} {a c : Nat} (hs : sp (ta k) (tb k) a c = true) (i j : Nat) : tix T (xat k a ta) (xat k c tb) i j = tix T ta tb i j := by
  unfold tix
  congr 1
  funext q
  by_cases e : q = k
  · rw [e, xat_at, xat_at]; exact (sp_eq hs).symm
  · rw [xat_ne e, xat_ne e]
theorem uniq_rep {T k : Nat} {ta tb : Nat → Nat} {a c : Nat} (hu : uniq T ta tb) (hs : sp (ta k) (tb k) a c = true) : uniq T (xat k a ta) (xat k c tb) := by
  intro q q2 h1 h2 h
  refine hu q q2 h1 h2 ?_
  by_cases e1 : q = k <;> by_cases e2 : q2 = k
  · rw [e1, e2]; exact sp_self _ _
  · rw [e1, xat_at, xat_at, xat_ne e2, xat_ne e2] at h
    rw [e1, sp_eq hs]; exact h
  · rw [e2, xat_at, xat_at, xat_ne e1, xat_ne e1] at h
    rw [e2]; rw [sp_iff] at h hs ⊢; omega
  · rw [xat_ne e1, xat_ne e1, xat_ne e2, xat_ne e2] at h; exact h
def KSw : List Nat := [16, 24, 25, 26, 27, 28, 42, 43, 87, 88, 89, 115]
def JSw : List Nat := [0, 33, 56, 57, 60]
theorem okw_or (w : Int32) : ((w = (-2147483648 : Int32) ∨ ((-10000 : Int32) ≤ w ∧ w ≤ nI 10000))) ∨ (¬ w = (-2147483648 : Int32) ∧ (!decide (w < (-10000 : Int32)) && !decide (nI 10000 < w)) = false) := by
  by_cases h : w = (-2147483648 : Int32)
  · exact .inl (.inl h)
  · by_cases h2 : (!decide (w < (-10000 : Int32)) && !decide (nI 10000 < w)) = true
    · simp only [Bool.and_eq_true, Bool.not_eq_true', decide_eq_false_iff_not] at h2
      exact .inl (.inr ⟨Int32.not_lt.mp h2.1, Int32.not_lt.mp h2.2⟩)
    · exact .inr ⟨h, by simpa using h2⟩
theorem okw_in {w : Int32} (h : w = (-2147483648 : Int32) ∨ ((-10000 : Int32) ≤ w ∧ w ≤ nI 10000)) (hv : ¬ w = (-2147483648 : Int32)) : (!decide (w < (-10000 : Int32)) && !decide (nI 10000 < w)) = true := by
  obtain ⟨h1, h2⟩ := h.resolve_left hv
  have a1 : ¬ w < (-10000 : Int32) := Int32.not_lt.mpr h1
  have a2 : ¬ nI 10000 < w := Int32.not_lt.mpr h2
  simp [a1, a2]
theorem op_weigh {b : Bool} {σ : gSt} (hI : Inv b σ) (p r w : Int32) : OKI (fun Q QX s => W_X11_weigh p r w Q QX s) (W_X12_weigh p r w) cdP σ := by
  have hI0 := hI
  obtain ⟨hR, N, bk, nm, td, yr, fa, C, kind, st, cd, op, num, T, ta, tb, tw, most, ob, span, F, fx, fy, ft, h, m, kz, kh, tp, R, hs, hE, hRu, hT, hL, hP, hH, hD, hG⟩ := hI
  have h30 := hE.1.2.1
  have hN := hE.2.1.1
  have hN1 := hE.1.1
  unfold OKI W_X11_weigh
  rcases pair_or p r N (by omega) with ⟨a, c, ha, hc, hne, rfl, rfl⟩ | ⟨E, k, h1, h2, h3⟩
  · refine q_pair hN1 h30 ha hc hne ?_
    obtain ⟨t1, t2, t3, t4, t5⟩ := hT
    have t60 := t1.2.1
    have hT0 : invT σ N T ta tb tw := ⟨t1, t2, t3, t4, t5⟩
    rcases okw_or w with hw | ⟨hw1, hw2⟩
    · intro J2 hJ2 J13 hJ13
      -- the reference's part
      have ref : ∀ (s8 : gSt) (k T2 : Nat) (v : Int32), Fr [16, 24, 25, 26, 27, 28, 42, 43] [] σ s8 → (k = T ∧ ¬ tix T ta tb a c < T ∧ T2 = T + 1 ∧ T < 60 ∧ v = nI 1 ∨ k = tix T ta tb a c ∧ tix T ta tb a c < T ∧ T2 = T ∧ v = nI 0) → (∀ t : gSt, (∀ i, i ∉ [65, 87, 88, 89, 115] → t.1 i = s8.1 i ∧ t.2.1 i = s8.2.1 i) → t.1 65 33 = nI T2 → (∀ q, t.1 87 q = if q = k then nI a else σ.1 87 q) → (∀ q, t.1 88 q = if q = k then nI c else σ.1 88 q) → (∀ q, t.1 89 q = if q = k then w else σ.1 89 q) → t.1 65 56 = nI 0 → t.2.1 65 57 = lN 0 → t.1 65 60 = nI 0 → Fr KSw JSw σ t → Inv b t) → ∀ s2, s2 = sL s8 115 0 (i2l v) → W_X12_weigh (nI a) (nI c) w (fun w t => fin (nI 0) (i2l w) t) s2 := by
        rintro s8 k T2 v f8 hk hend s2 rfl
        have f0 : Fr KSw JSw σ (sI (sL s8 115 0 (i2l v)) 65 0 (nI 0)) := ((f8.mono (ks' := KSw) (js' := JSw) (by decide) (by simp)).l (by decide) (by decide)).f (by decide)
        have f01 : Fr [16, 24, 25, 26, 27, 28, 42, 43, 115] [0] σ (sI (sL s8 115 0 (i2l v)) 65 0 (nI 0)) := ((f8.mono (ks' := [16, 24, 25, 26, 27, 28, 42, 43, 115]) (js' := [0]) (by decide) (by simp)).l (by decide) (by decide)).f (by decide)
        have o115 : (sI (sL s8 115 0 (i2l v)) 65 0 (nI 0)).2.1 115 0 = i2l v := sL_out
        have off8 : ∀ i, i ∉ [65, 87, 88, 89, 115] → (sI (sL s8 115 0 (i2l v)) 65 0 (nI 0)).1 i = s8.1 i ∧ (sI (sL s8 115 0 (i2l v)) 65 0 (nI 0)).2.1 i = s8.2.1 i := fun i hi => by
          simp only [List.mem_cons, List.not_mem_nil, or_false, not_or] at hi
          refine ⟨by funext x; rw [sI_get, if_neg (fun q => hi.1 q.1)]; rfl, ?_⟩
          show (sL s8 115 0 (i2l v)).2.1 i = _
          simp only [sL, if_neg hi.2.2.2.2]
        refine fI_i (p_isP (N := N) ((f0.2.1 1 (by decide)).1.trans hN) h30 rfl ha hc hne (bq_f (by decide) ?_))
        generalize hs3 : sI (sL s8 115 0 (i2l v)) 65 0 (nI 0) = s3 at *
        have e0 : s3.1 65 0 = nI 0 := by rw [← hs3, sI_get, if_pos ⟨rfl, rfl⟩]
        have hT3 : toldM s3 T ta tb tw := by
          unfold toldM at t1 ⊢
          rw [(f01.2.1 33 (by decide)).1, (f01.1 87 (by decide) (by decide)).1, (f01.1 88 (by decide) (by decide)).1, (f01.1 89 (by decide) (by decide)).1]
          exact t1
        intro J6 hJ6 J26 hJ26
        -- the writing
        have wr : ∀ s15 : gSt, (∀ i, i ≠ 65 → s15.1 i = s3.1 i) → s15.2.1 = s3.2.1 → s15.1 65 33 = nI T2 → (∀ i, i ≠ 33 → s15.1 65 i = s3.1 65 i) → Fr KSw JSw σ s15 → k < 60 → wI s15 87 60 (nI k) (nI a) (fun s17 => wI s17 88 60 (nI k) (nI c) (fun s18 => wI s18 89 60 (nI k) w (fun s19 => W_X12_untell (fun s20 => (fun w t => fin (nI 0) (i2l w) t) v s20) s19))) := by
          intro s15 h1 h2 h3 h4 h5 h6
          refine wI_i h6 (wI_i h6 (wI_i h6 (p_untell ?_)))
          obtain ⟨t, ht⟩ : ∃ t, t = sI (sL (sI (sI (sI (sI s15 87 k (nI a)) 88 k (nI c)) 89 k w) 65 56 (nI 0)) 65 57 (lN 0)) 65 60 (nI 0) := ⟨_, rfl⟩
          show fin (nI 0) (i2l v) (sI (sL (sI (sI (sI (sI s15 87 k (nI a)) 88 k (nI c)) 89 k w) 65 56 (nI 0)) 65 57 (lN 0)) 65 60 (nI 0))
          rw [← ht]
          have x115 : t.2.1 115 0 = s15.2.1 115 0 := by rw [ht]; rfl
          have x65 : ∀ i, i ≠ 56 → i ≠ 60 → t.1 65 i = s15.1 65 i := fun i a1 a2 => by
            rw [ht, sI_get, if_neg (fun q => a2 q.2)]
            show (sI (sI (sI (sI s15 87 k (nI a)) 88 k (nI c)) 89 k w) 65 56 (nI 0)).1 65 i = _
            rw [sI_get, if_neg (fun q => a1 q.2)]; rfl
          refine ⟨by rw [x65 0 (by decide) (by decide), h4 0 (by decide)]; exact e0, fun _ => by rw [x115, h2]; exact o115, b, hend t (fun i hi => ?_) (by rw [x65 33 (by decide) (by decide)]; exact h3) (fun q => ?_) (fun q => ?_) (fun q => ?_) (by rw [ht, sI_get, if_neg (by decide)]; show (sI (sI (sI (sI s15 87 k (nI a)) 88 k (nI c)) 89 k w) 65 56 (nI 0)).1 65 56 = _; rw [sI_get, if_pos ⟨rfl, rfl⟩]) (by rw [ht]; show (sL (sI (sI (sI (sI s15 87 k (nI a)) 88 k (nI c)) 89 k w) 65 56 (nI 0)) 65 57 (lN 0)).2.1 65 57 = _; simp [sL, vp_updL]) (by rw [ht, sI_get, if_pos ⟨rfl, rfl⟩]) ?_⟩
          · have hi2 := hi
            simp only [List.mem_cons, List.not_mem_nil, or_false, not_or] at hi
            obtain ⟨i1, i2, i3, i4, i5⟩ := hi
            refine ⟨?_, ?_⟩
            · rw [ht]
              funext x
              rw [sI_get, if_neg (fun q => i1 q.1)]
              show (sI (sI (sI (sI s15 87 k (nI a)) 88 k (nI c)) 89 k w) 65 56 (nI 0)).1 i x = _
              rw [sI_get, if_neg (fun q => i1 q.1), sI_get, if_neg (fun q => i4 q.1), sI_get, if_neg (fun q => i3 q.1), sI_get, if_neg (fun q => i2 q.1), h1 i i1, (off8 i hi2).1]
            · rw [ht]
              show (sL (sI (sI (sI (sI s15 87 k (nI a)) 88 k (nI c)) 89 k w) 65 56 (nI 0)) 65 57 (lN 0)).2.1 i = _
              simp only [sL, if_neg i1]
              show s15.2.1 i = _
              rw [h2, (off8 i hi2).2]
          · have e : t.1 87 q = (sI s15 87 k (nI a)).1 87 q := by rw [ht]; rfl
            rw [e, sI_get, h1 87 (by decide), (f01.1 87 (by decide) (by decide)).1]; simp
          · have e : t.1 88 q = (sI (sI s15 87 k (nI a)) 88 k (nI c)).1 88 q := by rw [ht]; rfl
            rw [e, sI_get]
            have e2 : (sI s15 87 k (nI a)).1 88 q = s15.1 88 q := rfl
            rw [e2, h1 88 (by decide), (f01.1 88 (by decide) (by decide)).1]; simp
          · have e : t.1 89 q = (sI (sI (sI s15 87 k (nI a)) 88 k (nI c)) 89 k w).1 89 q := by rw [ht]; rfl
            rw [e, sI_get]
            have e2 : (sI (sI s15 87 k (nI a)) 88 k (nI c)).1 89 q = s15.1 89 q := rfl
            rw [e2, h1 89 (by decide), (f01.1 89 (by decide) (by decide)).1]; simp
          · rw [ht]
            exact ((((((h5.i (by decide) (by decide)).i (by decide) (by decide)).i (by decide) (by decide)).f (by decide)).g (by decide)).f (by decide))
        have h26 : J26 := by
          refine hJ26 (hJ6 _ (p_may_ok (by decide) e0 (bq_f (by decide) (p_toldV hT3 (by omega) (by omega) ?_))))
          rcases hk with ⟨rfl, hnx, rfl, hlt, rfl⟩ | ⟨rfl, hx, rfl, rfl⟩
          · rw [if_neg hnx]
            intro J11 hJ11
            refine bq_t rfl (bq_f (by rw [hT3.1, nI_eq (by omega) (by decide)]; omega) (hJ11 ?_))
            refine jn1 (nI 1) (fun J hJ => bq_t rfl hJ) (jn1s (nI k) (sI s3 65 33 (nI (k + 1))) (fun J hJ => bq_t rfl (fI_i (by rw [hT3.1, nI_add]; exact hJ))) ?_)
            exact wr (sI s3 65 33 (nI (k + 1))) (fun i hi => by funext x; rw [sI_get, if_neg (fun q => hi q.1)]) rfl (by rw [sI_get, if_pos ⟨rfl, rfl⟩]) (fun i hi => by rw [sI_get, if_neg (fun q => hi q.2)]) (f0.f (by decide)) hlt
          · rw [if_pos hx]
            intro J11 hJ11
            refine bq_f (nI_nm1 (by omega)) (hJ11 ?_)
            refine jn1 (nI 0) (fun J hJ => bq_f (nI_nm1 (by omega)) hJ) (jn1s (nI (tix T2 ta tb a c)) s3 (fun J hJ => bq_f (nI_nm1 (by omega)) hJ) ?_)
            exact wr s3 (fun _ _ => rfl) rfl hT3.1 (fun _ _ => rfl) f0 (by omega)
        exact ⟨fun _ => h26, fun hv => p_within (by rw [okw_in hw hv]; exact bq_f (by decide) h26)⟩
      have h13 : J13 := by
        refine hJ13 (hJ2 _ (q_refuse (by decide) ⟨_, fun o l => s_isByHand hR a c (by omega) (by omega), ?_⟩))
        rw [t5 a c (by omega) (by omega)]
        refine jn_z (!decide (tix T ta tb a c < T)) (by rw [zI_eq]; simp) ?_
        intro J6 hJ6
        by_cases hx : tix T ta tb a c < T
        · rw [decide_eq_true hx]
          refine bq_t rfl (hJ6 ?_)
          refine ⟨_, fun o l => s_tell_true hR a c T w (by omega) (by omega) t2 (by rw [t5 a c (by omega) (by omega)]; exact decide_eq_true hx), fun r s hp => ?_⟩
          obtain ⟨rfl, hO, k1, k2, k3, k4⟩ := hp
          refine ⟨rfl, hO.2, ⟨_, fun o l => s_wipe (hO.2.trans hR), fun r s8 hp => ?_⟩⟩
          obtain ⟨rfl, hO8, w1, w2, w4, w3⟩ := hp
          refine ⟨rfl, hO8.2, bq_t (by rw [decide_eq_true hx]; rfl) ?_⟩
          have hat := tix_at hx
          have f8 : Fr [16, 24, 25, 26, 27, 28, 42, 43] [] σ s8 := ((Fr.of (js := []) hO (by decide)).mono (by decide) (by simp)).trans ((Fr.of (js := []) hO8 (by decide)).mono (by decide) (by simp))
          refine ref s8 (tix T ta tb a c) T (nI 0) f8 (.inr ⟨rfl, hx, rfl, rfl⟩) (fun t hoff h33 h87 h88 h89 h56 h57 h60 fT => ?_)
          refine ⟨fT.2.2.trans hR, N, bk, nm, td, yr, fa, C, kind, st, cd, op, num, T, xat (tix T ta tb a c) a ta, xat (tix T ta tb a c) c tb, xat (tix T ta tb a c) w tw, most, ob, span, F, fx, fy, ft, h, m, kz, kh, tp, 0, false, hE.fr fT (by decide) (by decide), hRu.fr fT (by cases b <;> decide) (by decide), (?_ : invT t N T (xat (tix T ta tb a c) a ta) (xat (tix T ta tb a c) c tb) (xat (tix T ta tb a c) w tw)), hL.fr fT (by decide) (by decide), ?_, hH.fr fT (by decide) (by decide), hD.fr fT (by decide) (by decide), (?_ : invG t N 0 false)⟩
          · refine ⟨⟨h33, t60, fun q hq => ?_⟩, by rw [(hoff 16 (by decide)).1, (hO8.1 16 (by decide)).1]; exact k1, fun q hq => ?_, uniq_rep t4 hat, fun i j hi hj => ?_⟩
            · rw [h87, h88, h89]
              by_cases e : q = tix T ta tb a c
              · rw [if_pos e, if_pos e, if_pos e, e, xat_at, xat_at, xat_at]; exact ⟨rfl, rfl, by omega, by omega, rfl⟩
              · rw [if_neg e, if_neg e, if_neg e, xat_ne e, xat_ne e, xat_ne e]; exact t1.2.2 q hq
            · by_cases e : q = tix T ta tb a c
              · rw [e, xat_at, xat_at, xat_at]; exact ⟨ha, hc, hne, hw⟩
              · rw [xat_ne e, xat_ne e, xat_ne e]; exact t3 q hq
            · rw [(hoff 28 (by decide)).1, (hO8.1 28 (by decide)).1, rowSet_sp k3 hj, t5 i j hi hj, tix_rep hat]
              by_cases e : sp a c i j = true
              · rw [if_pos e, decide_eq_true (tix_in.mpr ⟨_, hx, by rw [sp_eq hat]; exact e⟩)]
              · rw [if_neg e]
          · have q24 : t.1 24 = s.1 24 := (hoff 24 (by decide)).1.trans (hO8.1 24 (by decide)).1
            have q25 : t.1 25 = s.1 25 := (hoff 25 (by decide)).1.trans (hO8.1 25 (by decide)).1
            have q26 : t.1 26 = s.1 26 := (hoff 26 (by decide)).1.trans (hO8.1 26 (by decide)).1
            have q27 : t.1 27 = s.1 27 := (hoff 27 (by decide)).1.trans (hO8.1 27 (by decide)).1
            refine ⟨?_, ((k4.padd h30 ha hc hne).z hP.2).eq q27 q24⟩
            intro i j hji hi
            rw [(fT.1 3 (by decide) (by decide)).1]
            unfold cachedAt
            rw [q24, q25, q26, q27, tix_rep hat]
            by_cases e : sp a c i j = true
            · have hti : tix T ta tb i j = tix T ta tb a c := tix_hit t4 hx (by rw [sp_eq hat]; exact e)
              have := k4.hit (by omega) (by omega) e
              refine ⟨nI 0, fun hz => absurd (hti ▸ hx) hz, ?_⟩
              unfold wgt
              rw [tix_rep hat, hti, if_pos hx, xat_at, decide_eq_true hx]
              exact this
            · obtain ⟨g, hg, hcc⟩ := hP.1 i j hji hi
              refine ⟨g, hg, ?_⟩
              have := k4.other (by omega) (by omega) (by omega) (by omega) e hcc
              unfold wgt at this ⊢
              rw [tix_rep hat]
              by_cases hij : tix T ta tb i j < T
              · have hne2 : tix T ta tb i j ≠ tix T ta tb a c := fun z => by
                  have h1 := tix_at hij
                  rw [z, sp_eq hat] at h1
                  exact e h1
                rw [if_pos hij] at this ⊢
                rw [xat_ne hne2]
                exact this
              · rw [if_neg hij] at this ⊢
                exact this
          · exact invG_wiped hG (hO.1 42 (by decide)).1 (hO.1 43 (by decide)).1 w1 w2 w3 (hoff 42 (by decide)).1 (hoff 42 (by decide)).2 (hoff 43 (by decide)).1 h56 h57 h60
        · rw [decide_eq_false hx, t2]
          refine bq_f (by decide) (br_lt (by omega) (by decide) (fun hlt => hJ6 ?_) (fun hge => ?_))
          · refine ⟨_, fun o l => s_tell_false hR a c T w (by omega) (by omega) t2 (by rw [t5 a c (by omega) (by omega)]; exact decide_eq_false hx), fun r s hp => ?_⟩
            obtain ⟨rfl, hO, k1, k2, k3, k4⟩ := hp
            refine ⟨rfl, hO.2, ⟨_, fun o l => s_wipe (hO.2.trans hR), fun r s8 hp => ?_⟩⟩
            obtain ⟨rfl, hO8, w1, w2, w4, w3⟩ := hp
            refine ⟨rfl, hO8.2, bq_f (by rw [decide_eq_false hx]; decide) ?_⟩
            have f8 : Fr [16, 24, 25, 26, 27, 28, 42, 43] [] σ s8 := ((Fr.of (js := []) hO (by decide)).mono (by decide) (by simp)).trans ((Fr.of (js := []) hO8 (by decide)).mono (by decide) (by simp))
            refine ref s8 T (T + 1) (nI 1) f8 (.inl ⟨rfl, hx, rfl, hlt, rfl⟩) (fun t hoff h33 h87 h88 h89 h56 h57 h60 fT => ?_)
            refine ⟨fT.2.2.trans hR, N, bk, nm, td, yr, fa, C, kind, st, cd, op, num, T + 1, xat T a ta, xat T c tb, xat T w tw, most, ob, span, F, fx, fy, ft, h, m, kz, kh, tp, 0, false, hE.fr fT (by decide) (by decide), hRu.fr fT (by cases b <;> decide) (by decide), (?_ : invT t N (T + 1) (xat T a ta) (xat T c tb) (xat T w tw)), hL.fr fT (by decide) (by decide), ?_, hH.fr fT (by decide) (by decide), hD.fr fT (by decide) (by decide), (?_ : invG t N 0 false)⟩
            · refine ⟨⟨h33, by omega, fun q hq => ?_⟩, by rw [(hoff 16 (by decide)).1, (hO8.1 16 (by decide)).1]; exact k1, fun q hq => ?_, uniq_app t4 hx, fun i j hi hj => ?_⟩
              · rw [h87, h88, h89]
                by_cases e : q = T
                · rw [if_pos e, if_pos e, if_pos e, e, xat_at, xat_at, xat_at]; exact ⟨rfl, rfl, by omega, by omega, rfl⟩
                · rw [if_neg e, if_neg e, if_neg e, xat_ne e, xat_ne e, xat_ne e]; exact t1.2.2 q (by omega)
              · by_cases e : q = T
                · rw [e, xat_at, xat_at, xat_at]; exact ⟨ha, hc, hne, hw⟩
                · rw [xat_ne e, xat_ne e, xat_ne e]; exact t3 q (by omega)
              · rw [(hoff 28 (by decide)).1, (hO8.1 28 (by decide)).1, rowSet_sp k3 hj, t5 i j hi hj, tix_app]
                by_cases e : sp a c i j = true
                · rw [if_pos e]
                  by_cases z : tix T ta tb i j < T
                  · rw [if_pos z, decide_eq_true (show tix T ta tb i j < T + 1 by omega)]
                  · rw [if_neg z, if_pos e, decide_eq_true (show T < T + 1 by omega)]
                · rw [if_neg e]
                  by_cases z : tix T ta tb i j < T
                  · rw [if_pos z, decide_eq_true (show tix T ta tb i j < T + 1 by omega), decide_eq_true z]
                  · rw [if_neg z, if_neg e, decide_eq_false z, decide_eq_false (show ¬ T + 1 < T + 1 by omega)]
            · have q24 : t.1 24 = s.1 24 := (hoff 24 (by decide)).1.trans (hO8.1 24 (by decide)).1
              have q25 : t.1 25 = s.1 25 := (hoff 25 (by decide)).1.trans (hO8.1 25 (by decide)).1
              have q26 : t.1 26 = s.1 26 := (hoff 26 (by decide)).1.trans (hO8.1 26 (by decide)).1
              have q27 : t.1 27 = s.1 27 := (hoff 27 (by decide)).1.trans (hO8.1 27 (by decide)).1
              refine ⟨?_, ((k4.padd h30 ha hc hne).z hP.2).eq q27 q24⟩
              intro i j hji hi
              rw [(fT.1 3 (by decide) (by decide)).1]
              unfold cachedAt
              rw [q24, q25, q26, q27]
              by_cases e : sp a c i j = true
              · have hti : ¬ tix T ta tb i j < T := fun z => hx (tix_in.mpr ⟨_, z, by have h1 := tix_at z; rw [sp_iff] at h1 e ⊢; omega⟩)
                have := k4.hit (by omega) (by omega) e
                refine ⟨nI 0, fun hz => absurd (by rw [tix_app, if_neg hti, if_pos e]; omega) hz, ?_⟩
                unfold wgt
                rw [tix_app, if_neg hti, if_pos e, if_pos (show T < T + 1 by omega), xat_at, decide_eq_true (show T < T + 1 by omega)]
                exact this
              · obtain ⟨g, hg, hcc⟩ := hP.1 i j hji hi
                have := k4.other (by omega) (by omega) (by omega) (by omega) e hcc
                by_cases hij : tix T ta tb i j < T
                · refine ⟨g, fun hz => absurd (by rw [tix_app, if_pos hij]; omega) hz, ?_⟩
                  unfold wgt at this ⊢
                  rw [tix_app, if_pos hij, if_pos (show tix T ta tb i j < T + 1 by omega), xat_ne (by omega), decide_eq_true (show tix T ta tb i j < T + 1 by omega)]
                  rw [if_pos hij, decide_eq_true hij] at this
                  exact this
                · refine ⟨g, fun _ => hg hij, ?_⟩
                  unfold wgt at this ⊢
                  rw [tix_app, if_neg hij, if_neg e, if_neg (show ¬ T + 1 < T + 1 by omega), decide_eq_false (show ¬ T + 1 < T + 1 by omega)]
                  rw [if_neg hij, decide_eq_false hij] at this
                  exact this
            · exact invG_wiped hG (hO.1 42 (by decide)).1 (hO.1 43 (by decide)).1 w1 w2 w3 (hoff 42 (by decide)).1 (hoff 42 (by decide)).2 (hoff 43 (by decide)).1 h56 h57 h60
          · rintro s2 rfl
            have hT3 : toldM (sI (sL σ 115 0 (i2l (-1))) 65 0 (nI 0)) T ta tb tw := by
              unfold toldM at t1 ⊢
              exact t1
            refine fI_i (p_isP (N := N) hN h30 rfl ha hc hne (bq_f (by decide) ?_))
            intro J6b hJ6b J26 hJ26
            have h26 : J26 := by
              refine hJ26 (hJ6b _ (p_may_ok (by decide) rfl (bq_f (by decide) (p_toldV hT3 (by omega) (by omega) ?_))))
              rw [if_neg hx]
              intro J11 hJ11
              exact bq_t rfl (bq_t (by rw [hT3.1, show T = 60 by omega]) (fin.scr0 hI0))
            exact ⟨fun _ => h26, fun hv => p_within (by rw [okw_in hw hv]; exact bq_f (by decide) h26)⟩
      exact ⟨fun _ => h13, fun hv => q_within (by rw [okw_in hw hv]; exact bq_f (by decide) h13)⟩
    · intro J2 hJ2 J13 hJ13
      refine bq_f hw1 (q_within ?_)
      rw [hw2]
      refine bq_t rfl (hJ2 _ (q_refuse_no rfl ⟨nI 2, .inr ⟨rfl, rfl⟩, fI_i (p_isP (N := N) hN h30 rfl ha hc hne (bq_f (by decide) ?_))⟩))
      intro J6 hJ6 J26 hJ26
      refine bq_f hw1 (p_within ?_)
      rw [hw2]
      refine bq_t rfl (hJ6 _ (p_may_bad rfl (by decide) rfl (bq_t rfl (fin.no hI0 (.inr rfl)))))
  · exact q_pair_no hN1 h30 E h2 ⟨nI k, h1, fI_i (p_isP_no (N := N) hN h30 rfl k h3 (bq_t rfl (fin.no hI0 (by omega))))⟩
