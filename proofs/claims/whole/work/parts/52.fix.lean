/-! fix, loose -/
theorem tie_iff {F : Nat} {fx fy : Nat → Nat} {ft : Nat → Bool} {a c : Nat} : (tieF F fx fy ft a c || cutF F fx fy ft a c) = decide (tix F fx fy a c < F) := by
  unfold tieF cutF
  cases decide (tix F fx fy a c < F) <;> cases ft (tix F fx fy a c) <;> rfl
theorem sp_self (a c : Nat) : sp a c a c = true := by simp [sp]
/-- one more is fixed -/
theorem tie_app {F : Nat} {fx fy : Nat → Nat} {ft : Nat → Bool} {x y a c : Nat} {t : Bool} (hn : ¬ tix F fx fy x y < F) : tieF (F + 1) (xat F x fx) (xat F y fy) (xat F t ft) a c = (if sp x y a c then t else tieF F fx fy ft a c) ∧ cutF (F + 1) (xat F x fx) (xat F y fy) (xat F t ft) a c = (if sp x y a c then !t else cutF F fx fy ft a c) := by
  unfold tieF cutF
  rw [tix_app]
  by_cases h : tix F fx fy a c < F
  · have hs : ¬ sp x y a c = true := fun hs => by
      have h1 := tix_at h
      refine hn (tix_in.mpr ⟨_, h, ?_⟩)
      rw [sp_iff] at h1 hs ⊢; omega
    rw [if_pos h, if_neg hs, if_neg hs, xat_ne (by omega), decide_eq_true h, decide_eq_true (show tix F fx fy a c < F + 1 by omega)]
    exact ⟨rfl, rfl⟩
  · rw [if_neg h]
    by_cases hs : sp x y a c = true
    · rw [if_pos hs, if_pos hs, if_pos hs, xat_at, decide_eq_true (show F < F + 1 by omega)]
      exact ⟨rfl, rfl⟩
    · rw [if_neg hs, if_neg hs, if_neg hs, decide_eq_false (show ¬ F + 1 < F + 1 by omega), decide_eq_false h]
      exact ⟨rfl, rfl⟩
theorem tie_del {F k : Nat} {fx fy : Nat → Nat} {ft : Nat → Bool} (hu : uniq F fx fy) (hk : k < F) {a c : Nat} : tieF (F - 1) (xat k (fx (F - 1)) fx) (xat k (fy (F - 1)) fy) (xat k (ft (F - 1)) ft) a c = (if sp (fx k) (fy k) a c then false else tieF F fx fy ft a c) ∧ cutF (F - 1) (xat k (fx (F - 1)) fx) (xat k (fy (F - 1)) fy) (xat k (ft (F - 1)) ft) a c = (if sp (fx k) (fy k) a c then false else cutF F fx fy ft a c) := by
  unfold tieF cutF
  by_cases hs : sp (fx k) (fy k) a c = true
  · rw [if_pos hs, if_pos hs, decide_eq_false (del_hit hu hk hs)]
    exact ⟨rfl, rfl⟩
  · obtain ⟨h1, h2⟩ := del_other ft hu hk hs
    rw [if_neg hs, if_neg hs, decide_eq_decide.mpr h1]
    by_cases h : tix F fx fy a c < F
    · rw [h2 h]; exact ⟨rfl, rfl⟩
    · rw [decide_eq_false h]; exact ⟨rfl, rfl⟩
theorem rowSet_sp {f g : Nat → Int32} {a c : Nat} {on : Bool} (h : rowSet f g a c on) {i j : Nat} (hj : j < 32) : bt (g i) j = if sp a c i j then on else bt (f i) j := by
  rw [h i j hj]
  have : ((i = a ∧ j = c) ∨ (i = c ∧ j = a)) ↔ sp a c i j = true := by rw [sp_iff]; omega
  by_cases e : sp a c i j = true
  · rw [if_pos (this.mpr e), if_pos e]
  · rw [if_neg (fun q => e (this.mp q)), if_neg e]
theorem op_fix {b : Bool} {σ : gSt} (hI : Inv b σ) (p r : Int32) (tg : Bool) : OKI (fun Q QX s => W_X11_fix p r (zI tg) Q QX s) (W_X12_fix p r (zI tg)) cdP σ := by
  obtain ⟨N, most, ob, span, F, fx, fy, ft, h30, hN1, hN, hL⟩ := hI.sl
  have hR := hI.1
  have hL0 := hL
  obtain ⟨l1, l2, l3, lm, lo, ls, l7, l8⟩ := hL
  have hF20 := l1.2.1
  unfold OKI W_X11_fix
  rcases pair_or p r N (by omega) with ⟨a, c, ha, hc, hne, rfl, rfl⟩ | ⟨E, k, h1, h2, h3⟩
  · obtain ⟨b1, b2⟩ := l8 a c (by omega) (by omega)
    refine q_pair hN1 h30 ha hc hne ⟨_, fun o l => s_isFixed hR a c (by omega) (by omega), ?_⟩
    rw [b1, b2, tie_iff]
    refine br_z (fun hf => ?_) (fun ht => ?_)
    · have hnx : ¬ tix F fx fy a c < F := of_decide_eq_false hf
      rw [l7]
      refine br_lt (by omega) (by decide) (fun hlt => ?_) (fun hge => ?_)
      · have go : ∀ (s : gSt) (K : Nat), Off [30, 31, 32] σ s → s.1 30 2 = nI (F + 1) → (∀ j, j ≠ 2 → s.1 30 j = σ.1 30 j) → (∀ i j, i < 30 → j < 32 → bt (s.1 31 i) j = (if sp a c i j then tg else bt (σ.1 31 i) j) ∧ bt (s.1 32 i) j = (if sp a c i j then !tg else bt (σ.1 32 i) j)) → ∀ s2, s2 = sL s 115 0 (i2l (s.1 30 2)) → W_X12_fix (nI a) (nI c) (zI tg) (fun w t => fin (nI 0) (i2l w) t) s2 := by
          rintro s K hO k1 k2 k3 s2 rfl
          have f0 : Fr [30, 31, 32, 115] [0] σ (sI (sL s 115 0 (i2l (s.1 30 2))) 65 0 (nI 0)) := (((Fr.of (js := []) hO (by decide)).mono (by simp) (by simp)).l (by simp) (by decide)).f (by simp)
          have n1 : (sI (sL s 115 0 (i2l (s.1 30 2))) 65 0 (nI 0)).1 65 1 = nI N := (f0.2.1 1 (by simp)).1.trans hN
          have hF0 : fixM (sI (sL s 115 0 (i2l (s.1 30 2))) 65 0 (nI 0)) F fx fy ft := by
            unfold fixM
            rw [(f0.2.1 44 (by simp)).1, (f0.1 94 (by decide) (by decide)).1, (f0.1 95 (by decide) (by decide)).1, (f0.1 96 (by decide) (by decide)).1]
            exact l1
          refine fI_i (p_isP (N := N) n1 h30 rfl ha hc hne (bq_f (by decide) (p_fixV hF0 (by omega) (by omega) ?_)))
          rw [if_neg hnx]
          refine bq_t rfl ?_
          generalize hs3 : sI (sL s 115 0 (i2l (s.1 30 2))) 65 0 (nI 0) = s3 at *
          refine bq_f (by rw [hF0.1, nI_eq (by omega) (by decide)]; omega) (wI_e hF0.1 (by omega) (wI_e (a := F) hF0.1 (by omega) (wZ_e (a := F) (zI_01 _) hF0.1 (by omega) (fI_i ?_))))
          have e44 : (sI (sI (sI s3 94 F (nI a)) 95 F (nI c)) 96 F (zI tg)).1 65 44 = nI F := hF0.1
          rw [e44, nI_add]
          have f2 : Fr (30 :: 31 :: 32 :: 94 :: 95 :: 96 :: scrC) (41 :: 42 :: 43 :: 44 :: scrJ) σ (sI (sI (sI (sI s3 94 F (nI a)) 95 F (nI c)) 96 F (zI tg)) 65 44 (nI (F + 1))) := ((((f0.mono (by decide) (by decide)).i (by decide) (by decide)).i (by decide) (by decide)).i (by decide) (by decide)).f (by decide)
          have c30 : ∀ i, (sI (sI (sI (sI s3 94 F (nI a)) 95 F (nI c)) 96 F (zI tg)) 65 44 (nI (F + 1))).1 30 i = s.1 30 i := fun i => by subst hs3; rfl
          have c31 : ∀ i, (sI (sI (sI (sI s3 94 F (nI a)) 95 F (nI c)) 96 F (zI tg)) 65 44 (nI (F + 1))).1 31 i = s.1 31 i := fun i => by subst hs3; rfl
          have c32 : ∀ i, (sI (sI (sI (sI s3 94 F (nI a)) 95 F (nI c)) 96 F (zI tg)) 65 44 (nI (F + 1))).1 32 i = s.1 32 i := fun i => by subst hs3; rfl
          have c65 : ∀ i, i ≠ 44 → i ≠ 0 → (sI (sI (sI (sI s3 94 F (nI a)) 95 F (nI c)) 96 F (zI tg)) 65 44 (nI (F + 1))).1 65 i = σ.1 65 i := fun i h1 h2 => by
            rw [sI_get, if_neg (fun q => h1 q.2)]
            exact (f0.2.1 i (by simpa using h2)).1
          have hbk : fx 0 = fx 0 := rfl
          refine ⟨?_, fun _ => ?_, b, hI.newL f2 hN h30 (most2 := most) (ob2 := ob) (span2 := span) (F2 := F + 1) (fx2 := xat F a fx) (fy2 := xat F c fy) (ft2 := xat F tg ft) ⟨⟨?_, by omega, fun q hq => ?_⟩, fun q hq => ?_, uniq_app l3 hnx, ⟨by rw [c65 41 (by decide) (by decide)]; exact lm.1, by rw [c30, k2 5 (by decide)]; exact lm.2.1, lm.2.2⟩, ⟨by rw [c65 42 (by decide) (by decide)]; exact lo.1, by rw [c30, k2 6 (by decide)]; exact lo.2.1, lo.2.2⟩, ⟨by rw [c65 43 (by decide) (by decide)]; exact ls.1, by rw [c30, k2 7 (by decide)]; exact ls.2.1, ls.2.2⟩, by rw [c30]; exact k1, fun i j hi hj => ?_⟩⟩
          · subst hs3; rfl
          · have : (sI (sI (sI (sI s3 94 F (nI a)) 95 F (nI c)) 96 F (zI tg)) 65 44 (nI (F + 1))).2.1 115 0 = i2l (s.1 30 2) := by subst hs3; exact sL_out
            rw [this, k1, sI_get, if_pos ⟨rfl, rfl⟩]
          · rw [sI_get, if_pos ⟨rfl, rfl⟩]
          · have d94 : (sI (sI (sI (sI s3 94 F (nI a)) 95 F (nI c)) 96 F (zI tg)) 65 44 (nI (F + 1))).1 94 q = if q = F then nI a else σ.1 94 q := by
              have e : (sI (sI (sI (sI s3 94 F (nI a)) 95 F (nI c)) 96 F (zI tg)) 65 44 (nI (F + 1))).1 94 q = (sI s3 94 F (nI a)).1 94 q := rfl
              rw [e, sI_get, (f0.1 94 (by decide) (by decide)).1]; simp
            have d95 : (sI (sI (sI (sI s3 94 F (nI a)) 95 F (nI c)) 96 F (zI tg)) 65 44 (nI (F + 1))).1 95 q = if q = F then nI c else σ.1 95 q := by
              have e : (sI (sI (sI (sI s3 94 F (nI a)) 95 F (nI c)) 96 F (zI tg)) 65 44 (nI (F + 1))).1 95 q = (sI (sI s3 94 F (nI a)) 95 F (nI c)).1 95 q := rfl
              rw [e, sI_get]
              have e2 : (sI s3 94 F (nI a)).1 95 q = s3.1 95 q := rfl
              rw [e2, (f0.1 95 (by decide) (by decide)).1]; simp
            have d96 : (sI (sI (sI (sI s3 94 F (nI a)) 95 F (nI c)) 96 F (zI tg)) 65 44 (nI (F + 1))).1 96 q = if q = F then zI tg else σ.1 96 q := by
              have e : (sI (sI (sI (sI s3 94 F (nI a)) 95 F (nI c)) 96 F (zI tg)) 65 44 (nI (F + 1))).1 96 q = (sI (sI (sI s3 94 F (nI a)) 95 F (nI c)) 96 F (zI tg)).1 96 q := rfl
              rw [e, sI_get]
              have e2 : (sI (sI s3 94 F (nI a)) 95 F (nI c)).1 96 q = s3.1 96 q := rfl
              rw [e2, (f0.1 96 (by decide) (by decide)).1]; simp
            rw [d94, d95, d96]
            by_cases e : q = F
            · subst e
              rw [if_pos rfl, if_pos rfl, if_pos rfl, xat_at, xat_at, xat_at]
              exact ⟨rfl, rfl, by omega, by omega, rfl⟩
            · rw [if_neg e, if_neg e, if_neg e, xat_ne e, xat_ne e, xat_ne e]
              exact l1.2.2 q (by omega)
          · by_cases e : q = F
            · subst e; rw [xat_at, xat_at]; exact ⟨ha, hc, hne⟩
            · rw [xat_ne e, xat_ne e]; exact l2 q (by omega)
          · rw [c31, c32, (tie_app hnx).1, (tie_app hnx).2, (k3 i j hi hj).1, (k3 i j hi hj).2, (l8 i j hi hj).1, (l8 i j hi hj).2]
            exact ⟨rfl, rfl⟩
        cases tg
        · refine ⟨_, fun o l => s_bind_false hR a c F (by omega) (by omega) l7, fun r s hp => ?_⟩
          obtain ⟨rfl, hO, k1, k2, k3⟩ := hp
          refine ⟨rfl, hO.2, go s 0 (hO.mono (by simp)) k1 k2 (fun i j hi hj => ⟨?_, rowSet_sp k3 hj⟩)⟩
          rw [(hO.1 31 (by decide)).1]
          by_cases e : sp a c i j = true
          · rw [if_pos e]
            have := (l8 i j hi hj).1
            rw [this]
            unfold tieF
            rw [decide_eq_false (fun h => hnx (tix_in.mpr ⟨_, h, by have h1 := tix_at h; rw [sp_iff] at h1 e ⊢; omega⟩))]
            rfl
          · rw [if_neg e]
        · refine ⟨_, fun o l => s_bind_true hR a c F (by omega) (by omega) l7, fun r s hp => ?_⟩
          obtain ⟨rfl, hO, k1, k2, k3⟩ := hp
          refine ⟨rfl, hO.2, go s 0 (hO.mono (by simp)) k1 k2 (fun i j hi hj => ⟨rowSet_sp k3 hj, ?_⟩)⟩
          rw [(hO.1 32 (by decide)).1]
          by_cases e : sp a c i j = true
          · rw [if_pos e]
            have := (l8 i j hi hj).2
            rw [this]
            unfold cutF
            rw [decide_eq_false (fun h => hnx (tix_in.mpr ⟨_, h, by have h1 := tix_at h; rw [sp_iff] at h1 e ⊢; omega⟩))]
            rfl
          · rw [if_neg e]
      · rintro s2 rfl
        have hF0 : fixM (sI (sL σ 115 0 (i2l (-1))) 65 0 (nI 0)) F fx fy ft := by
          unfold fixM at l1 ⊢
          exact l1
        refine fI_i (p_isP (N := N) hN h30 rfl ha hc hne (bq_f (by decide) (p_fixV hF0 (by omega) (by omega) ?_)))
        rw [if_neg hnx]
        exact bq_t rfl (bq_t (by rw [hF0.1, show F = 20 by omega]) (fin.scr0 hI))
    · have hx : tix F fx fy a c < F := of_decide_eq_true ht
      rintro s2 rfl
      have hF0 : fixM (sI (sL σ 115 0 (i2l (nI 0))) 65 0 (nI 0)) F fx fy ft := by
        unfold fixM at l1 ⊢
        exact l1
      refine fI_i (p_isP (N := N) hN h30 rfl ha hc hne (bq_f (by decide) (p_fixV hF0 (by omega) (by omega) ?_)))
      rw [if_pos hx]
      exact bq_f (nI_nm1 (by omega)) (fin.scr0 hI)
  · exact q_pair_no hN1 h30 E h2 ⟨nI k, h1, fI_i (p_isP_no (N := N) hN h30 rfl k h3 (bq_t rfl (fin.no hI (by omega))))⟩
