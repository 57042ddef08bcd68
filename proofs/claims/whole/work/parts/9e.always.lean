/-! always -/
def bitN (i j : Nat) : Nat := j * (j - 1) / 2 + i
theorem bitN_lt {i j : Nat} (hij : i < j) (hj : j < 10) : bitN i j < 54 := by
  have := half_le j (by omega)
  unfold bitN
  omega
theorem p_pairBit {t : gSt} {i j : Nat} (hj : j < 10) {Q : Int64 → Prop} (q : Q (shlL (lN 1) (nI (bitN i j)))) : W_X10_pairBit (nI i) (nI j) Q t := by
  unfold W_X10_pairBit
  refine ⟨by decide, ?_⟩
  rw [half_i j (by omega), nI_add]
  exact q
theorem p_bitOf {t : gSt} {i j : Nat} (hj : j < 10) {Q : Int32 → Prop} (q : Q (nI (bitN i j))) : W_X12_bitOf (nI i) (nI j) Q t := by
  unfold W_X12_bitOf
  refine ⟨by decide, ?_⟩
  rw [half_i j (by omega), nI_add]
  exact q
/-- 1 always, 0 free, -1 nowhere -/
def togA (x : BLs) (k : Nat) : Int32 := if bL x.2.1 k then nI 1 else if bL x.2.2.1 k then nI 0 else -1
theorem mnI_n {i j : Nat} (hi : i < 1000) (hj : j < 1000) : mnI (nI i) (nI j) = nI (if i < j then i else j) := by
  unfold mnI
  by_cases z : i < j
  · rw [if_pos z, if_neg (by rw [nI_ltI (by omega) (by omega)]; omega)]
  · rw [if_neg z]
    by_cases y : j < i
    · rw [if_pos (nI_lt y (by omega))]
    · rw [if_neg (by rw [nI_ltI (by omega) (by omega)]; exact y)]
      rw [show i = j by omega]
theorem mxI_n {i j : Nat} (hi : i < 1000) (hj : j < 1000) : mxI (nI i) (nI j) = nI (if i < j then j else i) := by
  unfold mxI
  by_cases z : i < j
  · rw [if_pos z, if_pos (nI_lt z (by omega))]
  · rw [if_neg z, if_neg (by rw [nI_ltI (by omega) (by omega)]; exact z)]
theorem p_tog {t : gSt} {x : BLs} (h14 : t.2.1 56 14 = x.2.1) (h15 : t.2.1 56 15 = x.2.2.1) {k : Nat} (hk : k < 64) {Q : Int32 → Prop} (q : Q (togA x k)) : (((t.2.1 56 14) &&& shlL (lN 1) (nI k)) = (lN 0) → (((((t.2.1 56 15) &&& shlL (lN 1) (nI k)) = (lN 0) → (Q ((-1 : Int32)))) ∧ (¬ ((t.2.1 56 15) &&& shlL (lN 1) (nI k)) = (lN 0) → (Q (nI 0)))))) ∧ (¬ ((t.2.1 56 14) &&& shlL (lN 1) (nI k)) = (lN 0) → (Q (nI 1))) := by
  unfold togA at q
  rw [h14, h15, and_one hk, and_one hk]
  refine ⟨fun z => ⟨fun y => ?_, fun y => ?_⟩, fun z => ?_⟩
  · rw [if_neg (by rw [z]; decide), if_neg (by rw [y]; decide)] at q; exact q
  · rw [if_neg (by rw [z]; decide), if_pos (ts_nf y)] at q; exact q
  · rw [if_pos (ts_nf z)] at q; exact q
theorem p_togM {u : gSt} {x : BLs} (h79 : u.2.1 65 79 = x.2.1) (h80 : u.2.1 65 80 = x.2.2.1) {i j : Nat} (hij : i < j) (hj : j < 10) {Q : Int32 → gSt → Prop} (q : Q (togA x (bitN i j)) u) : W_X12_bitOf (nI i) (nI j) (fun x14 => ((((shrL (u.2.1 65 79) x14) &&& (lN 1)) = (lN 1) → (Q (nI 1) u)) ∧ (¬ ((shrL (u.2.1 65 79) x14) &&& (lN 1)) = (lN 1) → (W_X12_bitOf (nI i) (nI j) (fun x16 => ((((shrL (u.2.1 65 80) x16) &&& (lN 1)) = (lN 0) → (Q ((-1 : Int32)) u)) ∧ (¬ ((shrL (u.2.1 65 80) x16) &&& (lN 1)) = (lN 0) → (Q (nI 0) u)))) u)))) u := by
  have hk := bitN_lt hij hj
  refine p_bitOf hj ?_
  unfold togA at q
  rw [h79, shr_is1 (by omega)]
  refine ⟨fun z => ?_, fun z => p_bitOf hj ?_⟩
  · rw [if_pos z] at q; exact q
  · rw [h80, shr_is0 (by omega)]
    rw [if_neg z] at q
    refine ⟨fun y => ?_, fun y => ?_⟩
    · rw [if_neg (by rw [y]; decide)] at q; exact q
    · rw [if_pos (ts_nf y)] at q; exact q
section Ctxs
variable {b : Bool} {σ : gSt} {N : Nat} {bk nm td yr : Nat → Nat} {fa : Nat → Int32} {most : Nat} {wt : Nat → Nat → Int32} {nv ti ap : Nat → Nat → Bool} {h : Nat → Nat}
theorem Ctx.isP (hX : Ctx b σ N bk nm td yr fa most wt nv ti ap h) {s : gSt} {v : Int64} (hs : OutM σ s v) {a c : Nat} (ha : a < N) (hc : c < N) (hne : a ≠ c) {Q : Int32 → gSt → Prop} (q : Q (nI 1) s) : W_X12_isPair (nI a) (nI c) Q s := p_isP ((hs.1.2.1 1 (by decide)).1.trans hX.2.2.2.1.1) hX.2.1 hs.2.2.1 ha hc hne q
end Ctxs
theorem op_always {b : Bool} {σ : gSt} (hI : Inv b σ) (p r : Int32) : OKI (fun Q QX s => W_X11_always p r Q QX s) (W_X12_always p r) cdP σ := by
  obtain ⟨N, bk, nm, td, yr, fa, most, wt, nv, ti, ap, h, hX⟩ := hI.ctx
  have h30 := hX.2.1
  have hEn := hX.2.2.1
  unfold OKI W_X11_always
  rcases pair_or p r N (by omega) with ⟨a, c, ha, hc, hne, rfl, rfl⟩ | ⟨E, k, h1, h2, h3⟩
  · obtain ⟨p, hp⟩ : ∃ p, p = rc N (fun j => decide (j < N)) (hgP wt ti) a := ⟨_, rfl⟩
    have hpa : p a = true := by rw [hp]; exact rc_self a
    refine q_pair hEn.1 h30 ha hc hne (hX.listC ha hp (fun k t hO k10 => bq_f neg2_le ?_) (fun k k2 t hO k10 => bq_f neg1_le ?_) (fun k d hd t hO hs => bq_t pos1_le ?_))
    · rintro s2 rfl
      have hs := OutM.start (v := i2l (-2)) hO (by decide) (by decide) k10
      refine fI_i (hX.isP hs ha hc hne (bq_f (by decide) ?_))
      unfold W_X12_areOfOne
      exact hX.partM ha hp hs (fun _ u hu _ _ => bq_f (by decide) (bq_t rfl (hu.fin hI rfl))) (fun k' => by omega) (fun k' => by omega)
    · rintro s2 rfl
      have hs := OutM.start (v := i2l (-2)) hO (by decide) (by decide) k10
      refine fI_i (hX.isP hs ha hc hne (bq_f (by decide) ?_))
      unfold W_X12_areOfOne
      exact hX.partM ha hp hs (fun k' => by omega) (fun _ _ u hu _ _ u70 => bq_f (by decide) (bq_t rfl (hu.fin hI rfl))) (fun _ d hd => by rw [k2] at hd; cases hd)
    · generalize hgL : lsA (fa_cnt p N) (rmM most) (plW wt p N) (plW ap p N) (plW ti p N) d = L at hs
      have hRl := hs.2.2.2
      rw [hgL] at hRl
      have model : ∀ v : Int32, (p c = true → v = togA L (if fa_cnt p a < fa_cnt p c then bitN (fa_cnt p a) (fa_cnt p c) else bitN (fa_cnt p c) (fa_cnt p a))) → (p c = false → v = -2) → ∀ s2, s2 = sL t 115 0 (i2l v) → W_X12_always (nI a) (nI c) (fun w t => fin (nI 0) (i2l w) t) s2 := by
        rintro v hv1 hv2 s2 rfl
        have hs := OutM.start (v := i2l v) hO (by decide) (by decide) hs.2.2.1
        refine fI_i (hX.isP hs ha hc hne (bq_f (by decide) ?_))
        unfold W_X12_areOfOne
        refine hX.partM ha hp hs (fun k' => by omega) (fun _ k2 => by rw [k2] at hd; cases hd) (fun _ d2 hd2 u hu hP _ hB => bq_t rfl (rI_i (by omega) ?_))
        rw [hd, Option.some.injEq] at hd2
        subst hd2
        rw [hgL] at hB
        rw [hP.2.2 c hc]
        refine br_z (fun hpc => bq_t rfl (hu.fin hI (by rw [hv2 hpc]))) (fun hpc => bq_f (by decide) ?_)
        have hv := hv1 hpc
        have la := fa_cnt_ltn (n := N) ha hpa
        have lc := fa_cnt_ltn (n := N) hc hpc
        intro J9 hJ9
        refine br_le (by omega) (by omega) (fun hca => ?_) (fun hac => ?_)
        · have hlt := fa_cnt_ltn (n := a) (show c < a by omega) hpc
          refine hJ9 _ (p_placeM h30 hP hc hpc ?_)
          intro J12 hJ12
          refine bq_t (nI_le hca (by omega)) (hJ12 _ (p_placeM h30 hP ha hpa (p_togM (Q := fun w t => fin (nI 0) (i2l w) t) hB.2.2.2.2.2.2.1 hB.2.2.2.2.2.2.2.1 hlt (by omega) (hu.fin hI ?_))))
          rw [hv, if_neg (by omega)]
        · have hlt := fa_cnt_ltn (n := c) (show a < c by omega) hpa
          refine hJ9 _ (p_placeM h30 hP ha hpa ?_)
          intro J12 hJ12
          refine bq_f (by rw [nI_leI (by omega) (by omega)]; omega) (hJ12 _ (p_placeM h30 hP hc hpc (p_togM (Q := fun w t => fin (nI 0) (i2l w) t) hB.2.2.2.2.2.2.1 hB.2.2.2.2.2.2.2.1 hlt (by omega) (hu.fin hI ?_))))
          rw [hv, if_pos hlt]
      unfold W_X10_togetherness
      refine p_placeOf h30 k hs.1.1 hs.2.1 ha (p_placeOf h30 k hs.1.1 hs.2.1 hc ?_)
      rw [if_pos hpa]
      have la := fa_cnt_ltn (n := N) ha hpa
      refine bq_f (nI_nm1 (by omega)) ?_
      by_cases hpc : p c = true
      · have lc := fa_cnt_ltn (n := N) hc hpc
        rw [if_pos hpc]
        refine bq_f (nI_nm1 (by omega)) ?_
        rw [mnI_n (by omega) (by omega), mxI_n (by omega) (by omega)]
        have hneq : fa_cnt p a ≠ fa_cnt p c := fun w => by
          have h1 := memP_of ha hpa
          rw [w, memP_of hc hpc] at h1
          exact hne h1.symm
        have fin2 : ∀ k, k < 64 → k = (if fa_cnt p a < fa_cnt p c then bitN (fa_cnt p a) (fa_cnt p c) else bitN (fa_cnt p c) (fa_cnt p a)) → _ := fun k hk64 hk => p_tog (Q := fun x => ∀ s2, s2 = sL t 115 0 (i2l x) → W_X12_always (nI a) (nI c) (fun w t => fin (nI 0) (i2l w) t) s2) hRl.2.2.2.2.1 hRl.2.2.2.2.2.1 hk64 (model _ (fun _ => by rw [hk]) (fun w => by rw [hpc] at w; cases w))
        by_cases z : fa_cnt p a < fa_cnt p c
        · rw [if_pos z, if_pos z]
          have := bitN_lt z (show fa_cnt p c < 10 by omega)
          exact p_pairBit (by omega) (fin2 _ (by omega) (by rw [if_pos z]))
        · rw [if_neg z, if_neg z]
          have := bitN_lt (show fa_cnt p c < fa_cnt p a by omega) (show fa_cnt p a < 10 by omega)
          exact p_pairBit (by omega) (fin2 _ (by omega) (by rw [if_neg z]))
      · rw [if_neg hpc]
        exact bq_t rfl (model _ (fun w => absurd w hpc) (fun _ => rfl))
  · refine q_pair_no hEn.1 h30 E h2 ⟨nI k, h1, fI_i (p_isP_no (N := N) hX.2.2.2.1.1 h30 rfl k h3 (bq_t rfl (fin.no hI (by omega))))⟩
