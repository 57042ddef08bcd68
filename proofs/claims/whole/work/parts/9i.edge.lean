/-! edge -/
def prT (x y : Nat) (T : Nat → Nat → Bool) (i j : Nat) : Bool := T i j || (decide (i = x ∧ j = y) || decide (i = y ∧ j = x))
theorem prT_xy {x y i j : Nat} {T : Nat → Nat → Bool} : prT x y T i j = false ↔ T i j = false ∧ ¬ ((i = x ∧ j = y) ∨ (i = y ∧ j = x)) := by
  unfold prT
  rw [Bool.or_eq_false_iff, Bool.or_eq_false_iff, decide_eq_false_iff_not, decide_eq_false_iff_not, not_or]
/-- settled: together, apart -/
theorem lw_tog {n rm x y : Nat} {A T : Nat → Nat → Bool} {a : Nat → Nat} (hxy : x ≠ y) (hx : x < n) (hy : y < n) : lwB 0 rm A (prT x y T) a n = true ↔ lwB 0 rm A T a n = true ∧ a x = a y := by
  have key : ∀ u v, v < u → u < n → (∀ i, 0 ≤ i → i < n → mayB 0 rm A (prT u v T) a i (a i) = true) → a u = a v := by
    intro u v hvu hu h
    have := (mayB_iff.mp (h u (Nat.zero_le _) hu)).1 v (Nat.zero_le _) hvu
    by_cases z : a v = a u
    · exact z.symm
    · rw [if_neg z, prT_xy] at this
      exact absurd (.inl ⟨rfl, rfl⟩) this.2
  have sym : ∀ u v, prT u v T = prT v u T := fun u v => by
    funext i j
    unfold prT
    rw [Bool.or_comm (decide (i = u ∧ j = v))]
  rw [lwB_iff, lwB_iff]
  constructor
  · intro h
    refine ⟨fun i h1 h2 => ?_, ?_⟩
    · have := mayB_iff.mp (h i h1 h2)
      refine mayB_iff.mpr ⟨fun j j1 j2 => ?_, this.2⟩
      have hj := this.1 j j1 j2
      by_cases z : a j = a i
      · rw [if_pos z] at hj ⊢; exact hj
      · rw [if_neg z] at hj ⊢; exact (prT_xy.mp hj).1
    · rcases Nat.lt_or_gt_of_ne hxy with z | z
      · exact (key y x z hy (fun i h1 h2 => by rw [sym y x]; exact h i h1 h2)).symm
      · exact key x y z hx h
  · rintro ⟨h, hxy2⟩ i h1 h2
    have := mayB_iff.mp (h i h1 h2)
    refine mayB_iff.mpr ⟨fun j j1 j2 => ?_, this.2⟩
    have hj := this.1 j j1 j2
    by_cases z : a j = a i
    · rw [if_pos z] at hj ⊢; exact hj
    · rw [if_neg z] at hj ⊢
      rw [prT_xy]
      refine ⟨hj, ?_⟩
      rintro (⟨rfl, rfl⟩ | ⟨rfl, rfl⟩)
      · exact z hxy2.symm
      · exact z hxy2
theorem lw_apt {n rm x y : Nat} {A T : Nat → Nat → Bool} {a : Nat → Nat} (hxy : x ≠ y) (hx : x < n) (hy : y < n) : lwB 0 rm (prT x y A) T a n = true ↔ lwB 0 rm A T a n = true ∧ ¬ a x = a y := by
  have key : ∀ u v, v < u → u < n → (∀ i, 0 ≤ i → i < n → mayB 0 rm (prT u v A) T a i (a i) = true) → ¬ a u = a v := by
    intro u v hvu hu h z
    have := (mayB_iff.mp (h u (Nat.zero_le _) hu)).1 v (Nat.zero_le _) hvu
    rw [if_pos z.symm, prT_xy] at this
    exact absurd (.inl ⟨rfl, rfl⟩) this.2
  have sym : ∀ u v, prT u v A = prT v u A := fun u v => by
    funext i j
    unfold prT
    rw [Bool.or_comm (decide (i = u ∧ j = v))]
  rw [lwB_iff, lwB_iff]
  constructor
  · intro h
    refine ⟨fun i h1 h2 => ?_, ?_⟩
    · have := mayB_iff.mp (h i h1 h2)
      refine mayB_iff.mpr ⟨fun j j1 j2 => ?_, this.2⟩
      have hj := this.1 j j1 j2
      by_cases z : a j = a i
      · rw [if_pos z] at hj ⊢; exact (prT_xy.mp hj).1
      · rw [if_neg z] at hj ⊢; exact hj
    · rcases Nat.lt_or_gt_of_ne hxy with z | z
      · exact fun w => key y x z hy (fun i h1 h2 => by rw [sym y x]; exact h i h1 h2) w.symm
      · exact key x y z hx h
  · rintro ⟨h, hxy2⟩ i h1 h2
    have := mayB_iff.mp (h i h1 h2)
    refine mayB_iff.mpr ⟨fun j j1 j2 => ?_, this.2⟩
    have hj := this.1 j j1 j2
    by_cases z : a j = a i
    · rw [if_pos z] at hj ⊢
      rw [prT_xy]
      refine ⟨hj, ?_⟩
      rintro (⟨rfl, rfl⟩ | ⟨rfl, rfl⟩)
      · exact hxy2 z.symm
      · exact hxy2 z
    · rw [if_neg z] at hj ⊢; exact hj
/-- what edge answers, and of which part -/
def edV (n rm : Nat) (W : Nat → Nat → Int32) (A T : Nat → Nat → Bool) (x y : Nat) (pc : Bool) : Int64 := if n ≤ 10 ∧ pc = true then (match mnS n rm W A (prT x y T) 0, mnS n rm W (prT x y A) T 0 with
  | some ct, some ca => lN ca - lN ct
  | _, _ => (-2147483648 : Int64)) else (-2147483648 : Int64)
theorem p_settle {t : gSt} {p : Nat → Bool} {N rm : Nat} {W : Nat → Nat → Int32} {A T : Nat → Nat → Bool} (h30 : N ≤ 30) (hn : fa_cnt p N ≤ 10) (hL : ldC t (fa_cnt p N) rm W A T) (h51 : ∀ i, i < fa_cnt p N → t.1 51 i = nI (memP p N i)) {a c : Nat} (ha : a < N) (hc : c < N) (hpa : p a = true) (hpc : p c = true) (hne : a ≠ c) (tog : Bool) {Q : gSt → Prop}
    (q : ∀ t2, Off [53, 54] t t2 → ldC t2 (fa_cnt p N) rm W (if tog then A else prT (fa_cnt p a) (fa_cnt p c) A) (if tog then prT (fa_cnt p a) (fa_cnt p c) T else T) → Q t2) : W_X5_settle (nI a) (nI c) (zI tog) Q t := by
  have la := fa_cnt_ltn (n := N) ha hpa
  have lc := fa_cnt_ltn (n := N) hc hpc
  have hneq : fa_cnt p a ≠ fa_cnt p c := fun w => by
    have h1 := memP_of ha hpa
    rw [w, memP_of hc hpc] at h1
    exact hne h1.symm
  unfold W_X5_settle
  refine p_placeOf h30 hn hL.1 h51 ha (p_placeOf h30 hn hL.1 h51 hc ?_)
  rw [if_pos hpa, if_pos hpc]
  refine bq_f (nI_nm1 (by omega)) (bq_f (nI_nm1 (by omega)) ?_)
  generalize fa_cnt p a = x at *
  generalize fa_cnt p c = y at *
  generalize fa_cnt p N = n at *
  obtain ⟨l1, l2, l3, l4, l5⟩ := hL
  have key : ∀ (f : Nat → Nat → Bool) (u v : Nat → Int32), rowSet u v x y true → (∀ i k, i < n → k < 32 → bt (u i) k = (decide (k < n) && decide (k ≠ i) && f i k)) → ∀ i k, i < n → k < 32 → bt (v i) k = (decide (k < n) && decide (k ≠ i) && prT x y f i k) := by
    intro f u v hr hu i k hi hk
    rw [hr i k hk, hu i k hi hk]
    unfold prT
    by_cases z : (i = x ∧ k = y) ∨ (i = y ∧ k = x)
    · rw [if_pos z]
      have : (decide (i = x ∧ k = y) || decide (i = y ∧ k = x)) = true := by
        rw [Bool.or_eq_true, decide_eq_true_iff, decide_eq_true_iff]; exact z
      rw [this, Bool.or_true, decide_eq_true (show k < n by omega), decide_eq_true (show k ≠ i by omega)]
      rfl
    · rw [if_neg z]
      have : (decide (i = x ∧ k = y) || decide (i = y ∧ k = x)) = false := by
        rw [← Bool.not_eq_true, Bool.or_eq_true, decide_eq_true_iff, decide_eq_true_iff]; exact z
      rw [this, Bool.or_false]
  refine br_z (fun htog => ?_) (fun htog => ?_)
  · subst htog
    refine ⟨_, fun o l => s_setBit (on := true) (by decide) (len := 10) rfl (by omega) (by omega) (by decide), fun r s2 hp => ⟨hp.1, hp.2.1.2, q s2 (hp.2.1.mono (by simp)) ⟨?_, ?_, ?_, ?_, ?_⟩⟩⟩
    · rw [(hp.2.1.1 50 (by decide)).1]; exact l1
    · rw [(hp.2.1.1 50 (by decide)).1]; exact l2
    · rw [(hp.2.1.1 52 (by decide)).1]; exact l3
    · exact key A _ _ hp.2.2 l4
    · rw [(hp.2.1.1 54 (by decide)).1]; exact l5
  · subst htog
    refine ⟨_, fun o l => s_setBit (on := true) (by decide) (len := 10) rfl (by omega) (by omega) (by decide), fun r s2 hp => ⟨hp.1, hp.2.1.2, q s2 (hp.2.1.mono (by simp)) ⟨?_, ?_, ?_, ?_, ?_⟩⟩⟩
    · rw [(hp.2.1.1 50 (by decide)).1]; exact l1
    · rw [(hp.2.1.1 50 (by decide)).1]; exact l2
    · rw [(hp.2.1.1 52 (by decide)).1]; exact l3
    · rw [(hp.2.1.1 53 (by decide)).1]; exact l4
    · exact key T _ _ hp.2.2 l5
section Ctxs
variable {b : Bool} {σ : gSt} {N : Nat} {bk nm td yr : Nat → Nat} {fa : Nat → Int32} {most : Nat} {wt : Nat → Nat → Int32} {nv ti ap : Nat → Nat → Bool} {h : Nat → Nat}
theorem Ctx.edgeC (hX : Ctx b σ N bk nm td yr fa most wt nv ti ap h) {a c : Nat} (ha : a < N) (hc : c < N) (hne : a ≠ c) {p : Nat → Bool} (hp : p = rc N (fun j => decide (j < N)) (hgP wt ti) a) {V : Int64} (hV : V = edV (fa_cnt p N) (rmM most) (plW wt p N) (plW ap p N) (plW ti p N) (fa_cnt p a) (fa_cnt p c) (p c)) {Q : Int64 → gSt → Prop}
    (q : ∀ t, Off clsK σ t → t.1 56 10 = nI 0 → (V = (-2147483648 : Int64) ∨ (fa_cnt p N ≤ 10 ∧ t.1 50 0 = nI (fa_cnt p N) ∧ ∀ i j, j < i → i < fa_cnt p N → t.1 52 (i * 10 + j) = plW wt p N i j)) → Q V t) : W_X11_edgeOf (nI a) (nI c) Q σ := by
  obtain ⟨hI, h30, hEn, hN, hm, hh, hS, hC, hM⟩ := hX
  have hR := hI.1
  have hle := fa_cnt_le p N
  have hrm : rmM most < 1000 := by have := hm.2.2; unfold rmM; split <;> omega
  have hcnt : 1 ≤ fa_cnt p N := by rw [hp]; exact rc_cnt ha
  have hpa : p a = true := by rw [hp]; exact rc_self a
  have hsy := hgP_sy hS
  unfold W_X11_edgeOf
  refine p_membersOf hR hC hS hEn.1 h30 ha (fun x t hO hx => p_bitCount ?_)
  rw [← hp] at hx
  have hNp : ∀ k, N ≤ k → p k = false := fun k hk => by rw [hp]; exact rc_big ha hk
  rw [fa_cnt_cong (q := p) (fun k hk => hx k), fa_cnt_32 h30 hNp]
  have g10 : t.1 56 10 = nI 0 := by rw [(hO.1 56 (by decide)).1]; exact hI.h10
  have void : V = (-2147483648 : Int64) → ∀ t2, Off clsK σ t2 → t2.1 56 10 = nI 0 → Q (-2147483648) t2 := fun hv t2 hO2 k => by
    have := q t2 hO2 k (.inl hv)
    rw [hv] at this
    exact this
  intro J6 hJ6
  have hb := @bit_test x c (by omega)
  rw [hx c] at hb
  refine br_lt (by decide) (by omega) (fun h10 => hJ6 (void ?_ t (hO.mono (by simp)) g10)) (fun hn => ⟨fun z => hJ6 (void ?_ t (hO.mono (by simp)) g10), fun z => ?_⟩)
  · rw [hV, edV, if_neg (fun w => by omega)]
  · rw [hV, edV, if_neg (fun w => by have w2 := w.2; rw [hb.mp z] at w2; cases w2)]
  · have hpc : p c = true := by
      cases h : p c
      · exact absurd (hb.mpr h) z
      · rfl
    have la := fa_cnt_ltn (n := N) ha hpa
    have lc := fa_cnt_ltn (n := N) hc hpc
    have e24 : (-2147483648 : Int32) = -2147483648 := rfl
    have hW : ∀ i j, j < i → i < fa_cnt p N → okW (plW wt p N i j) := fun i j hj hi => plW_ok hS hj hi
    refine p_load (hO.2.trans hR) (hEn.off hO (by decide) (by decide)) h30 hm.2.2 (by rw [(hO.1 30 (by decide)).1]; exact hm.2.1) (hC.off hO (by decide)) hS (fun k _ => hx k) hNp hn (fun t1 hO1 hL1 h51 => ?_)
    refine p_settle h30 hn hL1 h51 ha hc hpa hpc hne true (fun t2 hO2 hL2 => ?_)
    rw [if_pos rfl, if_pos rfl] at hL2
    have hO12 : Off clsK σ t2 := (hO.mono (by simp)).trans ((hO1.mono (by simp)).trans (hO2.mono (by simp)))
    refine p_measureS hL2 (by rw [(hO2.1 56 (by decide)).1, (hO1.1 56 (by decide)).1]; exact g10) hcnt hn hrm hW (fun e0 t3 hO3 k10 => bq_t rfl (void ?_ t3 (hO12.trans (hO3.mono (by simp))) k10)) (fun ct ect t3 hO3 k10 k0 _ _ _ => bq_f (by decide) ?_)
    · rw [hV, edV, if_pos ⟨hn, hpc⟩, e0]
    have hO13 : Off clsK σ t3 := hO12.trans (hO3.mono (by simp))
    refine p_load (hO13.2.trans hR) (hEn.off hO13 (by decide) (by decide)) h30 hm.2.2 (by rw [(hO13.1 30 (by decide)).1]; exact hm.2.1) (hC.off hO13 (by decide)) hS (fun k _ => hx k) hNp hn (fun t4 hO4 hL4 h514 => ?_)
    refine p_settle h30 hn hL4 h514 ha hc hpa hpc hne false (fun t5 hO5 hL5 => ?_)
    rw [if_neg (by decide), if_neg (by decide)] at hL5
    have hO15 : Off clsK σ t5 := hO13.trans ((hO4.mono (by simp)).trans (hO5.mono (by simp)))
    refine p_measureS hL5 (by rw [(hO5.1 56 (by decide)).1, (hO4.1 56 (by decide)).1]; exact k10) hcnt hn hrm hW (fun e0 t6 hO6 m10 => bq_t rfl (void ?_ t6 (hO15.trans (hO6.mono (by simp))) m10)) (fun ca eca t6 hO6 m10 m0 _ _ _ => bq_f (by decide) ?_)
    · rw [hV, edV, if_pos ⟨hn, hpc⟩, ect, e0]
    have hct : ct ≤ 90000000 := by
      obtain ⟨d, _, hd⟩ := (mnS_some (Nat.zero_le _) ect).2
      rw [← hd]; exact cSum_le hn hW
    have hca : ca ≤ 90000000 := by
      obtain ⟨d, _, hd⟩ := (mnS_some (Nat.zero_le _) eca).2
      rw [← hd]; exact cSum_le hn hW
    rw [m0, k0, show i2l (nI ca) = lN ca from nI_l (by omega), show i2l (nI ct) = lN ct from nI_l (by omega)]
    have hVe : V = lN ca - lN ct := by rw [hV, edV, if_pos ⟨hn, hpc⟩, ect, eca]
    rw [← hVe]
    refine q t6 (hO15.trans (hO6.mono (by simp))) m10 (.inr ⟨hn, ?_, fun i j hj hi => ?_⟩)
    · rw [(hO6.1 50 (by decide)).1]; exact hL5.1
    · rw [(hO6.1 52 (by decide)).1]; exact hL5.2.2.1 i j hj hi
end Ctxs
