/-! edge: the reference; edge agrees -/
abbrev EDs := Option Nat × Option Nat
def stE (n rm : Nat) (W : Nat → Nat → Int32) (A T : Nat → Nat → Bool) (x y : Nat) (s : EDs) (a : Nat → Nat) : EDs := (stM 0 n rm W A (prT x y T) s.1 a, stM 0 n rm W (prT x y A) T s.2 a)
theorem stE_fold {n rm : Nat} {W : Nat → Nat → Int32} {A T : Nat → Nat → Bool} {x y : Nat} : ∀ (l : List (Nat → Nat)) (s : EDs), l.foldl (stE n rm W A T x y) s = (l.foldl (stM 0 n rm W A (prT x y T)) s.1, l.foldl (stM 0 n rm W (prT x y A) T) s.2)
  | [], _ => rfl
  | a :: l, s => by rw [List.foldl_cons, List.foldl_cons, List.foldl_cons, stE_fold l]; rfl
def drE (s : EDs) (v : Nat) : Bool := match s.1, s.2 with
  | some ct, some ca => decide (ca ≤ v) && decide (ct ≤ v)
  | _, _ => false
def vE : Option Nat → Int64
  | none => -1
  | some c => lN c
def RelE (x y : Nat) (_ : Nat) (s : EDs) (t : gSt) : Prop := t.1 65 68 = nI 1 ∧ t.1 65 72 = nI x ∧ t.1 65 73 = nI y ∧ t.2.1 65 78 = vE s.1 ∧ t.2.1 65 77 = vE s.2 ∧ (∀ c, s.1 = some c → c ≤ 90000000) ∧ (∀ c, s.2 = some c → c ≤ 90000000)
theorem stM_ge {n rm v : Nat} {W : Nat → Nat → Int32} {A T : Nat → Nat → Bool} {s : Option Nat} {b : Nat → Nat} {c : Nat} (hs : s = some c) (h : c ≤ cSum W 0 b n) : stM 0 n rm W A T s b = some c := by
  subst hs
  unfold stM
  split
  · have : ¬ cSum W 0 b n < c := by omega
    simp only [this, if_false]
  · rfl
theorem okE {n most x y : Nat} {W : Nat → Nat → Int32} {A T : Nat → Nat → Bool} (hn : n ≤ 10) (hxy : x ≠ y) (hx : x < n) (hy : y < n) (hW : ∀ i j, j < i → i < n → okW (W i j)) : mwOK (RelE x y) (stE n (rmM most) W A T x y) drE n most W A T := by
  have hb : ∀ (a : Nat → Nat) (i : Nat), i ≤ n → cSum W 0 a i ≤ 90000000 := fun a i hi => cSum_le (by omega) (fun i2 j h1 h2 => hW i2 j h1 (by omega))
  refine ⟨?_, ?_, ?_, ?_, ?_⟩
  · rintro B s t c Q ⟨h1, h2, h3, h4, h5, h6, h7⟩ hc q
    unfold W_X12_isTooDear
    rw [h1, h4, h5]
    refine bq_f (by decide) (bq_t rfl ?_)
    unfold drE at q
    cases e2 : s.2 with
    | none =>
      have : drE s c = false := by unfold drE; cases s.1 <;> rw [e2]
      unfold drE at this
      rw [this] at q
      exact bq_t m1_ltL q
    | some ca =>
      refine bq_f (lN_nlt0 (by have := h7 ca e2; omega)) ?_
      cases e1 : s.1 with
      | none =>
        have : drE s c = false := by unfold drE; rw [e1]
        unfold drE at this
        rw [this] at q
        exact bq_t m1_ltL q
      | some ct =>
        have k1 := h6 ct e1
        have k2 := h7 ca e2
        rw [e1, e2] at q
        refine bq_f (lN_nlt0 (by omega)) ?_
        show (lN c < lN ca → Q (nI 0)) ∧ (¬ lN c < lN ca → ((lN c < lN ct → Q (nI 0)) ∧ (¬ lN c < lN ct → Q (nI 1))))
        rw [lN_lt (by omega) (by omega), lN_lt (by omega) (by omega)]
        refine ⟨fun z => ?_, fun z => ⟨fun w => ?_, fun w => ?_⟩⟩
        · rw [show zI (decide (ca ≤ c) && decide (ct ≤ c)) = nI 0 by rw [decide_eq_false (show ¬ ca ≤ c by omega)]; rfl] at q; exact q
        · rw [show zI (decide (ca ≤ c) && decide (ct ≤ c)) = nI 0 by rw [decide_eq_false (show ¬ ct ≤ c by omega), Bool.and_false]; rfl] at q; exact q
        · rw [show zI (decide (ca ≤ c) && decide (ct ≤ c)) = nI 1 by rw [decide_eq_true (show ca ≤ c by omega), decide_eq_true (show ct ≤ c by omega)]; rfl] at q; exact q
  · rintro B s t t2 ⟨h1, h2, h3, h4, h5, h6, h7⟩ f
    exact ⟨(f.2.1 68 (by decide)).1.trans h1, (f.2.1 72 (by decide)).1.trans h2, (f.2.1 73 (by decide)).1.trans h3, (f.2.1 78 (by decide)).2.trans h4, (f.2.1 77 (by decide)).2.trans h5, h6, h7⟩
  · rintro B s t i a ⟨h1, h2, h3, h4, h5, h6, h7⟩ hin hd b hb1 hlw
    have hsame : stE n (rmM most) W A T x y s b = s := by
      have e1 : cSum W 0 b i = cSum W 0 a i := cSum_cong (fun j _ j2 => hb1 j j2)
      have e2 := cSum_pre (W := W) (s := 0) (a := b) hin
      unfold drE at hd
      cases q1 : s.1 with
      | none => rw [q1] at hd; cases hd
      | some ct =>
        cases q2 : s.2 with
        | none => rw [q1, q2] at hd; cases hd
        | some ca =>
          rw [q1, q2] at hd
          rw [Bool.and_eq_true, decide_eq_true_iff, decide_eq_true_iff] at hd
          unfold stE
          rw [stM_ge (v := 0) q1 (by omega), stM_ge (v := 0) q2 (by omega), ← q1, ← q2]
    rw [hsame]
    exact ⟨⟨h1, h2, h3, h4, h5, h6, h7⟩, hd⟩
  · rintro B s t b ⟨h1, h2, h3, h4, h5, h6, h7⟩ hlw
    have hsame : stE n (rmM most) W A T x y s b = s := by
      have l1 : lwB 0 (rmM most) A (prT x y T) b n = false := by
        rw [← Bool.not_eq_true, lw_tog hxy hx hy, hlw]; exact fun w => by cases w.1
      have l2 : lwB 0 (rmM most) (prT x y A) T b n = false := by
        rw [← Bool.not_eq_true, lw_apt hxy hx hy, hlw]; exact fun w => by cases w.1
      unfold stE
      rw [stM_no l1, stM_no l2]
    rw [hsame]
    exact ⟨⟨h1, h2, h3, h4, h5, h6, h7⟩, fun _ => rfl⟩
  · rintro B s t a Q ⟨h1, h2, h3, h4, h5, h6, h7⟩ hC hlw hd h106 hQ
    have ec := hb a n (Nat.le_refl _)
    obtain ⟨x1, x2⟩ := h106 x hx
    obtain ⟨y1, y2⟩ := h106 y hy
    unfold W_X12_leaf
    rw [h1]
    refine bq_f (by decide) (bq_t rfl ?_)
    rw [h2, h3]
    refine rI_i (by omega) (rI_i (by omega) ?_)
    rw [x1, y1]
    have lt_v : ∀ (o : Option Nat), (∀ c, o = some c → c ≤ 90000000) → ∀ (J P2 : Prop), ((∀ c, o = some c → ¬ cSum W 0 a n < c → P2)) → ((o = none ∨ ∃ c, o = some c ∧ cSum W 0 a n < c) → J) → ((vE o < lN 0 → J) ∧ (¬ vE o < lN 0 → ((lN (cSum W 0 a n) < vE o → J) ∧ (¬ lN (cSum W 0 a n) < vE o → P2)))) := by
      intro o ho J P2 hP hJ
      cases o with
      | none => exact bq_t m1_ltL (hJ (.inl rfl))
      | some c =>
        have := ho c rfl
        refine bq_f (lN_nlt0 (by omega)) ?_
        show (lN (cSum W 0 a n) < lN c → J) ∧ (¬ lN (cSum W 0 a n) < lN c → P2)
        rw [lN_lt (by omega) (by omega)]
        exact ⟨fun z => hJ (.inr ⟨c, rfl, z⟩), fun z => hP c rfl z⟩
    have st_v : ∀ (A2 T2 : Nat → Nat → Bool) (o : Option Nat), lwB 0 (rmM most) A2 T2 a n = true → ((∀ c, o = some c → ¬ cSum W 0 a n < c → stM 0 n (rmM most) W A2 T2 o a = o) ∧ ((o = none ∨ ∃ c, o = some c ∧ cSum W 0 a n < c) → stM 0 n (rmM most) W A2 T2 o a = some (cSum W 0 a n))) := by
      intro A2 T2 o hl
      unfold stM
      rw [if_pos hl]
      refine ⟨?_, ?_⟩
      · rintro c rfl z
        simp only [z, if_false]
      · rintro (rfl | ⟨c, rfl, z⟩)
        · rfl
        · simp only [z, if_true]
    refine jn_z (decide (a x = a y)) (by rw [decide_eq_true_iff, nI_eq (by omega) (by omega)]) ?_
    by_cases z : a x = a y
    · rw [decide_eq_true z]
      have l1 : lwB 0 (rmM most) A (prT x y T) a n = true := (lw_tog hxy hx hy).mpr ⟨hlw, z⟩
      have l2 : lwB 0 (rmM most) (prT x y A) T a n = false := by
        rw [← Bool.not_eq_true, lw_apt hxy hx hy]; exact fun w => w.2 z
      have est : stE n (rmM most) W A T x y s a = (stM 0 n (rmM most) W A (prT x y T) s.1 a, s.2) := by
        unfold stE; rw [stM_no l2]
      obtain ⟨s1, s2⟩ := st_v A (prT x y T) s.1 l1
      intro J48 hJ48
      refine bq_f (by decide) ?_
      intro J55 hJ55
      rw [h4]
      refine lt_v s.1 h6 J55 (J48 t) (fun c e w => hJ48 t (bq_f (by decide) (hQ t Fr.rf ?_))) (fun w => hJ55 (fL_i (hJ48 _ (bq_f (by decide) (hQ _ (Fr.rf.g (by simp)) ?_)))))
      · rw [est, s1 c e w]
        exact ⟨h1, h2, h3, h4, h5, h6, h7⟩
      · rw [est, s2 w]
        refine ⟨h1, h2, h3, ?_, ?_, fun c e => ?_, h7⟩
        · rw [sL_get, if_pos ⟨rfl, rfl⟩]; rfl
        · rw [sL_get, if_neg (by omega)]; exact h5
        · simp only [Option.some.injEq] at e; omega
    · rw [decide_eq_false z]
      have l1 : lwB 0 (rmM most) A (prT x y T) a n = false := by
        rw [← Bool.not_eq_true, lw_tog hxy hx hy]; exact fun w => z w.2
      have l2 : lwB 0 (rmM most) (prT x y A) T a n = true := (lw_apt hxy hx hy).mpr ⟨hlw, z⟩
      have est : stE n (rmM most) W A T x y s a = (s.1, stM 0 n (rmM most) W (prT x y A) T s.2 a) := by
        unfold stE; rw [stM_no l1]
      obtain ⟨s1, s2⟩ := st_v (prT x y A) T s.2 l2
      intro J48 hJ48
      refine bq_t rfl (hJ48 t (bq_t rfl ?_))
      intro J50 hJ50
      rw [h5]
      refine lt_v s.2 h7 J50 (Q t) (fun c e w => hQ t Fr.rf ?_) (fun w => hJ50 (fL_i (hQ _ (Fr.rf.g (by simp)) ?_)))
      · rw [est, s1 c e w]
        exact ⟨h1, h2, h3, h4, h5, h6, h7⟩
      · rw [est, s2 w]
        refine ⟨h1, h2, h3, ?_, ?_, h6, fun c e => ?_⟩
        · rw [sL_get, if_neg (by omega)]; exact h4
        · rw [sL_get, if_pos ⟨rfl, rfl⟩]; rfl
        · simp only [Option.some.injEq] at e; omega
section Ctxs
variable {b : Bool} {σ : gSt} {N : Nat} {bk nm td yr : Nat → Nat} {fa : Nat → Int32} {most : Nat} {wt : Nat → Nat → Int32} {nv ti ap : Nat → Nat → Bool} {h : Nat → Nat}
theorem Ctx.edgeM (hX : Ctx b σ N bk nm td yr fa most wt nv ti ap h) {a c : Nat} (ha : a < N) (hc : c < N) (hne : a ≠ c) {p : Nat → Bool} (hp : p = rc N (fun j => decide (j < N)) (hgP wt ti) a) {V : Int64} (hV : V = edV (fa_cnt p N) (rmM most) (plW wt p N) (plW ap p N) (plW ti p N) (fa_cnt p a) (fa_cnt p c) (p c)) {s : gSt} {v : Int64} (hs : OutM σ s v) {Q : Int64 → gSt → Prop}
    (q : ∀ u, OutM σ u v → PrtM u N p → pwM u N wt nv ti ap → Q V u) : W_X12_edgeOf (nI a) (nI c) Q s := by
  have h30 := hX.2.1
  have hm30 := hX.2.2.2.2.1.2.2
  have hle := fa_cnt_le p N
  have hS := hX.2.2.2.2.2.2.1
  have hpa : p a = true := by rw [hp]; exact rc_self a
  have void : V = (-2147483648 : Int64) → ∀ u, OutM σ u v → PrtM u N p → pwM u N wt nv ti ap → Q (-2147483648) u := fun hv u k1 k2 k3 => by
    have := q u k1 k2 k3
    rw [hv] at this
    exact this
  unfold W_X12_edgeOf W_X12_areOfOne
  refine hX.partM ha hp hs (fun k u hu hP hM => bq_f (by decide) (bq_t rfl (void ?_ u hu hP hM))) (fun k k2 u hu hP hM _ => bq_f (by decide) (bq_t rfl (void ?_ u hu hP hM))) (fun k d hd u hu hP hM hB => bq_t rfl (rI_i (by omega) ?_))
  · rw [hV, edV, if_neg (fun w => by omega)]
  · rw [hV]
    unfold edV
    by_cases z : fa_cnt p N ≤ 10 ∧ p c = true
    · rw [if_pos z]
      have la := fa_cnt_ltn (n := N) ha hpa
      have lc := fa_cnt_ltn (n := N) hc z.2
      have hneq : fa_cnt p a ≠ fa_cnt p c := fun w => by
        have h1 := memP_of ha hpa
        rw [w, memP_of hc z.2] at h1
        exact hne h1.symm
      cases e : mnS (fa_cnt p N) (rmM most) (plW wt p N) (plW ap p N) (prT (fa_cnt p a) (fa_cnt p c) (plW ti p N)) 0 with
      | none => rfl
      | some ct =>
        obtain ⟨d, hd, _⟩ := (mnS_some (Nat.zero_le _) e).2
        rw [lw_tog hneq la lc, mnS_none (Nat.zero_le _) k2 d] at hd
        cases hd.1
    · rw [if_neg z]
  · rw [hP.2.2 c hc]
    refine br_z (fun hpc => bq_t rfl (void (by rw [hV, edV, if_neg (fun w => by rw [hpc] at w; cases w.2)]) u hu hP hM)) (fun hpc => bq_f (by decide) ?_)
    have la := fa_cnt_ltn (n := N) ha hpa
    have lc := fa_cnt_ltn (n := N) hc hpc
    have hneq : fa_cnt p a ≠ fa_cnt p c := fun w => by
      have h1 := memP_of ha hpa
      rw [w, memP_of hc hpc] at h1
      exact hne h1.symm
    refine p_placeM h30 hP ha hpa (fI_i ?_)
    have f1 : Fr [] [72] u (sI u 65 72 (nI (fa_cnt p a))) := Fr.rf.f (by simp)
    refine p_placeM h30 (hP.fr f1 (by decide)) hc hpc (fI_i (fL_i (fL_i ?_)))
    unfold W_X12_walks
    refine fI_i (fI_i ?_)
    generalize hu2 : sI (sI (sL (sL (sI (sI u 65 72 (nI (fa_cnt p a))) 65 73 (nI (fa_cnt p c))) 65 77 (-1)) 65 78 (-1)) 65 68 (nI 1)) 65 69 (nI 0) = u2
    have fu : Fr [] [72, 73, 77, 78, 68, 69] u u2 := by rw [← hu2]; exact (((((Fr.rf.f (by simp)).f (by simp)).g (by simp)).g (by simp)).f (by simp)).f (by simp)
    have hP2 : PrtM u2 N p := hP.fr fu (by decide)
    have ho2 := hu.go fu (by decide) (by decide)
    have hM2 := hM.fr fu (by decide)
    have hR : RelE (fa_cnt p a) (fa_cnt p c) (0 + (lvs (fa_cnt p N) 0 0 (fun _ => 0)).length) (none, none) u2 := by
      refine ⟨?_, ?_, ?_, ?_, ?_, fun c e => (by cases e), fun c e => (by cases e)⟩
      · rw [← hu2, sI_get, if_neg (by omega), sI_get, if_pos ⟨rfl, rfl⟩]
      · rw [← hu2, sI_get, if_neg (by omega), sI_get, if_neg (by omega), sL_get1, sL_get1, sI_get, if_neg (by omega), sI_get, if_pos ⟨rfl, rfl⟩]
      · rw [← hu2, sI_get, if_neg (by omega), sI_get, if_neg (by omega), sL_get1, sL_get1, sI_get, if_pos ⟨rfl, rfl⟩]
      · rw [← hu2, sI_get2, sI_get2, sL_get, if_pos ⟨rfl, rfl⟩]; rfl
      · rw [← hu2, sI_get2, sI_get2, sL_get, if_neg (by omega), sL_get, if_pos ⟨rfl, rfl⟩]; rfl
    have hwk := p_walk (okE (most := most) (A := plW ap p N) (T := plW ti p N) k hneq la lc (fun i j hj hi => plW_ok hS hj hi)) k hm30 (fun i j hj hi => plW_ok hS hj hi) (fa_cnt p N) 12 0 0 (fun _ => 0) 0 (none, none) u2 (fun s10 => ∀ J11 : Prop, ((Q ((-2147483648 : Int64)) s10) → J11) → (((s10.2.1 65 77) < (lN 0) → J11) ∧ (¬ (s10.2.1 65 77) < (lN 0) → ((((s10.2.1 65 78) < (lN 0) → J11) ∧ (¬ (s10.2.1 65 78) < (lN 0) → (Q ((s10.2.1 65 77) - (s10.2.1 65 78)) s10))))))) (by omega) (by omega) (hP2.mw hM2 h30 ((ho2.1.2.1 41 (by decide)).1.trans hX.2.2.2.2.1.1)) ⟨by rw [← hu2, sI_get, if_pos ⟨rfl, rfl⟩], fun j hj => by omega, fun k hk => by omega⟩ hR (canA_0 0 _) lwB_0 (fun t2 f2 hN2 hx2 => ?_)
    · rw [cSum_0] at hwk
      exact hwk
    · rw [stE_fold] at hx2
      have hx2 : RelE (fa_cnt p a) (fa_cnt p c) 0 (mnS (fa_cnt p N) (rmM most) (plW wt p N) (plW ap p N) (prT (fa_cnt p a) (fa_cnt p c) (plW ti p N)) 0, mnS (fa_cnt p N) (rmM most) (plW wt p N) (prT (fa_cnt p a) (fa_cnt p c) (plW ap p N)) (plW ti p N) 0) t2 := hx2
      obtain ⟨r1, r2, r3, r4, r5, r6, r7⟩ := hx2
      have ho3 := ho2.go f2 (by decide) (by decide)
      have hP3 := hP2.fr f2 (by decide)
      have hM3 := hM2.fr f2 (by decide)
      intro J11 hJ11
      rw [r4, r5]
      have hVV : V = (match mnS (fa_cnt p N) (rmM most) (plW wt p N) (plW ap p N) (prT (fa_cnt p a) (fa_cnt p c) (plW ti p N)) 0, mnS (fa_cnt p N) (rmM most) (plW wt p N) (prT (fa_cnt p a) (fa_cnt p c) (plW ap p N)) (plW ti p N) 0 with
        | some ct, some ca => lN ca - lN ct
        | _, _ => (-2147483648 : Int64)) := by rw [hV, edV, if_pos ⟨k, hpc⟩]; rfl
      cases e1 : mnS (fa_cnt p N) (rmM most) (plW wt p N) (plW ap p N) (prT (fa_cnt p a) (fa_cnt p c) (plW ti p N)) 0 with
      | none =>
        rw [e1] at hVV
        cases e2 : mnS (fa_cnt p N) (rmM most) (plW wt p N) (prT (fa_cnt p a) (fa_cnt p c) (plW ap p N)) (plW ti p N) 0 with
        | none => exact bq_t m1_ltL (hJ11 (void (by rw [hVV]) t2 ho3 hP3 hM3))
        | some ca =>
          have := r7 ca e2
          exact bq_f (lN_nlt0 (by omega)) (bq_t m1_ltL (hJ11 (void (by rw [hVV]) t2 ho3 hP3 hM3)))
      | some ct =>
        rw [e1] at hVV
        have k1 := r6 ct e1
        cases e2 : mnS (fa_cnt p N) (rmM most) (plW wt p N) (prT (fa_cnt p a) (fa_cnt p c) (plW ap p N)) (plW ti p N) 0 with
        | none =>
          rw [e2] at hVV
          exact bq_t m1_ltL (hJ11 (void hVV t2 ho3 hP3 hM3))
        | some ca =>
          rw [e2] at hVV
          have k2 := r7 ca e2
          refine bq_f (lN_nlt0 (by omega)) (bq_f (lN_nlt0 (by omega)) ?_)
          have hVV : V = lN ca - lN ct := hVV
          show Q (lN ca - lN ct) t2
          rw [← hVV]
          exact q t2 ho3 hP3 hM3
end Ctxs
theorem op_edge {b : Bool} {σ : gSt} (hI : Inv b σ) (p r : Int32) : OKL (fun Q QX s => W_X11_edge p r Q QX s) (W_X12_edge p r) cdP σ := by
  obtain ⟨N, bk, nm, td, yr, fa, most, wt, nv, ti, ap, h, hX⟩ := hI.ctx
  have h30 := hX.2.1
  have hEn := hX.2.2.1
  unfold OKL W_X11_edge
  rcases pair_or p r N (by omega) with ⟨a, c, ha, hc, hne, rfl, rfl⟩ | ⟨E, k, h1, h2, h3⟩
  · obtain ⟨p, hp⟩ : ∃ p, p = rc N (fun j => decide (j < N)) (hgP wt ti) a := ⟨_, rfl⟩
    obtain ⟨V, hV⟩ : ∃ V, V = edV (fa_cnt p N) (rmM most) (plW wt p N) (plW ap p N) (plW ti p N) (fa_cnt p a) (fa_cnt p c) (p c) := ⟨_, rfl⟩
    refine q_pair hEn.1 h30 ha hc hne (hX.edgeC ha hc hne hp hV (fun t hO k10 _ => ?_))
    rintro s2 rfl
    have hs := OutM.start (v := V) hO (by decide) (by decide) k10
    exact fI_i (hX.isP hs ha hc hne (bq_f (by decide) (hX.edgeM ha hc hne hp hV hs (fun u hu _ _ => hu.fin hI rfl))))
  · exact q_pair_no hEn.1 h30 E h2 ⟨nI k, h1, fI_i (p_isP_no (N := N) hX.2.2.2.1.1 h30 rfl k h3 (bq_t rfl (fin.no hI (by omega))))⟩
