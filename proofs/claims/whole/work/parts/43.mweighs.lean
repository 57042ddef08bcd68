/-! weighs: what the reference lays down of all pairs -/
def mo {α : Type} (f : Nat → Nat → α) (a c : Nat) : α := if a < c then f a c else f c a
def fixM (σ : gSt) (F : Nat) (fx fy : Nat → Nat) (ft : Nat → Bool) : Prop := σ.1 65 44 = nI F ∧ F ≤ 20 ∧ ∀ q, q < F → σ.1 94 q = nI (fx q) ∧ σ.1 95 q = nI (fy q) ∧ fx q < 30 ∧ fy q < 30 ∧ σ.1 96 q = zI (ft q)
theorem fixM.off {σ s : gSt} {F : Nat} {fx fy : Nat → Nat} {ft : Nat → Bool} {ks : List Nat} (h : fixM σ F fx fy ft) (hO : Off ks σ s) (hk : ∀ k ∈ [65, 94, 95, 96], k ∉ ks) : fixM s F fx fy ft := by
  unfold fixM
  rw [(hO.1 65 (hk _ (by simp))).1, (hO.1 94 (hk _ (by simp))).1, (hO.1 95 (hk _ (by simp))).1, (hO.1 96 (hk _ (by simp))).1]
  exact h
def tieF (F : Nat) (fx fy : Nat → Nat) (ft : Nat → Bool) (a c : Nat) : Bool := decide (tix F fx fy a c < F) && ft (tix F fx fy a c)
def cutF (F : Nat) (fx fy : Nat → Nat) (ft : Nat → Bool) (a c : Nat) : Bool := decide (tix F fx fy a c < F) && !ft (tix F fx fy a c)
def apaF (bk yr : Nat → Nat) (F : Nat) (fx fy : Nat → Nat) (ft : Nat → Bool) (ob : Nat) (span : Int32) (w : Int32) (a c : Nat) : Bool := decide (w = (-2147483648 : Int32)) || cutF F fx fy ft a c || (decide (ob = 1) && decide (bk a = bk c)) || (decide (¬ span = -1) && decide (span < absI (nI (yr a) - nI (yr c))))
def w0 (w : Int32) : Int32 := if w = (-2147483648 : Int32) then nI 0 else w
theorem p_fixV {σ : gSt} {F : Nat} {fx fy : Nat → Nat} {ft : Nat → Bool} (hF : fixM σ F fx fy ft) {a c : Nat} (ha : a < 30) (hc : c < 30) {Q : Int32 → Prop} (q : Q (if tix F fx fy a c < F then nI (tix F fx fy a c) else -1)) : W_X12_fixAt (nI a) (nI c) Q σ := by
  refine p_fixAt hF.1 hF.2.1 (fun q hq => ⟨(hF.2.2 q hq).1, (hF.2.2 q hq).2.1, (hF.2.2 q hq).2.2.1, (hF.2.2 q hq).2.2.2.1⟩) ha hc (fun k hk1 hk2 _ => ?_) (fun hk2 _ => ?_)
  · rw [hk2, if_pos hk1] at q; exact q
  · rw [hk2, if_neg (Nat.lt_irrefl _)] at q; exact q
theorem nI_nm1 {k : Nat} (h : k < 2147483648) : ¬ nI k = (-1 : Int32) := fun e => by
  have := nI_pos' h
  rw [e] at this
  exact absurd this (by decide)
section MZ
variable {N : Nat} {bk nm td yr : Nat → Nat} {fa lk : Nat → Int32} {C : Nat} {kind st cd op : Nat → Nat} {num : Nat → Int32} {T : Nat} {ta tb : Nat → Nat} {tw : Nat → Int32} {F : Nat} {fx fy : Nat → Nat} {ft : Nat → Bool} {ob : Nat} {span : Int32}
/-- what stands of the pair x < y -/
def laid (s : gSt) (W : Nat → Nat → Int32) (ti ap : Nat → Nat → Bool) (x y : Nat) : Prop :=
  (s.1 91 (30 * x + y) = zI (decide (W x y = (-2147483648 : Int32))) ∧ s.1 91 (30 * y + x) = zI (decide (W x y = (-2147483648 : Int32)))) ∧ (s.1 90 (30 * x + y) = w0 (W x y) ∧ s.1 90 (30 * y + x) = w0 (W x y)) ∧ (s.1 93 (30 * x + y) = zI (ti x y) ∧ s.1 93 (30 * y + x) = zI (ti x y)) ∧ (s.1 92 (30 * x + y) = zI (ap x y) ∧ s.1 92 (30 * y + x) = zI (ap x y))
theorem p_weighs {σ : gSt} (hE : entM σ N bk nm td yr fa lk) (hr : rulesM σ C kind st cd op num) (hk : rulesOK C kind st cd op) (hT : toldM σ T ta tb tw) (hF : fixM σ F fx fy ft) (hob : σ.1 65 42 = nI ob) (hob1 : ob ≤ 1) (hsp : σ.1 65 43 = span) (W : Nat → Nat → Int32) (hW : ∀ x y, W x y = wgt (fct lk bk nm td yr fa x y) num kind st cd op C T ta tb tw x y) {Q : gSt → Prop}
    (q : ∀ s, Off [86, 90, 91, 92, 93] σ s → (∀ x y, x < y → y < N → laid s W (tieF F fx fy ft) (fun x y => apaF bk yr F fx fy ft ob span (W x y) x y) x y) → Q s) : W_X12_weighs Q σ := by
  have h30 := hE.2.1
  have step : ∀ (m b : Nat) (a : Nat) (s : gSt) (K : gSt → Prop), b + m = N → a < b → Off [86, 90, 91, 92, 93] σ s → (∀ x y, x < y → y < N → (x < a ∨ (x = a ∧ y < b)) → laid s W (tieF F fx fy ft) (fun x y => apaF bk yr F fx fy ft ob span (W x y) x y) x y) → (∀ s1, Off [86, 90, 91, 92, 93] σ s1 → (∀ x y, x < y → y < N → x < a + 1 → laid s1 W (tieF F fx fy ft) (fun x y => apaF bk yr F fx fy ft ob span (W x y) x y) x y) → K s1) → L_X12_weighs_14 Q (nI a) K (m + 1) (nI b) s := by
    intro m
    induction m with
    | zero =>
      intro b a s K hb hab hO hl hK
      obtain rfl : b = N := by omega
      rw [L_X12_weighs_14, (hO.1 65 (by decide)).1, hE.1]
      exact bq_t (nI_le (Nat.le_refl _) (by omega)) (hK s hO (fun x y h1 h2 h3 => hl x y h1 h2 (by omega)))
    | succ m ih =>
      intro b a s K hb hab hO hl hK
      rw [L_X12_weighs_14, (hO.1 65 (by decide)).1, hE.1]
      refine bq_f (nI_ge (by omega) (by omega)) ?_
      refine p_weightOf (hE.off hO (by decide)) (hr.off hO (by decide)) hk (hT.off hO (by decide)) (a := a) (c := b) (by omega) (by omega) (fun s1 hO1 => ?_)
      rw [← hW]
      have hO2 : Off [86, 90, 91, 92, 93] σ s1 := hO.trans (hO1.mono (by simp))
      have hl1 : ∀ x y, x < y → y < N → (x < a ∨ (x = a ∧ y < b)) → laid s1 W (tieF F fx fy ft) (fun x y => apaF bk yr F fx fy ft ob span (W x y) x y) x y := by
        intro x y h1 h2 h3
        unfold laid
        rw [(hO1.1 90 (by decide)).1, (hO1.1 91 (by decide)).1, (hO1.1 92 (by decide)).1, (hO1.1 93 (by decide)).1]
        exact hl x y h1 h2 h3
      have e1 : (nI 30) * (nI a) + (nI b) = nI (30 * a + b) := by rw [nI_mul, nI_add]
      have e2 : (nI 30) * (nI b) + (nI a) = nI (30 * b + a) := by rw [nI_mul, nI_add]
      have hF1 := hF.off hO2 (by decide)
      have c65 : s1.1 65 = σ.1 65 := (hO2.1 65 (by decide)).1
      have c66 : s1.1 66 = σ.1 66 := (hO2.1 66 (by decide)).1
      have c69 : s1.1 69 = σ.1 69 := (hO2.1 69 (by decide)).1
      have c96 : s1.1 96 = σ.1 96 := (hO2.1 96 (by decide)).1
      rw [e1, e2, nI_add]
      refine jn_z (decide (W a b = (-2147483648 : Int32))) (by simp) ?_
      refine wZ_e (zI_01 _) rfl (by omega) ?_
      refine jn_z (decide (W a b = (-2147483648 : Int32))) (by simp) ?_
      refine wZ_e (zI_01 _) rfl (by omega) ?_
      refine jn1 (w0 (W a b)) (fun J hJ => ⟨fun h => by rw [w0, if_pos h] at hJ; exact hJ, fun h => by rw [w0, if_neg h] at hJ; exact hJ⟩) ?_
      refine wI_i (by omega) (rI_i (by omega) (wI_i (by omega) ?_))
      rw [sI_get, if_pos ⟨rfl, rfl⟩]
      obtain ⟨sa, hsa⟩ : ∃ s, s = sI (sI (sI (sI s1 91 (30 * a + b) (zI (decide (W a b = (-2147483648 : Int32))))) 91 (30 * b + a) (zI (decide (W a b = (-2147483648 : Int32))))) 90 (30 * a + b) (w0 (W a b))) 90 (30 * b + a) (w0 (W a b)) := ⟨_, rfl⟩
      rw [← hsa]
      have hOa : Off [90, 91] s1 sa := by rw [hsa]; exact (((Off.rf.i (by simp)).i (by simp)).i (by simp)).i (by simp)
      have hFa := hF1.off hOa (by decide)
      refine p_fixV hFa (by omega) (by omega) ?_
      have hF20 := hF.2.1
      refine jn1 (zI (tieF F fx fy ft a b)) (fun J hJ J50 h50 => ?_) ?_
      · by_cases hx : tix F fx fy a b < F
        · rw [if_pos hx]
          refine bq_f (nI_nm1 (by omega)) (rI_i (by omega) ?_)
          rw [(hFa.2.2 _ hx).2.2.2.2]
          refine br_z (fun hf => h50 ?_) (fun ht => ?_)
          · rw [show tieF F fx fy ft a b = false by simp [tieF, hf]] at hJ; exact hJ
          · rw [show tieF F fx fy ft a b = true by simp [tieF, hx, ht]] at hJ; exact hJ
        · rw [if_neg hx]
          rw [show tieF F fx fy ft a b = false by simp [tieF, hx]] at hJ
          exact bq_t rfl (h50 hJ)
      refine wZ_e (zI_01 _) rfl (by omega) (rI_i (by omega) ?_)
      rw [sI_get, if_pos ⟨rfl, rfl⟩]
      refine wZ_e (zI_01 _) rfl (by omega) ?_
      obtain ⟨sb, hsb⟩ : ∃ s, s = sI (sI sa 93 (30 * a + b) (zI (tieF F fx fy ft a b))) 93 (30 * b + a) (zI (tieF F fx fy ft a b)) := ⟨_, rfl⟩
      rw [← hsb]
      have hOb : Off [90, 91, 93] s1 sb := (hOa.mono (by simp)).trans (by rw [hsb]; exact (Off.rf.i (by simp)).i (by simp))
      have d42 : sb.1 65 42 = nI ob := by rw [(hOb.1 65 (by decide)).1, c65]; exact hob
      have d43 : sb.1 65 43 = span := by rw [(hOb.1 65 (by decide)).1, c65]; exact hsp
      have d66 : ∀ i, i < N → sb.1 66 i = nI (bk i) := fun i hi => by rw [(hOb.1 66 (by decide)).1, c66]; exact (hE.2.2.1 i hi).1
      have d69 : ∀ i, i < N → sb.1 69 i = nI (yr i) := fun i hi => by rw [(hOb.1 69 (by decide)).1, c69]; exact (hE.2.2.1 i hi).2.2.2.1
      have hFb := hF1.off hOb (by decide)
      have hbk := fun i hi => (hE.2.2.1 i hi).2.2.2.2.2.1
      refine jn1 (zI (apaF bk yr F fx fy ft ob span (W a b) a b)) (fun J hJ J34 h34 => ?_) ?_
      · have k34 : apaF bk yr F fx fy ft ob span (W a b) a b = true → J34 := fun h => h34 (by rw [h] at hJ; exact hJ)
        have k30 : apaF bk yr F fx fy ft ob span (W a b) a b = false → J (nI 0) := fun h => by rw [h] at hJ; exact hJ
        refine ⟨fun h => k34 (by simp [apaF, h]), fun hv J36 h36 => ?_⟩
        have k36 : cutF F fx fy ft a b = false → J36 := fun hc => h36 (fun J37 h37 => by
          have k37 : (decide (ob = 1) && decide (bk a = bk b)) = false → J37 := fun ho => h37 (by
            rw [d43]
            refine ⟨fun h => k30 (by simp only [apaF, hc, ho, decide_eq_false hv, decide_eq_false (not_not_intro h)]; rfl), fun h => rI_i (by omega) (rI_i (by omega) ?_)⟩
            rw [d69 a (by omega), d69 b (by omega)]
            refine p_off ⟨fun h2 => k30 ?_, fun h2 => k34 ?_⟩
            · have : ¬ span < absI (nI (yr a) - nI (yr b)) := Int32.not_lt.mpr h2
              simp only [apaF, hc, ho, decide_eq_false hv, decide_eq_false this, Bool.and_false]; rfl
            · have : span < absI (nI (yr a) - nI (yr b)) := Int32.not_le.mp h2
              simp [apaF, this, h])
          rw [d42]
          refine ⟨fun h1 => rI_i (by omega) (rI_i (by omega) ?_), fun h1 => k37 ?_⟩
          · rw [d66 a (by omega), d66 b (by omega)]
            have h1 : ob = 1 := (nI_eq (by omega) (by decide)).mp h1
            have := hbk a (by omega)
            have := hbk b (by omega)
            refine br_eq (by omega) (by omega) (fun h2 => k34 (by simp [apaF, h1, h2])) (fun h2 => k37 (by simp [h2]))
          · have h1 : ¬ ob = 1 := fun e => h1 (by rw [e])
            simp [h1])
        by_cases hx : tix F fx fy a b < F
        · rw [if_pos hx]
          refine bq_f (nI_nm1 (by omega)) (rI_i (by omega) ?_)
          rw [(hFb.2.2 _ hx).2.2.2.2]
          exact br_z (fun hf => k34 (by simp [apaF, cutF, hx, hf])) (fun ht => k36 (by simp [cutF, ht]))
        · rw [if_neg hx]
          exact bq_t rfl (k36 (by simp [cutF, hx]))
      refine wZ_e (zI_01 _) rfl (by omega) (rI_i (by omega) ?_)
      rw [sI_get, if_pos ⟨rfl, rfl⟩]
      refine wZ_e (zI_01 _) rfl (by omega) ?_
      refine ih (b + 1) a _ K (by omega) (by omega) (hO2.trans ((hOb.mono (by simp)).trans ((Off.rf.i (by simp)).i (by simp)))) (fun x y h1 h2 h3 => ?_) hK
      subst hsb hsa
      by_cases he : x = a ∧ y = b
      · obtain ⟨rfl, rfl⟩ := he
        have n1 : ¬ 30 * x + y = 30 * y + x := by omega
        have n2 : ¬ 30 * y + x = 30 * x + y := by omega
        unfold laid
        simp [sI_get, n1, n2]
      · obtain ⟨⟨l1, l2⟩, ⟨l3, l4⟩, ⟨l5, l6⟩, ⟨l7, l8⟩⟩ := hl1 x y h1 h2 (by omega)
        have n1 : ¬ 30 * x + y = 30 * a + b := by omega
        have n2 : ¬ 30 * x + y = 30 * b + a := by omega
        have n3 : ¬ 30 * y + x = 30 * a + b := by omega
        have n4 : ¬ 30 * y + x = 30 * b + a := by omega
        unfold laid
        simp [sI_get, n1, n2, n3, n4, l1, l2, l3, l4, l5, l6, l7, l8]
  refine ⟨N + 1, ?_⟩
  have key : ∀ (m a : Nat) (s : gSt), a + m = N → Off [86, 90, 91, 92, 93] σ s → (∀ x y, x < y → y < N → x < a → laid s W (tieF F fx fy ft) (fun x y => apaF bk yr F fx fy ft ob span (W x y) x y) x y) → L_X12_weighs_2 Q (fun s60 => Q s60) (m + 1) (nI a) s := by
    intro m
    induction m with
    | zero =>
      intro a s ha hO hl
      obtain rfl : a = N := by omega
      rw [L_X12_weighs_2, (hO.1 65 (by decide)).1, hE.1]
      exact bq_t (nI_le (Nat.le_refl _) (by omega)) (q s hO (fun x y h1 h2 => hl x y h1 h2 (by omega)))
    | succ m ih =>
      intro a s ha hO hl
      rw [L_X12_weighs_2, (hO.1 65 (by decide)).1, hE.1]
      refine bq_f (nI_ge (by omega) (by omega)) ⟨N - (a + 1) + 1, ?_⟩
      rw [nI_add]
      exact step (N - (a + 1)) (a + 1) a s _ (by omega) (by omega) hO (fun x y h1 h2 h3 => hl x y h1 h2 (by omega)) (fun s1 hO1 hl1 => by exact ih (a + 1) s1 (by omega) hO1 hl1)
  exact key N 0 σ (by omega) Off.rf (fun x y h1 h2 h3 => absurd h3 (Nat.not_lt_zero x))
end MZ
