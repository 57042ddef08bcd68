/-! a part is loaded -/
def memP (p : Nat → Bool) (N i : Nat) : Nat := fa_first (fun e => p e && decide (fa_cnt p e = i)) N
theorem memP_of {p : Nat → Bool} {N e : Nat} (he : e < N) (hp : p e = true) : memP p N (fa_cnt p e) = e := by
  unfold memP
  refine first_is he (fun j hj => ?_) (by rw [hp, decide_eq_true rfl]; rfl)
  cases h : p j
  · rfl
  · have := fa_cnt_ltn hj h
    rw [decide_eq_false (by omega), Bool.and_false]
theorem memP_in {p : Nat → Bool} {N i : Nat} (hi : i < fa_cnt p N) : memP p N i < N ∧ p (memP p N i) = true ∧ fa_cnt p (memP p N i) = i := by
  rw [fa_fb] at hi
  obtain ⟨e, h1, h2, h3⟩ := fb_ct_kth hi
  rw [← fa_fb] at h3
  have := memP_of h1 h2
  rw [h3] at this
  rw [this]
  exact ⟨h1, h2, h3⟩
theorem memP_inj {p : Nat → Bool} {N i j : Nat} (hi : i < fa_cnt p N) (hj : j < fa_cnt p N) (h : memP p N i = memP p N j) : i = j := by
  rw [← (memP_in hi).2.2, h, (memP_in hj).2.2]
theorem memP_lt {p : Nat → Bool} {N i j : Nat} (hi : i < fa_cnt p N) (hj : j < fa_cnt p N) (h : i < j) : memP p N i < memP p N j := by
  refine Nat.lt_of_not_le (fun hle => ?_)
  have h1 := (memP_in hi).2.2
  have h2 := (memP_in hj).2.2
  have := fa_cnt_le2 (p := p) hle
  omega
/-- pairs of a part, by places -/
def plW {α : Type} (f : Nat → Nat → α) (p : Nat → Bool) (N i j : Nat) : α := f (memP p N j) (memP p N i)
theorem p_placing {σ : gSt} {p : Nat → Bool} {N : Nat} {x : Int32} (h30 : N ≤ 30) (hx : ∀ k, k < 32 → bt x k = p k) (hN : ∀ k, N ≤ k → p k = false) (hn : fa_cnt p N ≤ 10) (h0 : σ.1 50 0 = nI 0) {Q K : gSt → Prop} (hK : ∀ t, Off [50, 51] σ t → t.1 50 1 = σ.1 50 1 → t.1 50 0 = nI (fa_cnt p N) → (∀ i, i < fa_cnt p N → t.1 51 i = nI (memP p N i)) → K t) : ∃ m, L_X5_load_18 Q x K m (nI 0) σ := by
  have lp1 : ∀ (m i : Nat) (t : gSt), i + m = 30 → Off [50, 51] σ t → t.1 50 1 = σ.1 50 1 → t.1 50 0 = nI (fa_cnt p i) → (∀ e, e < i → p e = true → t.1 51 (fa_cnt p e) = nI e) → L_X5_load_18 Q x K (m + 1) (nI i) t := by
    intro m
    induction m with
    | zero =>
      intro i t hi hO h1 h2 h3
      obtain rfl : i = 30 := by omega
      rw [L_X5_load_18]
      have e30 : fa_cnt p 30 = fa_cnt p N := by
        have := fa_cnt_beyond (N := N) (30 - N) hN
        rw [show N + (30 - N) = 30 by omega] at this
        exact this
      refine bq_t (nI_le (Nat.le_refl _) (by omega)) (hK t hO h1 (by rw [h2, e30]) (fun i hi => ?_))
      obtain ⟨m1, m2, m3⟩ := memP_in hi
      have := h3 (memP p N i) (by omega) m2
      rw [m3] at this
      exact this
    | succ m ih =>
      intro i t hi hO h1 h2 h3
      rw [L_X5_load_18]
      have hb := @bit_test x i (by omega)
      rw [hx i (by omega)] at hb
      refine bq_f (nI_ge (by omega) (by omega)) ⟨fun z => ?_, fun z => ?_⟩
      · rw [nI_add]
        have hp := hb.mp z
        refine ih (i + 1) t (by omega) hO h1 (by rw [h2, fa_cnt_no hp]) (fun e he hpe => ?_)
        by_cases q : e = i
        · subst q; rw [hp] at hpe; cases hpe
        · exact h3 e (by omega) hpe
      · have hp : p i = true := by
          cases h : p i
          · exact absurd (hb.mpr h) z
          · rfl
        have hiN : i < N := Nat.lt_of_not_le (fun q => by rw [hN i q] at hp; cases hp)
        have hlt := fa_cnt_ltn (n := N) hiN hp
        rw [h2, nI_add]
        refine bq_f (nI_ge (by omega) (by omega)) (wI_i (by omega) (fI_i ?_))
        have e50 : (sI t 51 (fa_cnt p i) (nI i)).1 50 0 = nI (fa_cnt p i) := by rw [sI_get, if_neg (by omega)]; exact h2
        rw [e50, nI_add]
        refine ih (i + 1) _ (by omega) ((hO.i (by simp)).i (by simp)) ?_ ?_ (fun e he hpe => ?_)
        · rw [sI_get, if_neg (by omega), sI_get, if_neg (by omega)]; exact h1
        · rw [sI_get, if_pos ⟨rfl, rfl⟩, fa_cnt_yes hp]
        · rw [sI_get, if_neg (by omega), sI_get]
          by_cases q : e = i
          · subst q; rw [if_pos ⟨rfl, rfl⟩]
          · have := fa_cnt_ltn (n := i) (show e < i by omega) hpe
            rw [if_neg (fun w => by omega)]
            exact h3 e (by omega) hpe
  exact ⟨31, lp1 30 0 σ (by omega) Off.rf rfl h0 (fun e he => absurd he (Nat.not_lt_zero e))⟩
theorem p_load {b : Bool} {σ : gSt} (hR : σ.2.2 = gRf b) {N most : Nat} {bk nm td yr : Nat → Nat} {fa : Nat → Int32} (hE : entAt σ N bk nm td yr fa) (h30 : N ≤ 30) (hm30 : most ≤ 30) (hmo : σ.1 30 5 = nI most) {wt : Nat → Nat → Int32} {nv ti ap : Nat → Nat → Bool} (hC : pwC σ N bk yr wt nv ti ap) (hS : pwS N wt nv ti ap) {p : Nat → Bool} {x : Int32} (hx : ∀ k, k < 32 → bt x k = p k) (hN : ∀ k, N ≤ k → p k = false) (hn : fa_cnt p N ≤ 10) {Q : gSt → Prop}
    (q : ∀ t, Off [50, 51, 52, 53, 54] σ t → ldC t (fa_cnt p N) (rmM most) (plW wt p N) (plW ap p N) (plW ti p N) → (∀ i, i < fa_cnt p N → t.1 51 i = nI (memP p N i)) → Q t) : W_X5_load x Q σ := by
  generalize hnn : fa_cnt p N = n at *
  have hmem : ∀ i, i < n → memP p N i < N := fun i hi => (memP_in (by omega)).1
  have hmne : ∀ i j, i < n → j < n → i ≠ j → memP p N i ≠ memP p N j := fun i j hi hj hne h => hne (memP_inj (by omega) (by omega) h)
  have hsy : ∀ i j, i < n → j < n → i ≠ j → wt (memP p N i) (memP p N j) = plW wt p N i j ∧ ap (memP p N i) (memP p N j) = plW ap p N i j ∧ ti (memP p N i) (memP p N j) = plW ti p N i j ∧ plW ap p N i j = plW ap p N j i ∧ plW ti p N i j = plW ti p N j i := fun i j hi hj hne => by
    have := hS _ _ (hmem i hi) (hmem j hj) (hmne i j hi hj hne)
    unfold plW
    exact ⟨this.1, this.2.2.2.1, this.2.2.1, this.2.2.2.1.symm, this.2.2.1.symm⟩
  have inner : ∀ (m j i : Nat) (s : gSt) (K : gSt → Prop), j + m = i → i < n → Off [50, 51, 52, 53, 54] σ s → s.1 50 0 = nI n → s.1 50 1 = nI (rmM most) → (∀ i, i < n → s.1 51 i = nI (memP p N i)) → (∀ a c, a < 10 → c < 32 → bt (s.1 53 a) c = (prD i j a c && plW ap p N a c)) → (∀ a c, a < 10 → c < 32 → bt (s.1 54 a) c = (prD i j a c && plW ti p N a c)) → (∀ a c, c < a → (a < i ∨ (a = i ∧ c < j)) → s.1 52 (a * 10 + c) = plW wt p N a c) → (∀ s1, Off [50, 51, 52, 53, 54] σ s1 → s1.1 50 0 = nI n → s1.1 50 1 = nI (rmM most) → (∀ i, i < n → s1.1 51 i = nI (memP p N i)) → (∀ a c, a < 10 → c < 32 → bt (s1.1 53 a) c = (prD i i a c && plW ap p N a c)) → (∀ a c, a < 10 → c < 32 → bt (s1.1 54 a) c = (prD i i a c && plW ti p N a c)) → (∀ a c, c < a → a < i + 1 → s1.1 52 (a * 10 + c) = plW wt p N a c) → K s1) → L_X5_load_103 Q (nI i) (nI (memP p N i)) K (m + 1) (nI j) s := by
    intro m
    induction m with
    | zero =>
      intro j i s K hj hi hO h0 h1 h51 h53 h54 h52 hK
      obtain rfl : j = i := by omega
      rw [L_X5_load_103]
      exact bq_t (nI_le (Nat.le_refl _) (by omega)) (hK s hO h0 h1 h51 h53 h54 (fun a c hca ha => h52 a c hca (by omega)))
    | succ m ih =>
      intro j i s K hj hi hO h0 h1 h51 h53 h54 h52 hK
      rw [L_X5_load_103]
      have hmi := hmem i hi
      have hmj := hmem j (by omega)
      have hne := hmne i j hi (by omega) (by omega)
      obtain ⟨y1, y2, y3, y4, y5⟩ := hsy i j hi (by omega) (by omega)
      refine bq_f (nI_ge (by omega) (by omega)) (rI_i (by omega) ?_)
      rw [h51 j (by omega)]
      refine ⟨_, fun o l => s_pull (hO.2.trans hR) _ _ (by omega) (by omega), ?_⟩
      rw [nI_mul, nI_add]
      refine wI_i (by omega) ?_
      have e24 : s.1 24 = σ.1 24 := (hO.1 24 (by decide)).1
      rw [e24, (hC _ _ hmi hmj hne).1, y1]
      have hOu : Off [50, 51, 52, 53, 54] σ (sI s 52 (i * 10 + j) (plW wt p N i j)) := hO.i (by simp)
      refine ⟨_, fun o l => s_partsThem (hOu.2.trans hR) (hE.off hOu (by simp) (by simp)) _ _ hmi hmj, ?_⟩
      refine ⟨_, fun o l => s_setBit (by decide) (len := 10) rfl (by omega) (by omega) (by decide), fun r s2 hp => ⟨hp.1, hp.2.1.2, ?_⟩⟩
      rw [prtC_off hOu (by decide), (hC _ _ hmi hmj hne).2.2.2, y2] at hp
      have hO2 : Off [50, 51, 52, 53, 54] σ s2 := hOu.trans (hp.2.1.mono (by simp))
      refine rI_i (by omega) ?_
      have e31 : s2.1 31 = σ.1 31 := (hO2.1 31 (by decide)).1
      have hb := @bit_test (s2.1 31 (memP p N i)) (memP p N j) (by omega)
      rw [e31, (hC _ _ hmi hmj hne).2.2.1, y3] at hb
      intro J7 hJ7
      have fin1 : ∀ v, v = zI (plW ti p N i j) → J7 v := by
        rintro v rfl
        refine hJ7 _ ⟨_, fun o l => s_setBit (by decide) (len := 10) rfl (by omega) (by omega) (by decide), fun r s3 hp3 => ⟨hp3.1, hp3.2.1.2, ?_⟩⟩
        show L_X5_load_103 Q (nI i) (nI (memP p N i)) K (m + 1) (nI j + nI 1) s3
        rw [nI_add]
        have hO3 : Off [50, 51, 52, 53, 54] σ s3 := hO2.trans (hp3.2.1.mono (by simp))
        have e50 : s3.1 50 = s.1 50 := by rw [(hp3.2.1.1 50 (by decide)).1, (hp.2.1.1 50 (by decide)).1]; simp [sI]
        have e51 : s3.1 51 = s.1 51 := by rw [(hp3.2.1.1 51 (by decide)).1, (hp.2.1.1 51 (by decide)).1]; simp [sI]
        have e52 : ∀ y, s3.1 52 y = if y = i * 10 + j then plW wt p N i j else s.1 52 y := fun y => by
          rw [(hp3.2.1.1 52 (by decide)).1, (hp.2.1.1 52 (by decide)).1, sI_get]
          by_cases z : y = i * 10 + j
          · rw [if_pos ⟨rfl, z⟩, if_pos z]
          · rw [if_neg (fun w => z w.2), if_neg z]
        have e53 : s3.1 53 = s2.1 53 := (hp3.2.1.1 53 (by decide)).1
        have e54 : s2.1 54 = s.1 54 := by rw [(hp.2.1.1 54 (by decide)).1]; simp [sI]
        have g53 : (sI s 52 (i * 10 + j) (plW wt p N i j)).1 53 = s.1 53 := by simp [sI]
        have key : ∀ (f : Nat → Nat → Bool), f i j = f j i → ∀ a c, a < 10 → c < 32 → (if (a = i ∧ c = j) ∨ (a = j ∧ c = i) then f i j else (prD i j a c && f a c)) = (prD i (j + 1) a c && f a c) := by
          intro f hf a c ha hc
          by_cases z : (a = i ∧ c = j) ∨ (a = j ∧ c = i)
          · rw [if_pos z]
            have : prD i (j + 1) a c = true := by unfold prD; simp only [decide_eq_true_iff]; omega
            rw [this, Bool.true_and]
            rcases z with ⟨rfl, rfl⟩ | ⟨rfl, rfl⟩
            · rfl
            · exact hf
          · rw [if_neg z]
            have : prD i (j + 1) a c = prD i j a c := by unfold prD; rw [decide_eq_decide]; omega
            rw [this]
        refine ih (j + 1) i s3 K (by omega) hi hO3 (by rw [e50]; exact h0) (by rw [e50]; exact h1) (by rw [e51]; exact h51) (fun a c ha hc => ?_) (fun a c ha hc => ?_) (fun a c hca hac => ?_) hK
        · rw [e53, hp.2.2 a c hc, g53, h53 a c ha hc]
          exact key _ y4 a c ha hc
        · rw [hp3.2.2 a c hc, e54, h54 a c ha hc]
          exact key _ y5 a c ha hc
        · rw [e52]
          by_cases z : a = i ∧ c = j
          · obtain ⟨rfl, rfl⟩ := z
            rw [if_pos rfl]
          · rw [if_neg (by omega)]
            exact h52 a c hca (by omega)
      refine ⟨fun z => fin1 _ ?_, fun z => fin1 _ ?_⟩
      · rw [e31] at z
        rw [hb.mp z]; rfl
      · have : plW ti p N i j = true := by
          cases h : plW ti p N i j
          · rw [e31] at z
            exact absurd (hb.mpr h) z
          · rfl
        rw [this]; rfl
  have outer : ∀ (m i : Nat) (s : gSt), n ≤ i + m → i ≤ max n 1 → 1 ≤ i → Off [50, 51, 52, 53, 54] σ s → s.1 50 0 = nI n → s.1 50 1 = nI (rmM most) → (∀ i, i < n → s.1 51 i = nI (memP p N i)) → (∀ a c, a < 10 → c < 32 → bt (s.1 53 a) c = (prD i 0 a c && plW ap p N a c)) → (∀ a c, a < 10 → c < 32 → bt (s.1 54 a) c = (prD i 0 a c && plW ti p N a c)) → (∀ a c, c < a → a < i → s.1 52 (a * 10 + c) = plW wt p N a c) → L_X5_load_85 Q (fun s32 => Q s32) (m + 1) (nI i) s := by
    intro m
    have done : ∀ (i : Nat) (s : gSt), n ≤ i → i ≤ max n 1 → Off [50, 51, 52, 53, 54] σ s → s.1 50 0 = nI n → s.1 50 1 = nI (rmM most) → (∀ i, i < n → s.1 51 i = nI (memP p N i)) → (∀ a c, a < 10 → c < 32 → bt (s.1 53 a) c = (prD i 0 a c && plW ap p N a c)) → (∀ a c, a < 10 → c < 32 → bt (s.1 54 a) c = (prD i 0 a c && plW ti p N a c)) → (∀ a c, c < a → a < i → s.1 52 (a * 10 + c) = plW wt p N a c) → Q s := by
      intro i s hle hi hO h0 h1 h51 h53 h54 h52
      have hpr : ∀ a c, a < n → prD i 0 a c = (decide (c < n) && decide (c ≠ a)) := fun a c ha => by
        unfold prD
        rw [← Bool.decide_and, decide_eq_decide]
        omega
      refine q s hO ⟨h0, h1, fun a c hca ha => h52 a c hca (by omega), fun a c ha hc => ?_, fun a c ha hc => ?_⟩ h51
      · rw [h53 a c (by omega) hc, hpr a c ha]
      · rw [h54 a c (by omega) hc, hpr a c ha]
    induction m with
    | zero =>
      intro i s hle hi h1i hO h0 h1 h51 h53 h54 h52
      rw [L_X5_load_85, h0]
      exact bq_t (nI_le (by omega) (by omega)) (done i s (by omega) hi hO h0 h1 h51 h53 h54 h52)
    | succ m ih =>
      intro i s hle hi h1i hO h0 h1 h51 h53 h54 h52
      rw [L_X5_load_85, h0, nI_add]
      by_cases hlt : i < n
      · refine bq_f (nI_ge hlt (by omega)) (rI_i (by omega) ?_)
        rw [h51 i hlt]
        refine ⟨i + 1, inner i 0 i s _ (by omega) hlt hO h0 h1 h51 h53 h54 (fun a c hca hac => h52 a c hca (by omega)) (fun s1 hO1 g0 g1 g51 g53 g54 g52 => ih (i + 1) s1 (by omega) (by omega) (by omega) hO1 g0 g1 g51 (fun a c ha hc => ?_) (fun a c ha hc => ?_) g52)⟩
        · rw [g53 a c ha hc]
          congr 1
          unfold prD
          rw [decide_eq_decide]
          omega
        · rw [g54 a c ha hc]
          congr 1
          unfold prD
          rw [decide_eq_decide]
          omega
      · exact bq_t (nI_le (by omega) (by omega)) (done i s (by omega) hi hO h0 h1 h51 h53 h54 h52)
  unfold W_X5_load
  refine fI_i ⟨_, fun o l => s_room (σ := sI σ 50 0 (nI 0)) hR most hm30 (by rw [sI_get, if_neg (by omega)]; exact hmo), fI_i ?_⟩
  have ern : (if most = 0 then 30 else most) = rmM most := rfl
  rw [ern]
  refine p_placing (N := N) h30 hx hN (by omega) (by rw [sI_get, if_neg (by omega), sI_get, if_pos ⟨rfl, rfl⟩]) (fun t hO ht1 ht0 h51 => ?_)
  rw [hnn] at ht0 h51
  have hOt : Off [50, 51, 52, 53, 54] σ t := ((Off.rf.i (by simp)).i (by simp)).trans (hO.mono (by simp))
  intro s1 hO1 hf1 s2 hO2 hf2
  have e50 : s2.1 50 = t.1 50 := (hO2.1 50 (by decide)).1.trans (hO1.1 50 (by decide)).1
  have e51 : s2.1 51 = t.1 51 := (hO2.1 51 (by decide)).1.trans (hO1.1 51 (by decide)).1
  have e53 : s2.1 53 = s1.1 53 := (hO2.1 53 (by decide)).1
  have hp0 : ∀ a c, prD 1 0 a c = false := fun a c => by unfold prD; simp only [decide_eq_false_iff_not]; omega
  refine ⟨n + 1, outer n 1 s2 (by omega) (by omega) (Nat.le_refl _) ((hOt.trans (hO1.mono (by simp))).trans (hO2.mono (by simp))) (by rw [e50]; exact ht0) (by rw [e50, ht1, sI_get, if_pos ⟨rfl, rfl⟩]) (by rw [e51]; exact h51) (fun a c ha hc => ?_) (fun a c ha hc => ?_) (fun a c hca ha => by omega)⟩
  · rw [e53, hf1, if_pos (show a < (lay 53).2 from ha), nI_0, b_0, hp0, Bool.false_and]
  · rw [hf2, if_pos (show a < (lay 54).2 from ha), nI_0, b_0, hp0, Bool.false_and]
