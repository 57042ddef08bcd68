/-! stands -/
theorem btI_ext {x y : Int32} (h : ∀ k, k < 32 → bt x k = bt y k) : x = y := Int32.toBitVec_inj.mp (BitVec.eq_of_getLsbD_eq (fun k hk => h k hk))
theorem btI_and (x y : Int32) (k : Nat) : bt (x &&& y) k = (bt x k && bt y k) := by unfold bt; rw [Int32.toBitVec_and, BitVec.getLsbD_and]
theorem btI_0 (k : Nat) : bt 0 k = false := by rw [nt_bt, show nt (0 : Int32) = 0 by decide, Nat.zero_testBit]
theorem cnt_rem {R : Nat → Bool} {y : Nat} : ∀ {M : Nat}, y < M → R y = true → fa_cnt R M = fa_cnt (fun k => R k && decide (k ≠ y)) M + 1
  | 0, h, _ => by omega
  | M + 1, h, hr => by
    rw [cnt_s, cnt_s]
    by_cases z : y = M
    · subst z
      rw [hr, if_pos rfl, decide_eq_false (fun w : y ≠ y => w rfl), Bool.and_false, if_neg (by decide)]
      rw [fa_cnt_cong (q := fun k => R k && decide (k ≠ y)) (fun k hk => by rw [decide_eq_true (show k ≠ y by omega), Bool.and_true])]
    · rw [cnt_rem (M := M) (by omega) hr, decide_eq_true (show M ≠ y by omega), Bool.and_true]
      omega
theorem cnt_inj {P : Nat → Bool} {f : Nat → Nat} {M : Nat} : ∀ {N : Nat} {R : Nat → Bool}, (∀ x, x < N → P x = true → f x < M ∧ R (f x) = true) → (∀ x y, x < N → y < N → P x = true → P y = true → f x = f y → x = y) → fa_cnt P N ≤ fa_cnt R M
  | 0, _, _, _ => Nat.zero_le _
  | N + 1, R, h1, h2 => by
    rw [cnt_s]
    by_cases z : P N = true
    · obtain ⟨a1, a2⟩ := h1 N (by omega) z
      rw [if_pos z, cnt_rem a1 a2]
      have := cnt_inj (N := N) (R := fun k => R k && decide (k ≠ f N)) (fun x hx hp => ⟨(h1 x (by omega) hp).1, by
        rw [(h1 x (by omega) hp).2, Bool.true_and, decide_eq_true_iff]
        intro w
        have := h2 x N (by omega) (by omega) hp z w
        omega⟩) (fun x y hx hy => h2 x y (by omega) (by omega))
      omega
    · rw [if_neg z]
      exact cnt_inj (N := N) (fun x hx => h1 x (by omega)) (fun x y hx hy => h2 x y (by omega) (by omega))
/-- the first that stays in another's heap -/
def sdF (N : Nat) (U : Nat → Bool) (g1 : Nat → Nat) (h : Nat) : Nat := fa_first (fun j => U j && decide (g1 j = h)) N
def sdP (N : Nat) (U : Nat → Bool) (g1 g2 : Nat → Nat) (h : Nat) : Bool := decide (sdF N U g1 h < N ∧ ∀ k, k < N → U k = true → (g1 k = h ↔ g2 k = sdF N U g1 h))
def sdR (N : Nat) (U : Nat → Bool) (g1 g2 : Nat → Nat) (e : Nat) : Bool := decide (U e = true ∧ g2 e = e ∧ ∀ k, k < N → U k = true → (g2 k = e ↔ g1 k = g1 e))
theorem sd_same {N : Nat} {U : Nat → Bool} {g1 g2 : Nat → Nat} (h1 : ∀ j, j < N → g1 j ≤ j) (h2 : ∀ j, j < N → U j = true → g2 j ≤ j) : fa_cnt (sdP N U g1 g2) N = fa_cnt (sdR N U g1 g2) N := by
  have k1 : ∀ h, h < N → sdP N U g1 g2 h = true → sdF N U g1 h < N ∧ sdR N U g1 g2 (sdF N U g1 h) = true ∧ g1 (sdF N U g1 h) = h := by
    intro h hh hp
    obtain ⟨p1, p2⟩ := of_decide_eq_true hp
    have p3 := fa_first_yes (fun j => U j && decide (g1 j = h)) N p1
    rw [show fa_first (fun j => U j && decide (g1 j = h)) N = sdF N U g1 h from rfl] at p3
    simp only [Bool.and_eq_true, decide_eq_true_eq] at p3
    refine ⟨p1, decide_eq_true ⟨p3.1, (p2 _ p1 p3.1).mp p3.2, fun k hk hu => ?_⟩, p3.2⟩
    rw [p3.2]
    exact (p2 k hk hu).symm
  have k2 : ∀ e, e < N → sdR N U g1 g2 e = true → g1 e < N ∧ sdP N U g1 g2 (g1 e) = true ∧ sdF N U g1 (g1 e) = e := by
    intro e he hr
    obtain ⟨r1, r2, r3⟩ := of_decide_eq_true hr
    have hf : sdF N U g1 (g1 e) = e := by
      refine first_is he (fun j hj => ?_) ?_
      · cases hu : U j
        · rfl
        · rw [Bool.true_and, decide_eq_false_iff_not]
          intro w
          have a1 := (r3 j (by omega) hu).mpr w
          have a2 := h2 j (by omega) hu
          omega
      · show (U e && decide (g1 e = g1 e)) = true
        rw [r1, decide_eq_true rfl]; rfl
    refine ⟨by have := h1 e he; omega, decide_eq_true ?_, hf⟩
    rw [hf]
    exact ⟨he, fun k hk hu => (r3 k hk hu).symm⟩
  refine Nat.le_antisymm (cnt_inj (f := sdF N U g1) (fun x hx hp => ⟨(k1 x hx hp).1, (k1 x hx hp).2.1⟩) (fun x y hx hy px py w => ?_)) (cnt_inj (f := g1) (fun x hx hp => ⟨(k2 x hx hp).1, (k2 x hx hp).2.1⟩) (fun x y hx hy px py w => ?_))
  · rw [← (k1 x hx px).2.2, ← (k1 y hy py).2.2, w]
  · rw [← (k2 x hx px).2.2, ← (k2 y hy py).2.2, w]
theorem p_standsC {s : gSt} {N : Nat} (hN : s.1 1 0 = nI N) (h30 : N ≤ 30) {U : Nat → Bool} {g1 g2 : Nat → Nat} (h1 : ∀ j, j < N → g1 j ≤ j) (h2 : ∀ j, j < N → U j = true → g2 j ≤ j) (hU : ∀ j, U j = true → j < N) {A : Int32} (hA : ∀ k, k < 32 → bt A k = U k) (h63 : ∀ j, j < N → s.1 63 j = nI (g1 j)) (h64 : ∀ j, j < N → U j = true → s.1 64 j = nI (g2 j)) (h64n : ∀ j, j < N → U j = false → s.1 64 j = -1) {Q : Int32 → gSt → Prop} {QX : String → gSt → Prop} {K : Int32 → Prop} (q : K (nI (fa_cnt (sdP N U g1 g2) N))) : ∃ m, L_X11_stands_71 Q QX A s K m (nI 0) (nI 0) := by
  have loop : ∀ (m i : Nat), i + m = N → L_X11_stands_71 Q QX A s K (m + 1) (nI (fa_cnt (sdP N U g1 g2) i)) (nI i) := by
    intro m
    induction m with
    | zero =>
      intro i hi
      obtain rfl : i = N := by omega
      rw [L_X11_stands_71, hN]
      exact bq_t (nI_le (Nat.le_refl _) (by omega)) q
    | succ m ih =>
      intro i hi
      rw [L_X11_stands_71, hN]
      refine bq_f (nI_ge (by omega) (by omega)) (p_maskOf hN h30 rfl (fun x hx => ?_))
      have nx := ih (i + 1) (by omega)
      rw [cnt_s] at nx
      rw [nI_add]
      have hy : ∀ k, k < 32 → bt (x &&& A) k = (U k && decide (g1 k = i)) := fun k hk => by
        rw [btI_and, hx k hk, hA k hk]
        cases hu : U k
        · rw [Bool.and_false]; rfl
        · have hkN := hU k hu
          have := h1 k hkN
          rw [decide_eq_true hkN, h63 k hkN, Bool.true_and, Bool.and_true, Bool.true_and, dec_nI (by omega) (by omega)]
      have hfle : sdF N U g1 i ≤ N := fa_first_le _ _
      refine ⟨fun z => ?_, fun z => ?_⟩
      · have hf : ¬ sdF N U g1 i < N := fun w => by
          have := fa_first_yes (fun j => U j && decide (g1 j = i)) N w
          have h3 := hy (sdF N U g1 i) (by omega)
          rw [z, btI_0] at h3
          rw [show (fa_first (fun j => U j && decide (g1 j = i)) N) = sdF N U g1 i from rfl, ← h3] at this
          cases this
        rw [show sdP N U g1 g2 i = false from decide_eq_false (fun w => hf w.1), if_neg (by decide)] at nx
        exact nx
      · have hf : sdF N U g1 i < N := by
          by_cases w : sdF N U g1 i < N
          · exact w
          · refine absurd (btI_ext (fun k hk => ?_)) z
            rw [hy k hk, btI_0]
            cases hu : U k
            · rfl
            · have := fa_first_no (fun j => U j && decide (g1 j = i)) N k (by have := hU k hu; show k < sdF N U g1 i; omega)
              simp only [hu] at this
              exact this
        have he1 : bt (x &&& A) (sdF N U g1 i) = true := by rw [hy _ (by omega)]; exact fa_first_yes (fun j => U j && decide (g1 j = i)) N hf
        have he0 : ∀ k, k < sdF N U g1 i → bt (x &&& A) k = false := fun k hk => by rw [hy _ (by omega)]; exact fa_first_no (fun j => U j && decide (g1 j = i)) N k hk
        refine p_ntz (by omega) he1 he0 (p_maskOf hN h30 rfl (fun x2 hx2 => ?_))
        have hm : ∀ k, k < 32 → bt x2 k = (U k && decide (g2 k = sdF N U g1 i)) := fun k hk => by
          rw [hx2 k hk]
          cases hu : U k
          · by_cases w : k < N
            · rw [h64n k w hu, decide_eq_false (show ¬ (-1 : Int32) = nI (sdF N U g1 i) from fun e => m1_nI (show sdF N U g1 i < 2147483648 by omega) e.symm), Bool.and_false]; rfl
            · rw [decide_eq_false w]; rfl
          · have hkN := hU k hu
            have := h2 k hkN hu
            rw [decide_eq_true hkN, h64 k hkN hu, Bool.true_and, Bool.true_and, dec_nI (by omega) (by omega)]
        refine ⟨fun w => ?_, fun w => ?_⟩
        · rw [show sdP N U g1 g2 i = true from decide_eq_true ⟨hf, fun k hk hu => ?_⟩, if_pos rfl] at nx
          · rw [nI_add]; exact nx
          · have a1 := hy k (by omega)
            rw [w, hm k (by omega), hu, Bool.true_and, Bool.true_and, decide_eq_decide] at a1
            exact a1.symm
        · rw [show sdP N U g1 g2 i = false from decide_eq_false (fun y => w (btI_ext (fun k hk => ?_))), if_neg (by decide)] at nx
          · exact nx
          · rw [hy k hk, hm k hk]
            cases hu : U k
            · rfl
            · rw [Bool.true_and, Bool.true_and, decide_eq_decide]
              exact y.2 k (hU k hu) hu
  exact ⟨N + 1, loop N 0 (by omega)⟩
