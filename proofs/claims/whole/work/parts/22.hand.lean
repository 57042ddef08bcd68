theorem nI_le0 {m : Nat} (h : m < 1000) : (¬ 0 < m) ↔ m = 0 := by omega
set_option maxHeartbeats 4000000 in
theorem s_restore {o : gOm} {l : Launch} {σ : gSt} {b : Bool} (hR : σ.2.2 = gRf b) {N : Nat} (hN : N ≤ 30) (hsz : σ.1 33 1 = nI N) (m kn : Nat) (hm : m ≤ 6) (hmk : σ.1 33 2 = nI m) (hkn : 0 < m → σ.1 37 (m - 1) = nI kn) (hkn2 : 0 < m → kn ≤ N) : Sp o l mX2_restore 2 0 0 [.ref (ad o 33)] 116 116 σ (pI (fun x σ1 => x = zI (decide (0 < m)) ∧ (m = 0 → σ1 = σ) ∧ (0 < m → Off [33, 34] σ σ1 ∧ σ1.1 33 2 = nI (m - 1) ∧ (∀ j, j ≠ 2 → σ1.1 33 j = σ.1 33 j) ∧ ∀ j, σ1.1 34 j = if j < kn then σ.1 36 ((m - 1) * 30 + j) else if j < N then nI j else σ.1 34 j))) := by
  refine Sp.of (ls0 := [some (.ref (ad o 33)), none, none]) miX2_restore rfl (Nat.le_of_ble_eq_true rfl) rfl (fun γ hγ hnm X Y => ?_)
  subst hγ
  have X : gX o γ cX2_restore 3 RX2 := X
  have hL : ∀ (q i : Nat), i ≤ N → N + 1 ≤ i + q → kn ≤ i → ∀ σ1 : gSt, Off [33, 34] σ σ1 → (∀ j, σ1.1 33 j = if j = 2 then nI (m - 1) else σ.1 33 j) → (∀ j, σ1.1 34 j = if j < kn then σ.1 36 ((m - 1) * 30 + j) else if j < i then nI j else σ.1 34 j) → 0 < m → G o γ 0 0 116 σ1 51 [some (.ref (ad o 33)), some (.int (nI kn)), some (.int (nI i))] [] := by
    intro q
    induction q with
    | zero => intro i q1 q2; omega
    | succ q ihhL =>
      intro i q1 q2 hki σ1 hO h33 hv hm0
      have hR := hO.2.trans hR
      refine g_iload_2 (pc := 51) X dX2_restore_51 ?_
      refine g_aload_0 (pc := 52) X dX2_restore_52 ?_
      refine g_getI (pc := 53) X dX2_restore_53 rfl (by decide) fl_X2_32 (Or.inl rfl) ?_
      rw [show σ1.1 33 1 = nI N by rw [h33]; exact hsz]
      first | refine g_icmp_ge_n (pc := 56) X dX2_restore_56 (tgt := 72) (by decide) (by omega) (by omega) (fun h56 => ?_) (fun h56 => ?_) | refine g_icmp_ge (pc := 56) X dX2_restore_56 (tgt := 72) (by decide) (fun h56 => ?_) (fun h56 => ?_)
      · refine g_iconst (pc := 72) X dX2_restore_72 kiconst_1 ?_
        exact g_zreturn (pc := 73) X Y dX2_restore_73 (Or.inr rfl) (Nat.le_of_ble_eq_true rfl) (Nat.le_of_ble_eq_true rfl) (by obtain rfl : i = N := (by omega); exact ⟨_, rfl, by simp [zI, hm0], fun q => by omega, fun _ => ⟨hO, by rw [h33]; simp, fun j hj => by rw [h33, if_neg hj], hv⟩⟩)
      · refine g_aload_0 (pc := 59) X dX2_restore_59 ?_
        refine g_getRf (pc := 60) X dX2_restore_60 fl_X2_9 rfl (by decide) rfl hR rfl ?_
        refine g_iload_2 (pc := 63) X dX2_restore_63 ?_
        refine g_iload_2 (pc := 64) X dX2_restore_64 ?_
        refine g_iastore_n (pc := 65) X dX2_restore_65 rfl (by decide) (rfl) (by omega) ?_
        first | refine g_iinc_2_n (pc := 66) X dX2_restore_66 (by decide) rfl ?_ | refine g_iinc_2 (pc := 66) X dX2_restore_66 rfl (by decide) rfl ?_
        refine g_goto (pc := 69) X dX2_restore_69 (tgt := 51) (by decide) ?_
        exact ihhL (i + 1) (by omega) (by omega) (by omega) _ (hO.i (by simp)) (fun j => by rw [sI_get, if_neg (by simp)]; exact h33 j) (fun j => by
          rw [sI_get, hv j]
          by_cases z : j = i
          · subst z; rw [if_pos ⟨rfl, rfl⟩, if_neg (by omega), if_pos (by omega)]
          · have : (j < i + 1) = (j < i) := by simp; omega
            simp [z, this]) hm0
  refine g_aload_0 (pc := 0) X dX2_restore_0 ?_
  refine g_getI (pc := 1) X dX2_restore_1 rfl (by decide) fl_X2_87 (Or.inl rfl) ?_
  rw [hmk]
  refine g_if_gt_n (pc := 4) X dX2_restore_4 (tgt := 9) (by decide) (by omega) (fun h4 => ?_) (fun h4 => ?_)
  · have hkn := hkn h4
    have hkn2 := hkn2 h4
    refine g_aload_0 (pc := 9) X dX2_restore_9 ?_
    refine g_dup (pc := 10) X dX2_restore_10 rfl ?_
    refine g_getI (pc := 11) X dX2_restore_11 rfl (by decide) fl_X2_87 (Or.inl rfl) ?_
    rw [hmk]
    refine g_iconst (pc := 14) X dX2_restore_14 kiconst_1 ?_
    refine g_isub_n (pc := 15) X dX2_restore_15 (by omega) ?_
    refine g_putI (pc := 16) X dX2_restore_16 fl_X2_87 rfl (by decide) rfl rfl ?_
    refine g_aload_0 (pc := 19) X dX2_restore_19 ?_
    refine g_getRf (pc := 20) X dX2_restore_20 fl_X2_21 rfl (by decide) rfl hR rfl ?_
    refine g_aload_0 (pc := 23) X dX2_restore_23 ?_
    refine g_getI (pc := 24) X dX2_restore_24 rfl (by decide) fl_X2_87 (Or.inl rfl) ?_
    rw [sI_get, if_pos ⟨rfl, rfl⟩]
    refine g_iaload_n (pc := 27) X dX2_restore_27 rfl (by decide) (rfl) (by omega) ?_
    rw [sI_get, if_neg (by simp), hkn]
    refine g_istore_1 (pc := 28) X dX2_restore_28 (by decide) rfl ?_
    refine g_aload_0 (pc := 29) X dX2_restore_29 ?_
    refine g_getRf (pc := 30) X dX2_restore_30 fl_X2_18 rfl (by decide) rfl hR rfl ?_
    refine g_aload_0 (pc := 33) X dX2_restore_33 ?_
    refine g_getI (pc := 34) X dX2_restore_34 rfl (by decide) fl_X2_87 (Or.inl rfl) ?_
    rw [sI_get, if_pos ⟨rfl, rfl⟩]
    refine g_bipush (pc := 37) X dX2_restore_37 kbipush_30 ?_
    first | refine g_imul_n (pc := 39) X dX2_restore_39 ?_ | refine g_imul (pc := 39) X dX2_restore_39 ?_
    refine g_aload_0 (pc := 40) X dX2_restore_40 ?_
    refine g_getRf (pc := 41) X dX2_restore_41 fl_X2_9 rfl (by decide) rfl hR rfl ?_
    refine g_iconst (pc := 44) X dX2_restore_44 kiconst_0 ?_
    refine g_iload_1 (pc := 45) X dX2_restore_45 ?_
    refine g_copy (pc := 46) X Y dX2_restore_46 cl_X2_53 (by decide) rfl rfl (by decide) (by decide) (by omega) (by omega) (Nat.le_of_ble_eq_true rfl) ?_
    refine g_iload_1 (pc := 49) X dX2_restore_49 ?_
    refine g_istore_2 (pc := 50) X dX2_restore_50 (by decide) rfl ?_
    have e0 : Off [33, 34] σ (sC (sI σ 33 2 (nI (m - 1))) 34 (va_cpy ((sI σ 33 2 (nI (m - 1))).1 36) ((sI σ 33 2 (nI (m - 1))).1 34) ((m - 1) * 30) 0 kn)) := ⟨fun k hk9 => ⟨by simp only [sC, sI]; rw [if_neg (by simp at hk9; omega), if_neg (by simp at hk9; omega)], rfl⟩, rfl⟩
    exact hL (N + 1) kn (by omega) (by omega) (Nat.le_refl _) _ e0 (fun j => by simp only [sC_get, sI_get]; simp) (fun j => by
      rw [sC_get, if_pos rfl, va_cpy]
      by_cases z : j < kn
      · simp [z, sI_get, Nat.add_comm]
      · simp [z, sI_get]) h4
  · refine g_iconst (pc := 7) X dX2_restore_7 kiconst_0 ?_
    exact g_zreturn (pc := 8) X Y dX2_restore_8 (Or.inl rfl) (Nat.le_of_ble_eq_true rfl) (Nat.le_of_ble_eq_true rfl) (⟨_, rfl, by simp [zI, show m = 0 by omega], fun _ => rfl, fun q => by omega⟩)
def cpr (w : Int32) (same : Bool) : Int64 := (if same then (if -w < nI 0 then nI 0 else -w) else (if w < nI 0 then nI 0 else w)).toInt64
def rowS (f : Nat → Int64) : Nat → Int64
  | 0 => lN 0
  | n + 1 => rowS f n + f n
def triS (f : Nat → Nat → Int64) : Nat → Int64
  | 0 => lN 0
  | n + 1 => triS f n + rowS (f n) n
theorem lN0_add (x : Int64) : x + lN 0 = x := by
  show x + 0 = x
  exact Int64.add_zero x
set_option maxHeartbeats 4000000 in
theorem s_price {o : gOm} {l : Launch} {σ : gSt} {b : Bool} (hR : σ.2.2 = gRf b) {N : Nat} (hN : N ≤ 30) (hsz : σ.1 33 1 = nI N) {h : Nat → Nat} (hh : ∀ i, i < N → σ.1 34 i = nI (h i)) (hb : ∀ i, i < N → h i ≤ 30)  : Sp o l mX2_price 2 0 0 [.ref (ad o 33)] 116 116 σ (pL (fun x σ1 => x = triS (fun i j => cpr (σ.1 24 (i * 30 + j)) (decide (h i = h j))) N ∧ σ = σ1)) := by
  refine Sp.of (ls0 := [some (.ref (ad o 33)), none, none, none, none, none]) miX2_price rfl (Nat.le_of_ble_eq_true rfl) rfl (fun γ hγ hnm X Y => ?_)
  subst hγ
  have X : gX o γ cX2_price 6 RX2 := X
  have hz : ∀ n, n = max N 1 → triS (fun i j => cpr (σ.1 24 (i * 30 + j)) (decide (h i = h j))) n = triS (fun i j => cpr (σ.1 24 (i * 30 + j)) (decide (h i = h j))) N := by
    intro n hn
    by_cases z : N = 0
    · subst z; subst hn; show triS _ 1 = triS _ 0; rw [triS, triS, rowS]; rfl
    · rw [show n = N by omega]
  have hL : ∀ (m i : Nat), i ≤ max N 1 → max N 1 + 1 ≤ i + m → 1 ≤ i → G o γ 0 0 116 σ 4 [some (.ref (ad o 33)), some (.long (triS (fun i j => cpr (σ.1 24 (i * 30 + j)) (decide (h i = h j))) i)), none, some (.int (nI i)), none, none] [] := by
    intro m
    induction m with
    | zero => intro i q1 q2; omega
    | succ m ihhL =>
      intro i q1 q2 h1i
      refine g_iload_3 (pc := 4) X dX2_price_4 ?_
      refine g_aload_0 (pc := 5) X dX2_price_5 ?_
      refine g_getI (pc := 6) X dX2_price_6 rfl (by decide) fl_X2_32 (Or.inl rfl) ?_
      rw [hsz]
      first | refine g_icmp_ge_n (pc := 9) X dX2_price_9 (tgt := 82) (by decide) (by omega) (by omega) (fun h9 => ?_) (fun h9 => ?_) | refine g_icmp_ge (pc := 9) X dX2_price_9 (tgt := 82) (by decide) (fun h9 => ?_) (fun h9 => ?_)
      · refine g_lload_1 (pc := 82) X dX2_price_82 ?_
        exact g_lreturn (pc := 83) X Y dX2_price_83 (Nat.le_of_ble_eq_true rfl) (Nat.le_of_ble_eq_true rfl) (by obtain rfl : i = max N 1 := (by omega); exact ⟨_, rfl, hz _ (by omega), rfl⟩)
      · refine g_iconst (pc := 12) X dX2_price_12 kiconst_0 ?_
        refine g_istore_4 (pc := 13) X dX2_price_13 (by decide) rfl ?_
        have hM : ∀ (m2 j : Nat), j ≤ i → i + 1 ≤ j + m2 → G o γ 0 0 116 σ 15 [some (.ref (ad o 33)), some (.long (triS (fun i j => cpr (σ.1 24 (i * 30 + j)) (decide (h i = h j))) i + rowS ((fun i j => cpr (σ.1 24 (i * 30 + j)) (decide (h i = h j))) i) j)), none, some (.int (nI i)), some (.int (nI j)), none] [] := by
          intro m2
          induction m2 with
          | zero => intro j q1 q2; omega
          | succ m2 ihhM =>
            intro j q1 q2 
            refine g_iload_4 (pc := 15) X dX2_price_15 ?_
            refine g_iload_3 (pc := 17) X dX2_price_17 ?_
            first | refine g_icmp_ge_n (pc := 18) X dX2_price_18 (tgt := 76) (by decide) (by omega) (by omega) (fun h18 => ?_) (fun h18 => ?_) | refine g_icmp_ge (pc := 18) X dX2_price_18 (tgt := 76) (by decide) (fun h18 => ?_) (fun h18 => ?_)
            · refine g_iinc_3_n (pc := 76) X dX2_price_76 (by decide) rfl ?_
              refine g_goto (pc := 79) X dX2_price_79 (tgt := 4) (by decide) ?_
              have ej : j = i := by omega
              subst ej
              have w := ihhL (j + 1) (by omega) (by omega) (by omega)
              rw [triS] at w
              exact g_drop (by simp [lsub]) w
            · refine g_aload_0 (pc := 21) X dX2_price_21 ?_
              refine g_getRf (pc := 22) X dX2_price_22 fl_X2_24 rfl (by decide) rfl hR rfl ?_
              refine g_iload_3 (pc := 25) X dX2_price_25 ?_
              refine g_iload_4 (pc := 26) X dX2_price_26 ?_
              refine g_callV_I (pc := 28) X Y dX2_price_28 miX4_pull li_X2_59 (s_pull (by exact hR) i j (by omega) (by omega)) rfl (by decide) rfl ⟨_, rfl⟩ rfl ⟨Nat.le_of_ble_eq_true rfl, Nat.le_of_ble_eq_true rfl⟩ (Nat.le_of_ble_eq_true rfl) (Nat.le_of_ble_eq_true rfl) rfl (by exact Nat.le_of_ble_eq_true rfl) (fun x9 σ1 hp => ?_)
              obtain ⟨rfl, rfl⟩ := hp
              refine g_istore_5 (pc := 31) X dX2_price_31 (by decide) rfl ?_
              have hbi := hb i (by omega)
              have hbj := hb j (by omega)
              refine g_lload_1 (pc := 33) X dX2_price_33 ?_
              refine g_aload_0 (pc := 34) X dX2_price_34 ?_
              refine g_getRf (pc := 35) X dX2_price_35 fl_X2_9 rfl (by decide) rfl hR rfl ?_
              refine g_iload_3 (pc := 38) X dX2_price_38 ?_
              refine g_iaload_n (pc := 39) X dX2_price_39 rfl (by decide) (rfl) (by omega) ?_
              rw [hh i (by omega)]
              refine g_aload_0 (pc := 40) X dX2_price_40 ?_
              refine g_getRf (pc := 41) X dX2_price_41 fl_X2_9 rfl (by decide) rfl hR rfl ?_
              refine g_iload_4 (pc := 44) X dX2_price_44 ?_
              refine g_iaload_n (pc := 46) X dX2_price_46 rfl (by decide) (rfl) (by omega) ?_
              rw [hh j (by omega)]
              apply g_val (v := .long (cpr (σ.1 24 (i * 30 + j)) (decide (h i = h j)))) (pcJ := 68)
              · intro T9
                first | refine g_icmp_ne_n (pc := 47) X dX2_price_47 (tgt := 61) (by decide) (by omega) (by omega) (fun h47 => ?_) (fun h47 => ?_) | refine g_icmp_ne (pc := 47) X dX2_price_47 (tgt := 61) (by decide) (fun h47 => ?_) (fun h47 => ?_)
                · refine g_iload_5 (pc := 61) X dX2_price_61 ?_
                  refine g_iconst (pc := 63) X dX2_price_63 kiconst_0 ?_
                  refine g_mmax (pc := 64) X Y dX2_price_64 li_X2_65 (by decide) (Nat.le_refl _) (Nat.le_refl _) (by exact Nat.le_of_ble_eq_true rfl) ?_
                  refine g_i2l (pc := 67) X dX2_price_67 ?_
                  exact T9 _ (by first | (rw [cpr, decide_eq_true h47]; rfl) | (rw [cpr, decide_eq_false h47]; rfl))
                · refine g_iload_5 (pc := 50) X dX2_price_50 ?_
                  refine g_ineg (pc := 52) X dX2_price_52 ?_
                  refine g_iconst (pc := 53) X dX2_price_53 kiconst_0 ?_
                  refine g_mmax (pc := 54) X Y dX2_price_54 li_X2_65 (by decide) (Nat.le_refl _) (Nat.le_refl _) (by exact Nat.le_of_ble_eq_true rfl) ?_
                  refine g_i2l (pc := 57) X dX2_price_57 ?_
                  refine g_goto (pc := 58) X dX2_price_58 (tgt := 68) (by decide) ?_
                  exact T9 _ (by first | (rw [cpr, decide_eq_true h47]; rfl) | (rw [cpr, decide_eq_false h47]; rfl))
              · refine g_ladd (pc := 68) X dX2_price_68 ?_
                refine g_lstore_1 (pc := 69) X dX2_price_69 (by decide) rfl ?_
                first | refine g_iinc_4_n (pc := 70) X dX2_price_70 (by decide) rfl ?_ | refine g_iinc_4 (pc := 70) X dX2_price_70 rfl (by decide) rfl ?_
                refine g_goto (pc := 73) X dX2_price_73 (tgt := 15) (by decide) ?_
                have w := ihhM (j + 1) (by omega) (by omega)
                rw [rowS, ← Int64.add_assoc] at w
                exact g_drop (by simp [lsub]) w
        have w := hM (i + 1) 0 (by omega) (by omega)
        rw [rowS, lN0_add] at w
        exact w
  refine g_lconst (pc := 0) X dX2_price_0 (v := lN 0) rfl ?_
  refine g_lstore_1 (pc := 1) X dX2_price_1 (by decide) rfl ?_
  refine g_iconst (pc := 2) X dX2_price_2 kiconst_1 ?_
  refine g_istore_3 (pc := 3) X dX2_price_3 (by decide) rfl ?_
  have w := hL (max N 1) 1 (by omega) (by omega) (Nat.le_refl _)
  rw [show triS (fun i j => cpr (σ.1 24 (i * 30 + j)) (decide (h i = h j))) 1 = lN 0 from by rw [triS, triS, rowS]; rfl] at w
  exact w
def room (m : Nat) : Nat := if m = 0 then 30 else m
/-- e is against that with lesser ones, as the class has it -/
def offC (σ : gSt) (h bk yr : Nat → Nat) (m e : Nat) : Bool := anyB (fun i => if h i = h e then prtC σ bk yr i e else bt (σ.1 31 e) i) e || decide (room m ≤ fa_cnt (fun i => decide (h i = h e)) e)
set_option maxHeartbeats 4000000 in
theorem s_offends {o : gOm} {l : Launch} {σ : gSt} {b : Bool} (hR : σ.2.2 = gRf b) {N : Nat} {bk nm td yr : Nat → Nat} {fa : Nat → Int32} (hE : entAt σ N bk nm td yr fa) {h : Nat → Nat} (hh : ∀ i, i < N → σ.1 34 i = nI (h i)) (hb : ∀ i, i < N → h i ≤ 30) (hN : N ≤ 30) (e m : Nat) (he : e < N) (hm : m ≤ 30) (hmo : σ.1 30 5 = nI m) : Sp o l mX2_offends 4 0 0 [.ref (ad o 33), .int (nI e)] 116 116 σ (pI (fun x σ1 => x = (zI (offC σ h bk yr m e)) ∧ σ = σ1)) := by
  refine Sp.of (ls0 := [some (.ref (ad o 33)), some (.int (nI e)), none, none, none, none]) miX2_offends rfl (Nat.le_of_ble_eq_true rfl) rfl (fun γ hγ hnm X Y => ?_)
  subst hγ
  have X : gX o γ cX2_offends 6 RX2 := X
  have hL : ∀ (q i : Nat), i ≤ e → e + 1 ≤ i + q → anyB (fun i => if h i = h e then prtC σ bk yr i e else bt (σ.1 31 e) i) i = false → G o γ 0 0 116 σ 4 [some (.ref (ad o 33)), some (.int (nI e)), some (.int (nI (fa_cnt (fun i => decide (h i = h e)) i))), some (.int (nI i)), none, none] [] := by
    intro q
    induction q with
    | zero => intro i q1 q2; omega
    | succ q ihhL =>
      intro i q1 q2 hany
      have hcl0 := fa_cnt_le (fun i => decide (h i = h e)) i
      refine g_iload_3 (pc := 4) X dX2_offends_4 ?_
      refine g_iload_1 (pc := 5) X dX2_offends_5 ?_
      first | refine g_icmp_ge_n (pc := 6) X dX2_offends_6 (tgt := 95) (by decide) (by omega) (by omega) (fun h6 => ?_) (fun h6 => ?_) | refine g_icmp_ge (pc := 6) X dX2_offends_6 (tgt := 95) (by decide) (fun h6 => ?_) (fun h6 => ?_)
      · refine g_iload_2 (pc := 95) X dX2_offends_95 ?_
        refine g_aload_0 (pc := 96) X dX2_offends_96 ?_
        refine g_getRf (pc := 97) X dX2_offends_97 fl_X2_28 rfl (by decide) rfl hR rfl ?_
        refine g_callV_I (pc := 100) X Y dX2_offends_100 miX3_roomOfHeap li_X2_83 (s_room (by exact hR) m hm hmo) rfl (by decide) rfl ⟨_, rfl⟩ rfl ⟨Nat.le_of_ble_eq_true rfl, Nat.le_of_ble_eq_true rfl⟩ (Nat.le_of_ble_eq_true rfl) (Nat.le_of_ble_eq_true rfl) rfl (by exact Nat.le_of_ble_eq_true rfl) (fun x9 σ1 hp => ?_)
        obtain ⟨rfl, rfl⟩ := hp
        have hcl := fa_cnt_le (fun i => decide (h i = h e)) i
        have hrm : (if m = 0 then 30 else m) ≤ 30 := by split <;> omega
        first | refine g_icmp_lt_n (pc := 103) X dX2_offends_103 (tgt := 110) (by decide) (by omega) (by omega) (fun h103 => ?_) (fun h103 => ?_) | refine g_icmp_lt (pc := 103) X dX2_offends_103 (tgt := 110) (by decide) (fun h103 => ?_) (fun h103 => ?_)
        · refine g_iconst (pc := 110) X dX2_offends_110 kiconst_0 ?_
          exact g_zreturn (pc := 111) X Y dX2_offends_111 (by first | exact Or.inl rfl | exact Or.inr rfl | exact zI_01 _) (Nat.le_of_ble_eq_true rfl) (Nat.le_of_ble_eq_true rfl) (by obtain rfl : i = e := (by omega); exact ⟨_, rfl, by rw [offC, hany, Bool.false_or]; first | (rw [decide_eq_true (by unfold room; exact h103)]; rfl) | (rw [decide_eq_false (by unfold room; exact Nat.not_le.mpr h103)]; rfl), rfl⟩)
        · refine g_iconst (pc := 106) X dX2_offends_106 kiconst_1 ?_
          refine g_goto (pc := 107) X dX2_offends_107 (tgt := 111) (by decide) ?_
          exact g_zreturn (pc := 111) X Y dX2_offends_111 (by first | exact Or.inl rfl | exact Or.inr rfl | exact zI_01 _) (Nat.le_of_ble_eq_true rfl) (Nat.le_of_ble_eq_true rfl) (by obtain rfl : i = e := (by omega); exact ⟨_, rfl, by rw [offC, hany, Bool.false_or]; first | (rw [decide_eq_true (by unfold room; exact h103)]; rfl) | (rw [decide_eq_false (by unfold room; exact Nat.not_le.mpr h103)]; rfl), rfl⟩)
      · have hbi := hb i (by omega)
        have hbe := hb e he
        refine g_aload_0 (pc := 9) X dX2_offends_9 ?_
        refine g_getRf (pc := 10) X dX2_offends_10 fl_X2_9 rfl (by decide) rfl hR rfl ?_
        refine g_iload_3 (pc := 13) X dX2_offends_13 ?_
        refine g_iaload_n (pc := 14) X dX2_offends_14 rfl (by decide) (rfl) (by omega) ?_
        rw [hh i (by omega)]
        refine g_aload_0 (pc := 15) X dX2_offends_15 ?_
        refine g_getRf (pc := 16) X dX2_offends_16 fl_X2_9 rfl (by decide) rfl hR rfl ?_
        refine g_iload_1 (pc := 19) X dX2_offends_19 ?_
        refine g_iaload_n (pc := 20) X dX2_offends_20 rfl (by decide) (rfl) (by omega) ?_
        rw [hh e he]
        apply g_val (v := .int (zI (decide (h i = h e)))) (pcJ := 29)
        · intro T9
          first | refine g_icmp_ne_n (pc := 21) X dX2_offends_21 (tgt := 28) (by decide) (by omega) (by omega) (fun h21 => ?_) (fun h21 => ?_) | refine g_icmp_ne (pc := 21) X dX2_offends_21 (tgt := 28) (by decide) (fun h21 => ?_) (fun h21 => ?_)
          · refine g_iconst (pc := 28) X dX2_offends_28 kiconst_0 ?_
            exact T9 _ (by simp_all [zI])
          · refine g_iconst (pc := 24) X dX2_offends_24 kiconst_1 ?_
            refine g_goto (pc := 25) X dX2_offends_25 (tgt := 29) (by decide) ?_
            exact T9 _ (by simp_all [zI])
        · refine g_istore_4 (pc := 29) X dX2_offends_29 (by decide) rfl ?_
          refine g_iload_4 (pc := 31) X dX2_offends_31 ?_
          first | refine g_if_eq_z (pc := 33) X dX2_offends_33 (tgt := 39) (by decide) (fun h33 => ?_) (fun h33 => ?_) | refine g_if_eq (pc := 33) X dX2_offends_33 (tgt := 39) (by decide) (fun h33 => ?_) (fun h33 => ?_)
          · refine g_aload_0 (pc := 39) X dX2_offends_39 ?_
            refine g_getRf (pc := 40) X dX2_offends_40 fl_X2_28 rfl (by decide) rfl hR rfl ?_
            refine g_getRf (pc := 43) X dX2_offends_43 fl_X2_74 rfl (by decide) rfl hR rfl ?_
            refine g_iload_1 (pc := 46) X dX2_offends_46 ?_
            refine g_iaload_n (pc := 47) X dX2_offends_47 rfl (by decide) (rfl) (by omega) ?_
            refine g_iload_3 (pc := 48) X dX2_offends_48 ?_
            refine g_iushr (pc := 49) X dX2_offends_49 ?_
            refine g_iconst (pc := 50) X dX2_offends_50 kiconst_1 ?_
            refine g_iand (pc := 51) X dX2_offends_51 ?_
            apply g_val (v := .int (zI (bt (σ.1 31 e) i))) (pcJ := 60)
            · intro T9
              refine g_if_eq (pc := 52) X dX2_offends_52 (tgt := 59) (by decide) (fun h52 => ?_) (fun h52 => ?_)
              · refine g_iconst (pc := 59) X dX2_offends_59 kiconst_0 ?_
                exact T9 _ (by
                  have w := bit_test (x := σ.1 31 e) (b := i) (by omega)
                  simp_all [zI])
              · refine g_iconst (pc := 55) X dX2_offends_55 kiconst_1 ?_
                refine g_goto (pc := 56) X dX2_offends_56 (tgt := 60) (by decide) ?_
                exact T9 _ (by
                  have w := bit_test (x := σ.1 31 e) (b := i) (by omega)
                  simp_all [zI])
            · refine g_istore_5 (pc := 60) X dX2_offends_60 (by decide) rfl ?_
              refine g_iload_4 (pc := 62) X dX2_offends_62 ?_
              first | refine g_if_eq_z (pc := 64) X dX2_offends_64 (tgt := 82) (by decide) (fun h64 => ?_) (fun h64 => ?_) | refine g_if_eq (pc := 64) X dX2_offends_64 (tgt := 82) (by decide) (fun h64 => ?_) (fun h64 => ?_)
              · refine g_iload_5 (pc := 82) X dX2_offends_82 ?_
                first | refine g_if_eq_z (pc := 84) X dX2_offends_84 (tgt := 89) (by decide) (fun h84 => ?_) (fun h84 => ?_) | refine g_if_eq (pc := 84) X dX2_offends_84 (tgt := 89) (by decide) (fun h84 => ?_) (fun h84 => ?_)
                · refine g_iinc_3_n (pc := 89) X dX2_offends_89 (by decide) rfl ?_
                  refine g_goto (pc := 92) X dX2_offends_92 (tgt := 4) (by decide) ?_
                  have w := ihhL (i + 1) (by omega) (by omega) (by rw [anyB, hany]; simp_all)
                  first
                  | (rw [fa_cnt_yes (p := (fun i => decide (h i = h e))) (n := i) (decide_eq_true hce)] at w; exact g_drop (by simp [lsub]) w)
                  | (rw [fa_cnt_no (p := (fun i => decide (h i = h e))) (n := i) h33] at w; exact g_drop (by simp [lsub]) w)
                · refine g_iconst (pc := 87) X dX2_offends_87 kiconst_1 ?_
                  exact g_zreturn (pc := 88) X Y dX2_offends_88 (Or.inr rfl) (Nat.le_of_ble_eq_true rfl) (Nat.le_of_ble_eq_true rfl) (⟨_, rfl, by rw [offC, (anyB_iff _ e).mpr ⟨i, h6, by simp_all⟩]; rfl, rfl⟩)
              · refine g_aload_0 (pc := 67) X dX2_offends_67 ?_
                refine g_getRf (pc := 68) X dX2_offends_68 fl_X2_28 rfl (by decide) rfl hR rfl ?_
                refine g_iload_3 (pc := 71) X dX2_offends_71 ?_
                refine g_iload_1 (pc := 72) X dX2_offends_72 ?_
                refine g_callV_I (pc := 73) X Y dX2_offends_73 miX3_partsThem li_X2_79 (s_partsThem (by exact hR) hE i e (by omega) he) rfl (by decide) rfl ⟨_, rfl⟩ rfl ⟨Nat.le_of_ble_eq_true rfl, Nat.le_of_ble_eq_true rfl⟩ (Nat.le_of_ble_eq_true rfl) (Nat.le_of_ble_eq_true rfl) rfl (by exact Nat.le_of_ble_eq_true rfl) (fun x9 σ1 hp => ?_)
                obtain ⟨rfl, rfl⟩ := hp
                first | refine g_if_eq_z (pc := 76) X dX2_offends_76 (tgt := 89) (by decide) (fun h76 => ?_) (fun h76 => ?_) | refine g_if_eq (pc := 76) X dX2_offends_76 (tgt := 89) (by decide) (fun h76 => ?_) (fun h76 => ?_)
                · refine g_iinc_3_n (pc := 89) X dX2_offends_89 (by decide) rfl ?_
                  refine g_goto (pc := 92) X dX2_offends_92 (tgt := 4) (by decide) ?_
                  have w := ihhL (i + 1) (by omega) (by omega) (by rw [anyB, hany]; simp_all)
                  first
                  | (rw [fa_cnt_yes (p := (fun i => decide (h i = h e))) (n := i) (decide_eq_true hce)] at w; exact g_drop (by simp [lsub]) w)
                  | (rw [fa_cnt_no (p := (fun i => decide (h i = h e))) (n := i) h33] at w; exact g_drop (by simp [lsub]) w)
                · refine g_goto (pc := 79) X dX2_offends_79 (tgt := 87) (by decide) ?_
                  refine g_iconst (pc := 87) X dX2_offends_87 kiconst_1 ?_
                  exact g_zreturn (pc := 88) X Y dX2_offends_88 (Or.inr rfl) (Nat.le_of_ble_eq_true rfl) (Nat.le_of_ble_eq_true rfl) (⟨_, rfl, by rw [offC, (anyB_iff _ e).mpr ⟨i, h6, by simp_all⟩]; rfl, rfl⟩)
          · have hce : h i = h e := by simpa using h33
            first | refine g_iinc_2_n (pc := 36) X dX2_offends_36 (by decide) rfl ?_ | refine g_iinc_2 (pc := 36) X dX2_offends_36 rfl (by decide) rfl ?_
            refine g_aload_0 (pc := 39) X dX2_offends_39 ?_
            refine g_getRf (pc := 40) X dX2_offends_40 fl_X2_28 rfl (by decide) rfl hR rfl ?_
            refine g_getRf (pc := 43) X dX2_offends_43 fl_X2_74 rfl (by decide) rfl hR rfl ?_
            refine g_iload_1 (pc := 46) X dX2_offends_46 ?_
            refine g_iaload_n (pc := 47) X dX2_offends_47 rfl (by decide) (rfl) (by omega) ?_
            refine g_iload_3 (pc := 48) X dX2_offends_48 ?_
            refine g_iushr (pc := 49) X dX2_offends_49 ?_
            refine g_iconst (pc := 50) X dX2_offends_50 kiconst_1 ?_
            refine g_iand (pc := 51) X dX2_offends_51 ?_
            apply g_val (v := .int (zI (bt (σ.1 31 e) i))) (pcJ := 60)
            · intro T9
              refine g_if_eq (pc := 52) X dX2_offends_52 (tgt := 59) (by decide) (fun h52 => ?_) (fun h52 => ?_)
              · refine g_iconst (pc := 59) X dX2_offends_59 kiconst_0 ?_
                exact T9 _ (by
                  have w := bit_test (x := σ.1 31 e) (b := i) (by omega)
                  simp_all [zI])
              · refine g_iconst (pc := 55) X dX2_offends_55 kiconst_1 ?_
                refine g_goto (pc := 56) X dX2_offends_56 (tgt := 60) (by decide) ?_
                exact T9 _ (by
                  have w := bit_test (x := σ.1 31 e) (b := i) (by omega)
                  simp_all [zI])
            · refine g_istore_5 (pc := 60) X dX2_offends_60 (by decide) rfl ?_
              refine g_iload_4 (pc := 62) X dX2_offends_62 ?_
              first | refine g_if_eq_z (pc := 64) X dX2_offends_64 (tgt := 82) (by decide) (fun h64 => ?_) (fun h64 => ?_) | refine g_if_eq (pc := 64) X dX2_offends_64 (tgt := 82) (by decide) (fun h64 => ?_) (fun h64 => ?_)
              · refine g_iload_5 (pc := 82) X dX2_offends_82 ?_
                first | refine g_if_eq_z (pc := 84) X dX2_offends_84 (tgt := 89) (by decide) (fun h84 => ?_) (fun h84 => ?_) | refine g_if_eq (pc := 84) X dX2_offends_84 (tgt := 89) (by decide) (fun h84 => ?_) (fun h84 => ?_)
                · refine g_iinc_3_n (pc := 89) X dX2_offends_89 (by decide) rfl ?_
                  refine g_goto (pc := 92) X dX2_offends_92 (tgt := 4) (by decide) ?_
                  have w := ihhL (i + 1) (by omega) (by omega) (by rw [anyB, hany]; simp_all)
                  first
                  | (rw [fa_cnt_yes (p := (fun i => decide (h i = h e))) (n := i) (decide_eq_true hce)] at w; exact g_drop (by simp [lsub]) w)
                  | (rw [fa_cnt_no (p := (fun i => decide (h i = h e))) (n := i) h33] at w; exact g_drop (by simp [lsub]) w)
                · refine g_iconst (pc := 87) X dX2_offends_87 kiconst_1 ?_
                  exact g_zreturn (pc := 88) X Y dX2_offends_88 (Or.inr rfl) (Nat.le_of_ble_eq_true rfl) (Nat.le_of_ble_eq_true rfl) (⟨_, rfl, by rw [offC, (anyB_iff _ e).mpr ⟨i, h6, by simp_all⟩]; rfl, rfl⟩)
              · refine g_aload_0 (pc := 67) X dX2_offends_67 ?_
                refine g_getRf (pc := 68) X dX2_offends_68 fl_X2_28 rfl (by decide) rfl hR rfl ?_
                refine g_iload_3 (pc := 71) X dX2_offends_71 ?_
                refine g_iload_1 (pc := 72) X dX2_offends_72 ?_
                refine g_callV_I (pc := 73) X Y dX2_offends_73 miX3_partsThem li_X2_79 (s_partsThem (by exact hR) hE i e (by omega) he) rfl (by decide) rfl ⟨_, rfl⟩ rfl ⟨Nat.le_of_ble_eq_true rfl, Nat.le_of_ble_eq_true rfl⟩ (Nat.le_of_ble_eq_true rfl) (Nat.le_of_ble_eq_true rfl) rfl (by exact Nat.le_of_ble_eq_true rfl) (fun x9 σ1 hp => ?_)
                obtain ⟨rfl, rfl⟩ := hp
                first | refine g_if_eq_z (pc := 76) X dX2_offends_76 (tgt := 89) (by decide) (fun h76 => ?_) (fun h76 => ?_) | refine g_if_eq (pc := 76) X dX2_offends_76 (tgt := 89) (by decide) (fun h76 => ?_) (fun h76 => ?_)
                · refine g_iinc_3_n (pc := 89) X dX2_offends_89 (by decide) rfl ?_
                  refine g_goto (pc := 92) X dX2_offends_92 (tgt := 4) (by decide) ?_
                  have w := ihhL (i + 1) (by omega) (by omega) (by rw [anyB, hany]; simp_all)
                  first
                  | (rw [fa_cnt_yes (p := (fun i => decide (h i = h e))) (n := i) (decide_eq_true hce)] at w; exact g_drop (by simp [lsub]) w)
                  | (rw [fa_cnt_no (p := (fun i => decide (h i = h e))) (n := i) h33] at w; exact g_drop (by simp [lsub]) w)
                · refine g_goto (pc := 79) X dX2_offends_79 (tgt := 87) (by decide) ?_
                  refine g_iconst (pc := 87) X dX2_offends_87 kiconst_1 ?_
                  exact g_zreturn (pc := 88) X Y dX2_offends_88 (Or.inr rfl) (Nat.le_of_ble_eq_true rfl) (Nat.le_of_ble_eq_true rfl) (⟨_, rfl, by rw [offC, (anyB_iff _ e).mpr ⟨i, h6, by simp_all⟩]; rfl, rfl⟩)
  refine g_iconst (pc := 0) X dX2_offends_0 kiconst_0 ?_
  refine g_istore_2 (pc := 1) X dX2_offends_1 (by decide) rfl ?_
  refine g_iconst (pc := 2) X dX2_offends_2 kiconst_0 ?_
  refine g_istore_3 (pc := 3) X dX2_offends_3 (by decide) rfl ?_
  exact hL (e + 1) 0 (by omega) (by omega) rfl
