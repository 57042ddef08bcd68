theorem first_none {p : Nat → Bool} {n : Nat} (h : ∀ i, i < n → p i = false) : fa_first p n = n := by
  rcases Nat.lt_or_ge (fa_first p n) n with q | q
  · have := fa_first_yes p n q
    rw [h _ q] at this; cases this
  · exact Nat.le_antisymm (fa_first_le p n) q
theorem first_is {p : Nat → Bool} {n i : Nat} (hi : i < n) (h : ∀ j, j < i → p j = false) (hp : p i = true) : fa_first p n = i := by
  rcases Nat.lt_trichotomy (fa_first p n) i with q | q | q
  · have := fa_first_yes p n (Nat.lt_trans q hi)
    rw [h _ q] at this; cases this
  · exact q
  · have := fa_first_no p n i q
    rw [hp] at this; cases this
set_option maxHeartbeats 4000000 in
theorem s_offender {o : gOm} {l : Launch} {σ : gSt} {b : Bool} (hR : σ.2.2 = gRf b) {N : Nat} {bk nm td yr : Nat → Nat} {fa : Nat → Int32} (hE : entAt σ N bk nm td yr fa) (hN : N ≤ 30) (hsz : σ.1 33 1 = nI N) {h : Nat → Nat} (hh : ∀ i, i < N → σ.1 34 i = nI (h i)) (hb : ∀ i, i < N → h i ≤ 30) (m : Nat) (hm : m ≤ 30) (hmo : σ.1 30 5 = nI m) : Sp o l mX2_offender 5 0 0 [.ref (ad o 33)] 116 116 σ (pI (fun x9 σ1 => x9 = (if fa_first (fun e => offC σ h bk yr m e) N < N then nI (fa_first (fun e => offC σ h bk yr m e) N) else -1) ∧ σ = σ1)) := by
  refine Sp.of (ls0 := [some (.ref (ad o 33)), none]) miX2_offender rfl (Nat.le_of_ble_eq_true rfl) rfl (fun γ hγ hnm X Y => ?_)
  subst hγ
  have X : gX o γ cX2_offender 2 RX2 := X
  have hL : ∀ (q i : Nat), i ≤ N → N + 1 ≤ i + q → (∀ j, j < i → offC σ h bk yr m j = false) → G o γ 0 0 116 σ 2 [some (.ref (ad o 33)), some (.int (nI i))] [] := by
    intro q
    induction q with
    | zero => intro i q1 q2; omega
    | succ q ihhL =>
      intro i q1 q2 hno
      refine g_iload_1 (pc := 2) X dX2_offender_2 ?_
      refine g_aload_0 (pc := 3) X dX2_offender_3 ?_
      refine g_getI (pc := 4) X dX2_offender_4 rfl (by decide) fl_X2_32 (Or.inl rfl) ?_
      rw [hsz]
      first | refine g_icmp_ge_n (pc := 7) X dX2_offender_7 (tgt := 26) (by decide) (by omega) (by omega) (fun h7 => ?_) (fun h7 => ?_) | refine g_icmp_ge (pc := 7) X dX2_offender_7 (tgt := 26) (by decide) (fun h7 => ?_) (fun h7 => ?_)
      · refine g_iconst (pc := 26) X dX2_offender_26 kiconst_m1 ?_
        exact g_ireturn (pc := 27) X Y dX2_offender_27 (Nat.le_of_ble_eq_true rfl) (Nat.le_of_ble_eq_true rfl) (by obtain rfl : i = N := (by omega); exact ⟨_, rfl, by rw [first_none hno, if_neg (Nat.lt_irrefl _)], rfl⟩)
      · refine g_aload_0 (pc := 10) X dX2_offender_10 ?_
        refine g_iload_1 (pc := 11) X dX2_offender_11 ?_
        refine g_callV_I (pc := 12) X Y dX2_offender_12 miX2_offends li_X2_70 (s_offends (by exact hR) hE hh hb hN i m (by omega) hm hmo) rfl (by decide) rfl ⟨_, rfl⟩ rfl ⟨Nat.le_of_ble_eq_true rfl, Nat.le_of_ble_eq_true rfl⟩ (Nat.le_of_ble_eq_true rfl) (Nat.le_of_ble_eq_true rfl) rfl (by exact Nat.le_of_ble_eq_true rfl) (fun x9 σ1 hp => ?_)
        obtain ⟨rfl, rfl⟩ := hp
        first | refine g_if_eq_z (pc := 15) X dX2_offender_15 (tgt := 20) (by decide) (fun h15 => ?_) (fun h15 => ?_) | refine g_if_eq (pc := 15) X dX2_offender_15 (tgt := 20) (by decide) (fun h15 => ?_) (fun h15 => ?_)
        · first | refine g_iinc_1_n (pc := 20) X dX2_offender_20 (by decide) rfl ?_ | refine g_iinc_1 (pc := 20) X dX2_offender_20 rfl (by decide) rfl ?_
          refine g_goto (pc := 23) X dX2_offender_23 (tgt := 2) (by decide) ?_
          exact ihhL (i + 1) (by omega) (by omega) (fun j hj => by
            by_cases z : j = i
            · subst z; exact h15
            · exact hno j (by omega))
        · refine g_iload_1 (pc := 18) X dX2_offender_18 ?_
          exact g_ireturn (pc := 19) X Y dX2_offender_19 (Nat.le_of_ble_eq_true rfl) (Nat.le_of_ble_eq_true rfl) (⟨_, rfl, by rw [first_is h7 hno h15, if_pos h7], rfl⟩)
  refine g_iconst (pc := 0) X dX2_offender_0 kiconst_0 ?_
  refine g_istore_1 (pc := 1) X dX2_offender_1 (by decide) rfl ?_
  exact hL (N + 1) 0 (by omega) (by omega) (fun j hj => absurd hj (Nat.not_lt_zero j))
set_option maxHeartbeats 4000000 in
theorem s_notOfBook {o : gOm} {l : Launch} {σ : gSt} {b : Bool} (hR : σ.2.2 = gRf b) {N : Nat} {bk nm td yr : Nat → Nat} {fa : Nat → Int32} (hE : entAt σ N bk nm td yr fa) (k : Nat) (hk : k < 8) : Sp o l mX1_notOfBook 2 0 0 [.ref (ad o 1), .int (nI k)] 116 116 σ (pI (fun x9 σ1 => x9 = (orBits (fun i => decide (¬ bk i = k)) N) ∧ σ = σ1)) := by
  refine Sp.of (ls0 := [some (.ref (ad o 1)), some (.int (nI k)), none, none]) miX1_notOfBook rfl (Nat.le_of_ble_eq_true rfl) rfl (fun γ hγ hnm X Y => ?_)
  subst hγ
  have X : gX o γ cX1_notOfBook 4 RX1 := X
  have hN := hE.2.1
  have hL : ∀ (q i : Nat), i ≤ N → N + 1 ≤ i + q → G o γ 0 0 116 σ 4 [some (.ref (ad o 1)), some (.int (nI k)), some (.int (orBits (fun i => decide (¬ bk i = k)) i)), some (.int (nI i))] [] := by
    intro q
    induction q with
    | zero => intro i q1 q2; omega
    | succ q ihhL =>
      intro i q1 q2 
      refine g_iload_3 (pc := 4) X dX1_notOfBook_4 ?_
      refine g_aload_0 (pc := 5) X dX1_notOfBook_5 ?_
      refine g_getI (pc := 6) X dX1_notOfBook_6 rfl (by decide) fl_X1_18 (Or.inl rfl) ?_
      rw [hE.1]
      first | refine g_icmp_ge_n (pc := 9) X dX1_notOfBook_9 (tgt := 34) (by decide) (by omega) (by omega) (fun h9 => ?_) (fun h9 => ?_) | refine g_icmp_ge (pc := 9) X dX1_notOfBook_9 (tgt := 34) (by decide) (fun h9 => ?_) (fun h9 => ?_)
      · refine g_iload_2 (pc := 34) X dX1_notOfBook_34 ?_
        exact g_ireturn (pc := 35) X Y dX1_notOfBook_35 (Nat.le_of_ble_eq_true rfl) (Nat.le_of_ble_eq_true rfl) (by obtain rfl : i = N := (by omega); exact ⟨_, rfl, rfl, rfl⟩)
      · have ei := hE.2.2 i h9
        refine g_aload_0 (pc := 12) X dX1_notOfBook_12 ?_
        refine g_iload_3 (pc := 13) X dX1_notOfBook_13 ?_
        refine g_iconst (pc := 14) X dX1_notOfBook_14 kiconst_0 ?_
        refine g_callV_I (pc := 15) X Y dX1_notOfBook_15 miX1_trait li_X1_22 (s_trait (by exact hR) i 0 (by omega) (by decide)) rfl (by decide) rfl ⟨_, rfl⟩ rfl ⟨Nat.le_of_ble_eq_true rfl, Nat.le_of_ble_eq_true rfl⟩ (Nat.le_of_ble_eq_true rfl) (Nat.le_of_ble_eq_true rfl) rfl (by exact Nat.le_of_ble_eq_true rfl) (fun x9 σ1 hp => ?_)
        obtain ⟨rfl, rfl⟩ := hp
        simp only [Nat.add_zero, ei.1]
        refine g_iload_1 (pc := 18) X dX1_notOfBook_18 ?_
        first | refine g_icmp_eq_n (pc := 19) X dX1_notOfBook_19 (tgt := 28) (by decide) (by omega) (by omega) (fun h19 => ?_) (fun h19 => ?_) | refine g_icmp_eq (pc := 19) X dX1_notOfBook_19 (tgt := 28) (by decide) (fun h19 => ?_) (fun h19 => ?_)
        · refine g_iinc_3_n (pc := 28) X dX1_notOfBook_28 (by decide) rfl ?_
          refine g_goto (pc := 31) X dX1_notOfBook_31 (tgt := 4) (by decide) ?_
          have w := ihhL (i + 1) (by omega) (by omega)
          rw [orBits, if_neg (by simp [h19])] at w
          exact w
        · refine g_iload_2 (pc := 22) X dX1_notOfBook_22 ?_
          refine g_iconst (pc := 23) X dX1_notOfBook_23 kiconst_1 ?_
          refine g_iload_3 (pc := 24) X dX1_notOfBook_24 ?_
          refine g_ishl (pc := 25) X dX1_notOfBook_25 ?_
          refine g_ior (pc := 26) X dX1_notOfBook_26 ?_
          refine g_istore_2 (pc := 27) X dX1_notOfBook_27 (by decide) rfl ?_
          first | refine g_iinc_3_n (pc := 28) X dX1_notOfBook_28 (by decide) rfl ?_ | refine g_iinc_3 (pc := 28) X dX1_notOfBook_28 rfl (by decide) rfl ?_
          refine g_goto (pc := 31) X dX1_notOfBook_31 (tgt := 4) (by decide) ?_
          have w := ihhL (i + 1) (by omega) (by omega)
          rw [orBits, if_pos (by simp [h19])] at w
          exact w
  refine g_iconst (pc := 0) X dX1_notOfBook_0 kiconst_0 ?_
  refine g_istore_2 (pc := 1) X dX1_notOfBook_1 (by decide) rfl ?_
  refine g_iconst (pc := 2) X dX1_notOfBook_2 kiconst_0 ?_
  refine g_istore_3 (pc := 3) X dX1_notOfBook_3 (by decide) rfl ?_
  exact hL (N + 1) 0 (by omega) (by omega)
set_option maxHeartbeats 4000000 in
theorem s_change1 {o : gOm} {l : Launch} {σ : gSt} {b : Bool} (hR : σ.2.2 = gRf b) (v : Int32) : Sp o l mX3_change 1 0 0 [.ref (ad o 30), .int (nI 1), .int v] 116 116 σ (pI (fun x σ1 => x = σ.1 30 6 ∧ σ1 = sI σ 30 6 v)) := by
  refine Sp.of (ls0 := [some (.ref (ad o 30)), some (.int (nI 1)), some (.int v), none]) miX3_change rfl (Nat.le_of_ble_eq_true rfl) rfl (fun γ hγ hnm X Y => ?_)
  subst hγ
  have X : gX o γ cX3_change 4 RX3 := X
  refine g_iload_1 (pc := 0) X dX3_change_0 ?_
  refine g_if_ne (pc := 1) X dX3_change_1 (tgt := 11) (by decide) (fun h1 => ?_) (fun h1 => ?_)
  · refine g_iload_1 (pc := 11) X dX3_change_11 ?_
    refine g_iconst (pc := 12) X dX3_change_12 kiconst_1 ?_
    first | refine g_icmp_ne_n (pc := 13) X dX3_change_13 (tgt := 23) (by decide) (by omega) (by omega) (fun h13 => ?_) (fun h13 => ?_) | refine g_icmp_ne (pc := 13) X dX3_change_13 (tgt := 23) (by decide) (fun h13 => ?_) (fun h13 => ?_)
    · omega
    · refine g_aload_0 (pc := 16) X dX3_change_16 ?_
      refine g_getI (pc := 17) X dX3_change_17 rfl (by decide) fl_X3_33 (Or.inl rfl) ?_
      refine g_goto (pc := 20) X dX3_change_20 (tgt := 27) (by decide) ?_
      refine g_istore_3 (pc := 27) X dX3_change_27 (by decide) rfl ?_
      refine g_iload_1 (pc := 28) X dX3_change_28 ?_
      refine g_if_ne (pc := 29) X dX3_change_29 (tgt := 40) (by decide) (fun h29 => ?_) (fun h29 => ?_)
      · refine g_iload_1 (pc := 40) X dX3_change_40 ?_
        refine g_iconst (pc := 41) X dX3_change_41 kiconst_1 ?_
        first | refine g_icmp_ne_n (pc := 42) X dX3_change_42 (tgt := 53) (by decide) (by omega) (by omega) (fun h42 => ?_) (fun h42 => ?_) | refine g_icmp_ne (pc := 42) X dX3_change_42 (tgt := 53) (by decide) (fun h42 => ?_) (fun h42 => ?_)
        · omega
        · refine g_aload_0 (pc := 45) X dX3_change_45 ?_
          refine g_iload_2 (pc := 46) X dX3_change_46 ?_
          refine g_putI (pc := 47) X dX3_change_47 fl_X3_33 rfl (by decide) rfl rfl ?_
          refine g_goto (pc := 50) X dX3_change_50 (tgt := 58) (by decide) ?_
          refine g_iload_3 (pc := 58) X dX3_change_58 ?_
          exact g_ireturn (pc := 59) X Y dX3_change_59 (Nat.le_of_ble_eq_true rfl) (Nat.le_of_ble_eq_true rfl) (⟨_, rfl, rfl, rfl⟩)
      · exact absurd (show nI 1 = 0 from h29) (by decide)
  · exact absurd (show nI 1 = 0 from h1) (by decide)
set_option maxHeartbeats 4000000 in
theorem s_change2 {o : gOm} {l : Launch} {σ : gSt} {b : Bool} (hR : σ.2.2 = gRf b) (v : Int32) : Sp o l mX3_change 1 0 0 [.ref (ad o 30), .int (nI 2), .int v] 116 116 σ (pI (fun x σ1 => x = σ.1 30 7 ∧ σ1 = sI σ 30 7 v)) := by
  refine Sp.of (ls0 := [some (.ref (ad o 30)), some (.int (nI 2)), some (.int v), none]) miX3_change rfl (Nat.le_of_ble_eq_true rfl) rfl (fun γ hγ hnm X Y => ?_)
  subst hγ
  have X : gX o γ cX3_change 4 RX3 := X
  refine g_iload_1 (pc := 0) X dX3_change_0 ?_
  refine g_if_ne (pc := 1) X dX3_change_1 (tgt := 11) (by decide) (fun h1 => ?_) (fun h1 => ?_)
  · refine g_iload_1 (pc := 11) X dX3_change_11 ?_
    refine g_iconst (pc := 12) X dX3_change_12 kiconst_1 ?_
    first | refine g_icmp_ne_n (pc := 13) X dX3_change_13 (tgt := 23) (by decide) (by omega) (by omega) (fun h13 => ?_) (fun h13 => ?_) | refine g_icmp_ne (pc := 13) X dX3_change_13 (tgt := 23) (by decide) (fun h13 => ?_) (fun h13 => ?_)
    · refine g_aload_0 (pc := 23) X dX3_change_23 ?_
      refine g_getI (pc := 24) X dX3_change_24 rfl (by decide) fl_X3_18 (Or.inl rfl) ?_
      refine g_istore_3 (pc := 27) X dX3_change_27 (by decide) rfl ?_
      refine g_iload_1 (pc := 28) X dX3_change_28 ?_
      refine g_if_ne (pc := 29) X dX3_change_29 (tgt := 40) (by decide) (fun h29 => ?_) (fun h29 => ?_)
      · refine g_iload_1 (pc := 40) X dX3_change_40 ?_
        refine g_iconst (pc := 41) X dX3_change_41 kiconst_1 ?_
        first | refine g_icmp_ne_n (pc := 42) X dX3_change_42 (tgt := 53) (by decide) (by omega) (by omega) (fun h42 => ?_) (fun h42 => ?_) | refine g_icmp_ne (pc := 42) X dX3_change_42 (tgt := 53) (by decide) (fun h42 => ?_) (fun h42 => ?_)
        · refine g_aload_0 (pc := 53) X dX3_change_53 ?_
          refine g_iload_2 (pc := 54) X dX3_change_54 ?_
          refine g_putI (pc := 55) X dX3_change_55 fl_X3_18 rfl (by decide) rfl rfl ?_
          refine g_iload_3 (pc := 58) X dX3_change_58 ?_
          exact g_ireturn (pc := 59) X Y dX3_change_59 (Nat.le_of_ble_eq_true rfl) (Nat.le_of_ble_eq_true rfl) (⟨_, rfl, rfl, rfl⟩)
        · omega
      · exact absurd (show nI 2 = 0 from h29) (by decide)
    · omega
  · exact absurd (show nI 2 = 0 from h1) (by decide)
set_option maxHeartbeats 4000000 in
theorem s_addEntry {o : gOm} {l : Launch} {σ : gSt} {b : Bool} (hR : σ.2.2 = gRf b) (N b1 n1 t1 y1 : Nat) (f1 : Int32) (hN : N < 30) (hsz : σ.1 1 0 = nI N) : Sp o l mX1_add 1 0 0 [.ref (ad o 1), .int (nI b1), .int (nI n1), .int (nI t1), .int (nI y1), .int f1] 116 116 σ (pI (fun x σ1 => x = nI N ∧ Off [1, 2] σ σ1 ∧ σ1.1 1 0 = nI (N + 1) ∧ ∀ j, σ1.1 2 j = if j = N * 5 then nI b1 else if j = N * 5 + 1 then nI n1 else if j = N * 5 + 2 then nI t1 else if j = N * 5 + 3 then nI y1 else if j = N * 5 + 4 then f1 else σ.1 2 j)) := by
  refine Sp.of (ls0 := [some (.ref (ad o 1)), some (.int (nI b1)), some (.int (nI n1)), some (.int (nI t1)), some (.int (nI y1)), some (.int f1), none]) miX1_add rfl (Nat.le_of_ble_eq_true rfl) rfl (fun γ hγ hnm X Y => ?_)
  subst hγ
  have X : gX o γ cX1_add 7 RX1 := X
  refine g_aload_0 (pc := 0) X dX1_add_0 ?_
  refine g_getI (pc := 1) X dX1_add_1 rfl (by decide) fl_X1_18 (Or.inl rfl) ?_
  rw [hsz]
  refine g_iconst (pc := 4) X dX1_add_4 kiconst_5 ?_
  first | refine g_imul_n (pc := 5) X dX1_add_5 ?_ | refine g_imul (pc := 5) X dX1_add_5 ?_
  refine g_istore_6 (pc := 6) X dX1_add_6 (by decide) rfl ?_
  refine g_aload_0 (pc := 8) X dX1_add_8 ?_
  refine g_getRf (pc := 9) X dX1_add_9 fl_X1_9 rfl (by decide) rfl hR rfl ?_
  refine g_iload_6 (pc := 12) X dX1_add_12 ?_
  refine g_iload_1 (pc := 14) X dX1_add_14 ?_
  refine g_iastore_n (pc := 15) X dX1_add_15 rfl (by decide) (rfl) (by omega) ?_
  refine g_aload_0 (pc := 16) X dX1_add_16 ?_
  refine g_getRf (pc := 17) X dX1_add_17 fl_X1_9 rfl (by decide) rfl hR rfl ?_
  refine g_iload_6 (pc := 20) X dX1_add_20 ?_
  refine g_iconst (pc := 22) X dX1_add_22 kiconst_1 ?_
  first | refine g_iadd_n (pc := 23) X dX1_add_23 ?_ | refine g_iadd (pc := 23) X dX1_add_23 ?_
  refine g_iload_2 (pc := 24) X dX1_add_24 ?_
  refine g_iastore_n (pc := 25) X dX1_add_25 rfl (by decide) (rfl) (by omega) ?_
  refine g_aload_0 (pc := 26) X dX1_add_26 ?_
  refine g_getRf (pc := 27) X dX1_add_27 fl_X1_9 rfl (by decide) rfl hR rfl ?_
  refine g_iload_6 (pc := 30) X dX1_add_30 ?_
  refine g_iconst (pc := 32) X dX1_add_32 kiconst_2 ?_
  first | refine g_iadd_n (pc := 33) X dX1_add_33 ?_ | refine g_iadd (pc := 33) X dX1_add_33 ?_
  refine g_iload_3 (pc := 34) X dX1_add_34 ?_
  refine g_iastore_n (pc := 35) X dX1_add_35 rfl (by decide) (rfl) (by omega) ?_
  refine g_aload_0 (pc := 36) X dX1_add_36 ?_
  refine g_getRf (pc := 37) X dX1_add_37 fl_X1_9 rfl (by decide) rfl hR rfl ?_
  refine g_iload_6 (pc := 40) X dX1_add_40 ?_
  refine g_iconst (pc := 42) X dX1_add_42 kiconst_3 ?_
  first | refine g_iadd_n (pc := 43) X dX1_add_43 ?_ | refine g_iadd (pc := 43) X dX1_add_43 ?_
  refine g_iload_4 (pc := 44) X dX1_add_44 ?_
  refine g_iastore_n (pc := 46) X dX1_add_46 rfl (by decide) (rfl) (by omega) ?_
  refine g_aload_0 (pc := 47) X dX1_add_47 ?_
  refine g_getRf (pc := 48) X dX1_add_48 fl_X1_9 rfl (by decide) rfl hR rfl ?_
  refine g_iload_6 (pc := 51) X dX1_add_51 ?_
  refine g_iconst (pc := 53) X dX1_add_53 kiconst_4 ?_
  first | refine g_iadd_n (pc := 54) X dX1_add_54 ?_ | refine g_iadd (pc := 54) X dX1_add_54 ?_
  refine g_iload_5 (pc := 55) X dX1_add_55 ?_
  refine g_iastore_n (pc := 57) X dX1_add_57 rfl (by decide) (rfl) (by omega) ?_
  refine g_aload_0 (pc := 58) X dX1_add_58 ?_
  refine g_dup (pc := 59) X dX1_add_59 rfl ?_
  refine g_getI (pc := 60) X dX1_add_60 rfl (by decide) fl_X1_18 (Or.inl rfl) ?_
  rw [show (sI (sI (sI (sI (sI σ 2 (N * 5) (nI b1)) 2 (N * 5 + 1) (nI n1)) 2 (N * 5 + 2) (nI t1)) 2 (N * 5 + 3) (nI y1)) 2 (N * 5 + 4) f1).1 1 0 = nI N by simp only [sI_get]; simp [hsz]]
  refine g_iconst (pc := 63) X dX1_add_63 kiconst_1 ?_
  first | refine g_iadd_n (pc := 64) X dX1_add_64 ?_ | refine g_iadd (pc := 64) X dX1_add_64 ?_
  refine g_putI (pc := 65) X dX1_add_65 fl_X1_18 rfl (by decide) rfl rfl ?_
  refine g_aload_0 (pc := 68) X dX1_add_68 ?_
  refine g_getI (pc := 69) X dX1_add_69 rfl (by decide) fl_X1_18 (Or.inl rfl) ?_
  rw [sI_get, if_pos ⟨rfl, rfl⟩]
  refine g_iconst (pc := 72) X dX1_add_72 kiconst_1 ?_
  refine g_isub_n (pc := 73) X dX1_add_73 (by omega) ?_
  exact g_ireturn (pc := 74) X Y dX1_add_74 (Nat.le_of_ble_eq_true rfl) (Nat.le_of_ble_eq_true rfl) (⟨_, rfl, by rw [Nat.add_sub_cancel], (((((Off.rf.i (by simp)).i (by simp)).i (by simp)).i (by simp)).i (by simp)).i (by simp), by rw [sI_get, if_pos ⟨rfl, rfl⟩], fun j => by simp only [sI_get]; by_cases e4 : j = N * 5 + 4; (subst e4; simp); by_cases e3 : j = N * 5 + 3; (subst e3; simp); by_cases e2 : j = N * 5 + 2; (subst e2; simp); by_cases e1 : j = N * 5 + 1 <;> by_cases e0 : j = N * 5 <;> simp [e0, e1, e2, e3, e4]⟩)
