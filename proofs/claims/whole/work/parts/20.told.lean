set_option maxHeartbeats 4000000 in
theorem s_tell_true {o : gOm} {l : Launch} {σ : gSt} {b : Bool} (hR : σ.2.2 = gRf b) (a c T : Nat) (w : Int32) (ha : a < 30) (hc : c < 30) (hT : σ.1 16 2 = nI T) (hb : bt (σ.1 28 a) c = true) : Sp o l mX4_tellByHand 3 0 0 [.ref (ad o 16), .int (nI a), .int (nI c), .int w] 116 116 σ (pV (fun σ1 => Off [16, 24, 25, 26, 27, 28] σ σ1 ∧ σ1.1 16 2 = nI (T) ∧ (∀ j, j ≠ 2 → σ1.1 16 j = σ.1 16 j) ∧ rowSet (σ.1 28) (σ1.1 28) a c true ∧ pairSet σ σ1 a c (if w = (-2147483648 : Int32) then nI 0 else w) (nI 0) (decide (w = (-2147483648 : Int32))) false)) := by
  refine Sp.of (ls0 := [some (.ref (ad o 16)), some (.int (nI a)), some (.int (nI c)), some (.int w)]) miX4_tellByHand rfl (Nat.le_of_ble_eq_true rfl) rfl (fun γ hγ hnm X Y => ?_)
  subst hγ
  have X : gX o γ cX4_tellByHand 4 RX4 := X
  refine g_aload_0 (pc := 0) X dX4_tellByHand_0 ?_
  refine g_iload_1 (pc := 1) X dX4_tellByHand_1 ?_
  refine g_iload_2 (pc := 2) X dX4_tellByHand_2 ?_
  refine g_callV_I (pc := 3) X Y dX4_tellByHand_3 miX4_isByHand li_X4_47 (s_isByHand hR a c (by omega) (by omega)) rfl (by decide) rfl ⟨_, rfl⟩ rfl ⟨Nat.le_of_ble_eq_true rfl, Nat.le_of_ble_eq_true rfl⟩ (Nat.le_of_ble_eq_true rfl) (Nat.le_of_ble_eq_true rfl) rfl (by exact Nat.le_of_ble_eq_true rfl) (fun x9 σ1 hp => ?_)
  obtain ⟨rfl, rfl⟩ := hp
  rw [hb]
  refine g_if_ne (pc := 6) X dX4_tellByHand_6 (tgt := 19) (by decide) (fun h6 => ?_) (fun h6 => ?_)
  · refine g_aload_0 (pc := 19) X dX4_tellByHand_19 ?_
    refine g_getRf (pc := 20) X dX4_tellByHand_20 fl_X4_31 rfl (by decide) rfl hR rfl ?_
    refine g_iload_1 (pc := 23) X dX4_tellByHand_23 ?_
    refine g_iload_2 (pc := 24) X dX4_tellByHand_24 ?_
    refine g_iconst (pc := 25) X dX4_tellByHand_25 kiconst_1 ?_
    refine g_callSN_V (pc := 26) X Y dX4_tellByHand_26 miX11_setBit li_X4_58 (s_setBit (σ := σ) (k := 28) (len := 30) (on := true) (by decide) rfl (by omega) (by omega) (by decide)) rfl ⟨Nat.le_of_ble_eq_true rfl, Nat.le_of_ble_eq_true rfl⟩ (Nat.le_of_ble_eq_true rfl) (Nat.le_of_ble_eq_true rfl) rfl (by exact Nat.le_of_ble_eq_true rfl) (fun σ1 hp => ?_)
    obtain ⟨hO1, hs1⟩ := hp
    have hRa := hO1.2.trans hR
    refine g_aload_0 (pc := 29) X dX4_tellByHand_29 ?_
    refine g_getRf (pc := 30) X dX4_tellByHand_30 fl_X4_28 rfl (by decide) rfl hRa rfl ?_
    refine g_iload_1 (pc := 33) X dX4_tellByHand_33 ?_
    refine g_iload_2 (pc := 34) X dX4_tellByHand_34 ?_
    refine g_iconst (pc := 35) X dX4_tellByHand_35 kiconst_0 ?_
    refine g_callSN_V (pc := 36) X Y dX4_tellByHand_36 miX11_setBit li_X4_58 (s_setBit (k := 27) (len := 30) (on := false) (by decide) rfl (by omega) (by omega) (by decide)) rfl ⟨Nat.le_of_ble_eq_true rfl, Nat.le_of_ble_eq_true rfl⟩ (Nat.le_of_ble_eq_true rfl) (Nat.le_of_ble_eq_true rfl) rfl (by exact Nat.le_of_ble_eq_true rfl) (fun σ2 hp => ?_)
    obtain ⟨hO2, hs2⟩ := hp
    have hRb := hO2.2.trans hRa
    refine g_aload_0 (pc := 39) X dX4_tellByHand_39 ?_
    refine g_iload_1 (pc := 40) X dX4_tellByHand_40 ?_
    refine g_iload_2 (pc := 41) X dX4_tellByHand_41 ?_
    refine g_iload_3 (pc := 42) X dX4_tellByHand_42 ?_
    refine g_ldc (pc := 43) X dX4_tellByHand_43 ct_X4_62 ?_
    apply g_val (v := .int (if w = (-2147483648 : Int32) then nI 0 else w)) (pcJ := 53)
    · intro T9
      refine g_icmp_ne (pc := 45) X dX4_tellByHand_45 (tgt := 52) (by decide) (fun h45 => ?_) (fun h45 => ?_)
      · refine g_iload_3 (pc := 52) X dX4_tellByHand_52 ?_
        exact T9 _ (by simp_all)
      · refine g_iconst (pc := 48) X dX4_tellByHand_48 kiconst_0 ?_
        refine g_goto (pc := 49) X dX4_tellByHand_49 (tgt := 53) (by decide) ?_
        exact T9 _ (by simp_all)
    · refine g_iconst (pc := 53) X dX4_tellByHand_53 kiconst_0 ?_
      refine g_iload_3 (pc := 54) X dX4_tellByHand_54 ?_
      refine g_ldc (pc := 55) X dX4_tellByHand_55 ct_X4_62 ?_
      apply g_val (v := .int (zI (decide (w = (-2147483648 : Int32))))) (pcJ := 65)
      · intro T9
        refine g_icmp_ne (pc := 57) X dX4_tellByHand_57 (tgt := 64) (by decide) (fun h57 => ?_) (fun h57 => ?_)
        · refine g_iconst (pc := 64) X dX4_tellByHand_64 kiconst_0 ?_
          exact T9 _ (by simp_all [zI])
        · refine g_iconst (pc := 60) X dX4_tellByHand_60 kiconst_1 ?_
          refine g_goto (pc := 61) X dX4_tellByHand_61 (tgt := 65) (by decide) ?_
          exact T9 _ (by simp_all [zI])
      · refine g_callV_V (pc := 65) X Y dX4_tellByHand_65 miX4_write li_X4_63 (s_write (by exact hRb) a c _ _ _ (by omega) (by omega)) rfl (by decide) rfl ⟨_, rfl⟩ rfl ⟨Nat.le_of_ble_eq_true rfl, Nat.le_of_ble_eq_true rfl⟩ (Nat.le_of_ble_eq_true rfl) (Nat.le_of_ble_eq_true rfl) rfl (by exact Nat.le_of_ble_eq_true rfl) (fun σ3 hp => ?_)
        obtain ⟨hO3, w1, w2, w3⟩ := hp
        have e0 : Off [16, 24, 25, 26, 27, 28] σ σ := Off.rf
        have e1 : ∀ k, k = 24 ∨ k = 25 ∨ k = 26 → σ2.1 k = σ.1 k := fun k hk9 => by
          rw [(hO2.1 k (by simp; omega)).1, (hO1.1 k (by simp; omega)).1]
          
        refine g_return (pc := 68) X Y dX4_tellByHand_68 (Nat.le_of_ble_eq_true rfl) (Nat.le_of_ble_eq_true rfl) ⟨rfl, ((e0.trans (hO1.mono (by simp))).trans (hO2.mono (by simp))).trans (hO3.mono (by simp)), ?_, fun j hj => ?_, ?_, fun j => ?_, fun j => ?_, ?_, ?_⟩
        · rw [(hO3.1 16 (by decide)).1, (hO2.1 16 (by decide)).1, (hO1.1 16 (by decide)).1]
          exact hT
        · rw [(hO3.1 16 (by decide)).1, (hO2.1 16 (by decide)).1, (hO1.1 16 (by decide)).1]
          
        · rw [(hO3.1 28 (by decide)).1, (hO2.1 28 (by decide)).1]; exact hs1
        · rw [w1, e1 24 (by simp)]
        · rw [w2, e1 25 (by simp)]
        · rw [e1 26 (by simp)] at w3; exact w3
        · rw [(hO3.1 27 (by decide)).1]
          rw [(hO1.1 27 (by decide)).1] at hs2; exact hs2
  · exact absurd (show zI true = 0 from h6) (by decide)
set_option maxHeartbeats 4000000 in
theorem s_tell_false {o : gOm} {l : Launch} {σ : gSt} {b : Bool} (hR : σ.2.2 = gRf b) (a c T : Nat) (w : Int32) (ha : a < 30) (hc : c < 30) (hT : σ.1 16 2 = nI T) (hb : bt (σ.1 28 a) c = false) : Sp o l mX4_tellByHand 3 0 0 [.ref (ad o 16), .int (nI a), .int (nI c), .int w] 116 116 σ (pV (fun σ1 => Off [16, 24, 25, 26, 27, 28] σ σ1 ∧ σ1.1 16 2 = nI (T + 1) ∧ (∀ j, j ≠ 2 → σ1.1 16 j = σ.1 16 j) ∧ rowSet (σ.1 28) (σ1.1 28) a c true ∧ pairSet σ σ1 a c (if w = (-2147483648 : Int32) then nI 0 else w) (nI 0) (decide (w = (-2147483648 : Int32))) false)) := by
  refine Sp.of (ls0 := [some (.ref (ad o 16)), some (.int (nI a)), some (.int (nI c)), some (.int w)]) miX4_tellByHand rfl (Nat.le_of_ble_eq_true rfl) rfl (fun γ hγ hnm X Y => ?_)
  subst hγ
  have X : gX o γ cX4_tellByHand 4 RX4 := X
  refine g_aload_0 (pc := 0) X dX4_tellByHand_0 ?_
  refine g_iload_1 (pc := 1) X dX4_tellByHand_1 ?_
  refine g_iload_2 (pc := 2) X dX4_tellByHand_2 ?_
  refine g_callV_I (pc := 3) X Y dX4_tellByHand_3 miX4_isByHand li_X4_47 (s_isByHand hR a c (by omega) (by omega)) rfl (by decide) rfl ⟨_, rfl⟩ rfl ⟨Nat.le_of_ble_eq_true rfl, Nat.le_of_ble_eq_true rfl⟩ (Nat.le_of_ble_eq_true rfl) (Nat.le_of_ble_eq_true rfl) rfl (by exact Nat.le_of_ble_eq_true rfl) (fun x9 σ1 hp => ?_)
  obtain ⟨rfl, rfl⟩ := hp
  rw [hb]
  refine g_if_ne (pc := 6) X dX4_tellByHand_6 (tgt := 19) (by decide) (fun h6 => ?_) (fun h6 => ?_)
  · exact absurd (show zI false = 0 from by decide) h6
  · refine g_aload_0 (pc := 9) X dX4_tellByHand_9 ?_
    refine g_dup (pc := 10) X dX4_tellByHand_10 rfl ?_
    refine g_getI (pc := 11) X dX4_tellByHand_11 rfl (by decide) fl_X4_55 (Or.inl rfl) ?_
    rw [hT]
    refine g_iconst (pc := 14) X dX4_tellByHand_14 kiconst_1 ?_
    first | refine g_iadd_n (pc := 15) X dX4_tellByHand_15 ?_ | refine g_iadd (pc := 15) X dX4_tellByHand_15 ?_
    refine g_putI (pc := 16) X dX4_tellByHand_16 fl_X4_55 rfl (by decide) rfl rfl ?_
    refine g_aload_0 (pc := 19) X dX4_tellByHand_19 ?_
    refine g_getRf (pc := 20) X dX4_tellByHand_20 fl_X4_31 rfl (by decide) rfl hR rfl ?_
    refine g_iload_1 (pc := 23) X dX4_tellByHand_23 ?_
    refine g_iload_2 (pc := 24) X dX4_tellByHand_24 ?_
    refine g_iconst (pc := 25) X dX4_tellByHand_25 kiconst_1 ?_
    refine g_callSN_V (pc := 26) X Y dX4_tellByHand_26 miX11_setBit li_X4_58 (s_setBit (σ := (sI σ 16 2 (nI (T + 1)))) (k := 28) (len := 30) (on := true) (by decide) rfl (by omega) (by omega) (by decide)) rfl ⟨Nat.le_of_ble_eq_true rfl, Nat.le_of_ble_eq_true rfl⟩ (Nat.le_of_ble_eq_true rfl) (Nat.le_of_ble_eq_true rfl) rfl (by exact Nat.le_of_ble_eq_true rfl) (fun σ1 hp => ?_)
    obtain ⟨hO1, hs1⟩ := hp
    have hRa := hO1.2.trans hR
    refine g_aload_0 (pc := 29) X dX4_tellByHand_29 ?_
    refine g_getRf (pc := 30) X dX4_tellByHand_30 fl_X4_28 rfl (by decide) rfl hRa rfl ?_
    refine g_iload_1 (pc := 33) X dX4_tellByHand_33 ?_
    refine g_iload_2 (pc := 34) X dX4_tellByHand_34 ?_
    refine g_iconst (pc := 35) X dX4_tellByHand_35 kiconst_0 ?_
    refine g_callSN_V (pc := 36) X Y dX4_tellByHand_36 miX11_setBit li_X4_58 (s_setBit (k := 27) (len := 30) (on := false) (by decide) rfl (by omega) (by omega) (by decide)) rfl ⟨Nat.le_of_ble_eq_true rfl, Nat.le_of_ble_eq_true rfl⟩ (Nat.le_of_ble_eq_true rfl) (Nat.le_of_ble_eq_true rfl) rfl (by exact Nat.le_of_ble_eq_true rfl) (fun σ2 hp => ?_)
    obtain ⟨hO2, hs2⟩ := hp
    have hRb := hO2.2.trans hRa
    refine g_aload_0 (pc := 39) X dX4_tellByHand_39 ?_
    refine g_iload_1 (pc := 40) X dX4_tellByHand_40 ?_
    refine g_iload_2 (pc := 41) X dX4_tellByHand_41 ?_
    refine g_iload_3 (pc := 42) X dX4_tellByHand_42 ?_
    refine g_ldc (pc := 43) X dX4_tellByHand_43 ct_X4_62 ?_
    apply g_val (v := .int (if w = (-2147483648 : Int32) then nI 0 else w)) (pcJ := 53)
    · intro T9
      refine g_icmp_ne (pc := 45) X dX4_tellByHand_45 (tgt := 52) (by decide) (fun h45 => ?_) (fun h45 => ?_)
      · refine g_iload_3 (pc := 52) X dX4_tellByHand_52 ?_
        exact T9 _ (by simp_all)
      · refine g_iconst (pc := 48) X dX4_tellByHand_48 kiconst_0 ?_
        refine g_goto (pc := 49) X dX4_tellByHand_49 (tgt := 53) (by decide) ?_
        exact T9 _ (by simp_all)
    · refine g_iconst (pc := 53) X dX4_tellByHand_53 kiconst_0 ?_
      refine g_iload_3 (pc := 54) X dX4_tellByHand_54 ?_
      refine g_ldc (pc := 55) X dX4_tellByHand_55 ct_X4_62 ?_
      apply g_val (v := .int (zI (decide (w = (-2147483648 : Int32))))) (pcJ := 65)
      · intro T9
        refine g_icmp_ne (pc := 57) X dX4_tellByHand_57 (tgt := 64) (by decide) (fun h57 => ?_) (fun h57 => ?_)
        · refine g_iconst (pc := 64) X dX4_tellByHand_64 kiconst_0 ?_
          exact T9 _ (by simp_all [zI])
        · refine g_iconst (pc := 60) X dX4_tellByHand_60 kiconst_1 ?_
          refine g_goto (pc := 61) X dX4_tellByHand_61 (tgt := 65) (by decide) ?_
          exact T9 _ (by simp_all [zI])
      · refine g_callV_V (pc := 65) X Y dX4_tellByHand_65 miX4_write li_X4_63 (s_write (by exact hRb) a c _ _ _ (by omega) (by omega)) rfl (by decide) rfl ⟨_, rfl⟩ rfl ⟨Nat.le_of_ble_eq_true rfl, Nat.le_of_ble_eq_true rfl⟩ (Nat.le_of_ble_eq_true rfl) (Nat.le_of_ble_eq_true rfl) rfl (by exact Nat.le_of_ble_eq_true rfl) (fun σ3 hp => ?_)
        obtain ⟨hO3, w1, w2, w3⟩ := hp
        have e0 : Off [16, 24, 25, 26, 27, 28] σ (sI σ 16 2 (nI (T + 1))) := Off.rf.i (by simp)
        have e1 : ∀ k, k = 24 ∨ k = 25 ∨ k = 26 → σ2.1 k = σ.1 k := fun k hk9 => by
          rw [(hO2.1 k (by simp; omega)).1, (hO1.1 k (by simp; omega)).1]
          simp only [sI]; rw [if_neg (by omega)]
        refine g_return (pc := 68) X Y dX4_tellByHand_68 (Nat.le_of_ble_eq_true rfl) (Nat.le_of_ble_eq_true rfl) ⟨rfl, ((e0.trans (hO1.mono (by simp))).trans (hO2.mono (by simp))).trans (hO3.mono (by simp)), ?_, fun j hj => ?_, ?_, fun j => ?_, fun j => ?_, ?_, ?_⟩
        · rw [(hO3.1 16 (by decide)).1, (hO2.1 16 (by decide)).1, (hO1.1 16 (by decide)).1]
          rw [sI_get, if_pos ⟨rfl, rfl⟩]
        · rw [(hO3.1 16 (by decide)).1, (hO2.1 16 (by decide)).1, (hO1.1 16 (by decide)).1]
          rw [sI_get, if_neg (by simp [hj])]
        · rw [(hO3.1 28 (by decide)).1, (hO2.1 28 (by decide)).1]; exact hs1
        · rw [w1, e1 24 (by simp)]
        · rw [w2, e1 25 (by simp)]
        · rw [e1 26 (by simp)] at w3; exact w3
        · rw [(hO3.1 27 (by decide)).1]
          rw [(hO1.1 27 (by decide)).1] at hs2; exact hs2
set_option maxHeartbeats 4000000 in
theorem s_forget {o : gOm} {l : Launch} {σ : gSt} {b : Bool} (hR : σ.2.2 = gRf b) {N : Nat} {bk nm td yr : Nat → Nat} {fa : Nat → Int32} (hE : entAt σ N bk nm td yr fa) {C : Nat} {kind st cd op : Nat → Nat} {num : Nat → Int32} (hr : rulesAt σ (kR b) C kind st cd op num) (hk : rulesOK C kind st cd op) (a c : Nat) (ha : a < N) (hc : c < N) (T : Nat) (hT1 : 1 ≤ T) (hT : σ.1 16 2 = nI T) : Sp o l mX4_forgetByHand 7 0 0 [.ref (ad o 16), .int (nI a), .int (nI c)] 116 116 σ (pV (fun σ1 => Off [16, 28, 24, 25, 26, 27, 29, kR b, kR b + 6] σ σ1 ∧ σ1.1 16 2 = nI (T - 1) ∧ (∀ j, j ≠ 2 → σ1.1 16 j = σ.1 16 j) ∧ (∀ j, j ≠ 1 → j ≠ 2 → j ≠ 3 → j ≠ 4 → σ1.1 (kR b) j = σ.1 (kR b) j) ∧ rowSet (σ.1 28) (σ1.1 28) a c false ∧ pairSet σ σ1 a c (if nvr (fct (σ.1 3) bk nm td yr fa a c) num kind st cd op C then nI 0 else vdt (fct (σ.1 3) bk nm td yr fa a c) num kind st cd op C) (rsn (fct (σ.1 3) bk nm td yr fa a c) num kind st cd op C) (nvr (fct (σ.1 3) bk nm td yr fa a c) num kind st cd op C) (psd (fct (σ.1 3) bk nm td yr fa a c) num kind st cd op C))) := by
  refine Sp.of (ls0 := [some (.ref (ad o 16)), some (.int (nI a)), some (.int (nI c))]) miX4_forgetByHand rfl (Nat.le_of_ble_eq_true rfl) rfl (fun γ hγ hnm X Y => ?_)
  subst hγ
  have X : gX o γ cX4_forgetByHand 3 RX4 := X
  have hN := hE.2.1
  refine g_aload_0 (pc := 0) X dX4_forgetByHand_0 ?_
  refine g_dup (pc := 1) X dX4_forgetByHand_1 rfl ?_
  refine g_getI (pc := 2) X dX4_forgetByHand_2 rfl (by decide) fl_X4_55 (Or.inl rfl) ?_
  rw [hT]
  refine g_iconst (pc := 5) X dX4_forgetByHand_5 kiconst_1 ?_
  refine g_isub_n (pc := 6) X dX4_forgetByHand_6 (hT1) ?_
  refine g_putI (pc := 7) X dX4_forgetByHand_7 fl_X4_55 rfl (by decide) rfl rfl ?_
  refine g_aload_0 (pc := 10) X dX4_forgetByHand_10 ?_
  refine g_getRf (pc := 11) X dX4_forgetByHand_11 fl_X4_31 rfl (by decide) rfl hR rfl ?_
  refine g_iload_1 (pc := 14) X dX4_forgetByHand_14 ?_
  refine g_iload_2 (pc := 15) X dX4_forgetByHand_15 ?_
  refine g_iconst (pc := 16) X dX4_forgetByHand_16 kiconst_0 ?_
  refine g_callSN_V (pc := 17) X Y dX4_forgetByHand_17 miX11_setBit li_X4_58 (s_setBit (σ := (sI σ 16 2 (nI (T - 1)))) (k := 28) (len := 30) (on := false) (by decide) rfl (by omega) (by omega) (by decide)) rfl ⟨Nat.le_of_ble_eq_true rfl, Nat.le_of_ble_eq_true rfl⟩ (Nat.le_of_ble_eq_true rfl) (Nat.le_of_ble_eq_true rfl) rfl (by exact Nat.le_of_ble_eq_true rfl) (fun σ1 hp => ?_)
  obtain ⟨hO1, hs1⟩ := hp
  have hkb : kR b = 5 ∨ kR b = 17 := by cases b <;> simp [kR]
  have e0 : Off [16, 28] σ σ1 := (Off.rf.i (σ := σ) (k := 16) (j := 2) (x := nI (T - 1)) (by simp)).trans (hO1.mono (by simp))
  have hE1 : entAt σ1 N bk nm td yr fa := hE.off e0 (by simp) (by simp)
  have hr1 : rulesAt σ1 (kR b) C kind st cd op num := hr.off (by rw [(e0.1 _ (by simp; omega)).1]) (fun j q1 q2 => (e0.1 _ (by simp; omega)).1)
  have h3 : σ1.1 3 = σ.1 3 := (e0.1 3 (by simp)).1
  refine g_aload_0 (pc := 20) X dX4_forgetByHand_20 ?_
  refine g_iload_1 (pc := 21) X dX4_forgetByHand_21 ?_
  refine g_iload_2 (pc := 22) X dX4_forgetByHand_22 ?_
  refine g_callV_V (pc := 23) X Y dX4_forgetByHand_23 miX4_judge li_X4_51 (s_judgeP (hO1.2.trans hR) hE1 hr1 hk a c ha hc) rfl (by decide) rfl ⟨_, rfl⟩ rfl ⟨Nat.le_of_ble_eq_true rfl, Nat.le_of_ble_eq_true rfl⟩ (Nat.le_of_ble_eq_true rfl) (Nat.le_of_ble_eq_true rfl) rfl (by exact Nat.le_of_ble_eq_true rfl) (fun σ2 hp => ?_)
  obtain ⟨hO2, hf2, hp2⟩ := hp
  rw [h3] at hp2
  obtain ⟨w1, w2, w3, w4⟩ := hp2
  refine g_return (pc := 26) X Y dX4_forgetByHand_26 (Nat.le_of_ble_eq_true rfl) (Nat.le_of_ble_eq_true rfl) ⟨rfl, (e0.mono (by simp)).trans (hO2.mono (by simp)), ?_, fun j hj => ?_, fun j q1 q2 q3 q4 => ?_, ?_, fun j => ?_, fun j => ?_, ?_, ?_⟩
  · rw [(hO2.1 16 (by simp; omega)).1, (hO1.1 16 (by decide)).1, sI_get, if_pos ⟨rfl, rfl⟩]
  · rw [(hO2.1 16 (by simp; omega)).1, (hO1.1 16 (by decide)).1, sI_get, if_neg (by simp [hj])]
  · rw [hf2 j q1 q2 q3 q4, (e0.1 _ (by simp; omega)).1]
  · rw [(hO2.1 28 (by simp; omega)).1]; exact hs1
  · rw [w1, (e0.1 24 (by decide)).1]
  · rw [w2, (e0.1 25 (by decide)).1]
  · rw [(e0.1 26 (by decide)).1] at w3; exact w3
  · rw [(e0.1 27 (by decide)).1] at w4; exact w4
set_option maxHeartbeats 4000000 in
theorem s_bind_true {o : gOm} {l : Launch} {σ : gSt} {b : Bool} (hR : σ.2.2 = gRf b) (a c T : Nat) (ha : a < 30) (hc : c < 30) (hT : σ.1 30 2 = nI T) : Sp o l mX3_bind 2 0 0 [.ref (ad o 30), .int (nI a), .int (nI c), .int (zI true)] 116 116 σ (pV (fun σ1 => Off [30, 31] σ σ1 ∧ σ1.1 30 2 = nI (T + 1) ∧ (∀ j, j ≠ 2 → σ1.1 30 j = σ.1 30 j) ∧ rowSet (σ.1 31) (σ1.1 31) a c true)) := by
  refine Sp.of (ls0 := [some (.ref (ad o 30)), some (.int (nI a)), some (.int (nI c)), some (.int (zI true))]) miX3_bind rfl (Nat.le_of_ble_eq_true rfl) rfl (fun γ hγ hnm X Y => ?_)
  subst hγ
  have X : gX o γ cX3_bind 4 RX3 := X
  refine g_iload_3 (pc := 0) X dX3_bind_0 ?_
  refine g_if_eq (pc := 1) X dX3_bind_1 (tgt := 11) (by decide) (fun h1 => ?_) (fun h1 => ?_)
  · exact absurd (show zI true = 0 from h1) (by decide)
  · refine g_aload_0 (pc := 4) X dX3_bind_4 ?_
    refine g_getRf (pc := 5) X dX3_bind_5 fl_X3_9 rfl (by decide) rfl hR rfl ?_
    refine g_goto (pc := 8) X dX3_bind_8 (tgt := 15) (by decide) ?_
    refine g_iload_1 (pc := 15) X dX3_bind_15 ?_
    refine g_iload_2 (pc := 16) X dX3_bind_16 ?_
    refine g_iconst (pc := 17) X dX3_bind_17 kiconst_1 ?_
    refine g_callSN_V (pc := 18) X Y dX3_bind_18 miX11_setBit li_X3_36 (s_setBit (σ := σ) (k := 31) (len := 30) (on := true) (by decide) rfl (by omega) (by omega) (by decide)) rfl ⟨Nat.le_of_ble_eq_true rfl, Nat.le_of_ble_eq_true rfl⟩ (Nat.le_of_ble_eq_true rfl) (Nat.le_of_ble_eq_true rfl) rfl (by exact Nat.le_of_ble_eq_true rfl) (fun σ1 hp => ?_)
    obtain ⟨hO1, hs1⟩ := hp
    refine g_aload_0 (pc := 21) X dX3_bind_21 ?_
    refine g_dup (pc := 22) X dX3_bind_22 rfl ?_
    refine g_getI (pc := 23) X dX3_bind_23 rfl (by decide) fl_X3_40 (Or.inl rfl) ?_
    rw [show σ1.1 30 2 = nI T by rw [(hO1.1 30 (by decide)).1]; exact hT]
    refine g_iconst (pc := 26) X dX3_bind_26 kiconst_1 ?_
    first | refine g_iadd_n (pc := 27) X dX3_bind_27 ?_ | refine g_iadd (pc := 27) X dX3_bind_27 ?_
    refine g_putI (pc := 28) X dX3_bind_28 fl_X3_40 rfl (by decide) rfl rfl ?_
    exact g_return (pc := 31) X Y dX3_bind_31 (Nat.le_of_ble_eq_true rfl) (Nat.le_of_ble_eq_true rfl) ⟨rfl, (hO1.mono (by simp)).i (by simp), by rw [sI_get, if_pos ⟨rfl, rfl⟩], fun j hj => by rw [sI_get, if_neg (by simp [hj]), (hO1.1 30 (by decide)).1], by simp only [sI]; rw [if_neg (by decide)]; exact hs1⟩
set_option maxHeartbeats 4000000 in
theorem s_bind_false {o : gOm} {l : Launch} {σ : gSt} {b : Bool} (hR : σ.2.2 = gRf b) (a c T : Nat) (ha : a < 30) (hc : c < 30) (hT : σ.1 30 2 = nI T) : Sp o l mX3_bind 2 0 0 [.ref (ad o 30), .int (nI a), .int (nI c), .int (zI false)] 116 116 σ (pV (fun σ1 => Off [30, 32] σ σ1 ∧ σ1.1 30 2 = nI (T + 1) ∧ (∀ j, j ≠ 2 → σ1.1 30 j = σ.1 30 j) ∧ rowSet (σ.1 32) (σ1.1 32) a c true)) := by
  refine Sp.of (ls0 := [some (.ref (ad o 30)), some (.int (nI a)), some (.int (nI c)), some (.int (zI false))]) miX3_bind rfl (Nat.le_of_ble_eq_true rfl) rfl (fun γ hγ hnm X Y => ?_)
  subst hγ
  have X : gX o γ cX3_bind 4 RX3 := X
  refine g_iload_3 (pc := 0) X dX3_bind_0 ?_
  refine g_if_eq (pc := 1) X dX3_bind_1 (tgt := 11) (by decide) (fun h1 => ?_) (fun h1 => ?_)
  · refine g_aload_0 (pc := 11) X dX3_bind_11 ?_
    refine g_getRf (pc := 12) X dX3_bind_12 fl_X3_15 rfl (by decide) rfl hR rfl ?_
    refine g_iload_1 (pc := 15) X dX3_bind_15 ?_
    refine g_iload_2 (pc := 16) X dX3_bind_16 ?_
    refine g_iconst (pc := 17) X dX3_bind_17 kiconst_1 ?_
    refine g_callSN_V (pc := 18) X Y dX3_bind_18 miX11_setBit li_X3_36 (s_setBit (σ := σ) (k := 32) (len := 30) (on := true) (by decide) rfl (by omega) (by omega) (by decide)) rfl ⟨Nat.le_of_ble_eq_true rfl, Nat.le_of_ble_eq_true rfl⟩ (Nat.le_of_ble_eq_true rfl) (Nat.le_of_ble_eq_true rfl) rfl (by exact Nat.le_of_ble_eq_true rfl) (fun σ1 hp => ?_)
    obtain ⟨hO1, hs1⟩ := hp
    refine g_aload_0 (pc := 21) X dX3_bind_21 ?_
    refine g_dup (pc := 22) X dX3_bind_22 rfl ?_
    refine g_getI (pc := 23) X dX3_bind_23 rfl (by decide) fl_X3_40 (Or.inl rfl) ?_
    rw [show σ1.1 30 2 = nI T by rw [(hO1.1 30 (by decide)).1]; exact hT]
    refine g_iconst (pc := 26) X dX3_bind_26 kiconst_1 ?_
    first | refine g_iadd_n (pc := 27) X dX3_bind_27 ?_ | refine g_iadd (pc := 27) X dX3_bind_27 ?_
    refine g_putI (pc := 28) X dX3_bind_28 fl_X3_40 rfl (by decide) rfl rfl ?_
    exact g_return (pc := 31) X Y dX3_bind_31 (Nat.le_of_ble_eq_true rfl) (Nat.le_of_ble_eq_true rfl) ⟨rfl, (hO1.mono (by simp)).i (by simp), by rw [sI_get, if_pos ⟨rfl, rfl⟩], fun j hj => by rw [sI_get, if_neg (by simp [hj]), (hO1.1 30 (by decide)).1], by simp only [sI]; rw [if_neg (by decide)]; exact hs1⟩
  · exact absurd (show zI false = 0 from by decide) h1
set_option maxHeartbeats 4000000 in
theorem s_unbind {o : gOm} {l : Launch} {σ : gSt} {b : Bool} (hR : σ.2.2 = gRf b) (a c T : Nat) (ha : a < 30) (hc : c < 30) (hT1 : 1 ≤ T) (hT : σ.1 30 2 = nI T) : Sp o l mX3_unbind 2 0 0 [.ref (ad o 30), .int (nI a), .int (nI c)] 116 116 σ (pV (fun σ1 => Off [30, 31, 32] σ σ1 ∧ σ1.1 30 2 = nI (T - 1) ∧ (∀ j, j ≠ 2 → σ1.1 30 j = σ.1 30 j) ∧ rowSet (σ.1 31) (σ1.1 31) a c false ∧ rowSet (σ.1 32) (σ1.1 32) a c false)) := by
  refine Sp.of (ls0 := [some (.ref (ad o 30)), some (.int (nI a)), some (.int (nI c))]) miX3_unbind rfl (Nat.le_of_ble_eq_true rfl) rfl (fun γ hγ hnm X Y => ?_)
  subst hγ
  have X : gX o γ cX3_unbind 3 RX3 := X
  refine g_aload_0 (pc := 0) X dX3_unbind_0 ?_
  refine g_getRf (pc := 1) X dX3_unbind_1 fl_X3_9 rfl (by decide) rfl hR rfl ?_
  refine g_iload_1 (pc := 4) X dX3_unbind_4 ?_
  refine g_iload_2 (pc := 5) X dX3_unbind_5 ?_
  refine g_iconst (pc := 6) X dX3_unbind_6 kiconst_0 ?_
  refine g_callSN_V (pc := 7) X Y dX3_unbind_7 miX11_setBit li_X3_36 (s_setBit (σ := σ) (k := 31) (len := 30) (on := false) (by decide) rfl (by omega) (by omega) (by decide)) rfl ⟨Nat.le_of_ble_eq_true rfl, Nat.le_of_ble_eq_true rfl⟩ (Nat.le_of_ble_eq_true rfl) (Nat.le_of_ble_eq_true rfl) rfl (by exact Nat.le_of_ble_eq_true rfl) (fun σ1 hp => ?_)
  obtain ⟨hO1, hs1⟩ := hp
  refine g_aload_0 (pc := 10) X dX3_unbind_10 ?_
  refine g_getRf (pc := 11) X dX3_unbind_11 fl_X3_15 rfl (by decide) rfl (hO1.2.trans hR) rfl ?_
  refine g_iload_1 (pc := 14) X dX3_unbind_14 ?_
  refine g_iload_2 (pc := 15) X dX3_unbind_15 ?_
  refine g_iconst (pc := 16) X dX3_unbind_16 kiconst_0 ?_
  refine g_callSN_V (pc := 17) X Y dX3_unbind_17 miX11_setBit li_X3_36 (s_setBit (σ := σ1) (k := 32) (len := 30) (on := false) (by decide) rfl (by omega) (by omega) (by decide)) rfl ⟨Nat.le_of_ble_eq_true rfl, Nat.le_of_ble_eq_true rfl⟩ (Nat.le_of_ble_eq_true rfl) (Nat.le_of_ble_eq_true rfl) rfl (by exact Nat.le_of_ble_eq_true rfl) (fun σ2 hp => ?_)
  obtain ⟨hO2, hs2⟩ := hp
  refine g_aload_0 (pc := 20) X dX3_unbind_20 ?_
  refine g_dup (pc := 21) X dX3_unbind_21 rfl ?_
  refine g_getI (pc := 22) X dX3_unbind_22 rfl (by decide) fl_X3_40 (Or.inl rfl) ?_
  rw [show σ2.1 30 2 = nI T by rw [(hO2.1 30 (by decide)).1, (hO1.1 30 (by decide)).1]; exact hT]
  refine g_iconst (pc := 25) X dX3_unbind_25 kiconst_1 ?_
  refine g_isub_n (pc := 26) X dX3_unbind_26 (hT1) ?_
  refine g_putI (pc := 27) X dX3_unbind_27 fl_X3_40 rfl (by decide) rfl rfl ?_
  exact g_return (pc := 30) X Y dX3_unbind_30 (Nat.le_of_ble_eq_true rfl) (Nat.le_of_ble_eq_true rfl) ⟨rfl, ((hO1.mono (by simp)).trans (hO2.mono (by simp))).i (by simp), by rw [sI_get, if_pos ⟨rfl, rfl⟩], fun j hj => by rw [sI_get, if_neg (by simp [hj]), (hO2.1 30 (by decide)).1, (hO1.1 30 (by decide)).1], by simp only [sI]; rw [if_neg (by decide), (hO2.1 31 (by decide)).1]; exact hs1, by simp only [sI]; rw [if_neg (by decide)]; rw [(hO1.1 32 (by decide)).1] at hs2; exact hs2⟩
/-- two that may not be together, as the class's cells have it -/
def prtC (σ : gSt) (bk yr : Nat → Nat) (a c : Nat) : Bool := bt (σ.1 26 a) c || bt (σ.1 32 a) c || (decide (σ.1 30 6 = nI 1) && decide (bk a = bk c)) || (decide (¬ σ.1 30 7 = -1) && decide (σ.1 30 7 < absI (nI (yr a) - nI (yr c))))
set_option maxHeartbeats 4000000 in
theorem s_partsThem {o : gOm} {l : Launch} {σ : gSt} {b : Bool} (hR : σ.2.2 = gRf b) {N : Nat} {bk nm td yr : Nat → Nat} {fa : Nat → Int32} (hE : entAt σ N bk nm td yr fa) (a c : Nat) (ha : a < N) (hc : c < N) : Sp o l mX3_partsThem 3 0 0 [.ref (ad o 30), .int (nI a), .int (nI c)] 116 116 σ (pI (fun x σ1 => x = (zI (prtC σ bk yr a c)) ∧ σ = σ1)) := by
  refine Sp.of (ls0 := [some (.ref (ad o 30)), some (.int (nI a)), some (.int (nI c))]) miX3_partsThem rfl (Nat.le_of_ble_eq_true rfl) rfl (fun γ hγ hnm X Y => ?_)
  subst hγ
  have X : gX o γ cX3_partsThem 3 RX3 := X
  have hN := hE.2.1
  have ea := hE.2.2 a ha
  have ec := hE.2.2 c hc
  refine g_aload_0 (pc := 0) X dX3_partsThem_0 ?_
  refine g_getRf (pc := 1) X dX3_partsThem_1 fl_X3_26 rfl (by decide) rfl hR rfl ?_
  refine g_iload_1 (pc := 4) X dX3_partsThem_4 ?_
  refine g_iload_2 (pc := 5) X dX3_partsThem_5 ?_
  refine g_callV_I (pc := 6) X Y dX3_partsThem_6 miX4_isNever li_X3_43 (s_isNever (by exact hR) a c (by omega) (by omega)) rfl (by decide) rfl ⟨_, rfl⟩ rfl ⟨Nat.le_of_ble_eq_true rfl, Nat.le_of_ble_eq_true rfl⟩ (Nat.le_of_ble_eq_true rfl) (Nat.le_of_ble_eq_true rfl) rfl (by exact Nat.le_of_ble_eq_true rfl) (fun x9 σ1 hp => ?_)
  obtain ⟨rfl, rfl⟩ := hp
  first | refine g_if_ne_z (pc := 9) X dX3_partsThem_9 (tgt := 69) (by decide) (fun h9 => ?_) (fun h9 => ?_) | refine g_if_ne (pc := 9) X dX3_partsThem_9 (tgt := 69) (by decide) (fun h9 => ?_) (fun h9 => ?_)
  · refine g_iconst (pc := 69) X dX3_partsThem_69 kiconst_1 ?_
    refine g_goto (pc := 70) X dX3_partsThem_70 (tgt := 74) (by decide) ?_
    exact g_zreturn (pc := 74) X Y dX3_partsThem_74 (by first | exact Or.inl rfl | exact Or.inr rfl | exact zI_01 _) (Nat.le_of_ble_eq_true rfl) (Nat.le_of_ble_eq_true rfl) (⟨_, rfl, by simp_all [prtC, zI, ← Int32.not_le], rfl⟩)
  · refine g_aload_0 (pc := 12) X dX3_partsThem_12 ?_
    refine g_getRf (pc := 13) X dX3_partsThem_13 fl_X3_15 rfl (by decide) rfl hR rfl ?_
    refine g_iload_1 (pc := 16) X dX3_partsThem_16 ?_
    refine g_iaload_n (pc := 17) X dX3_partsThem_17 rfl (by decide) (rfl) (by omega) ?_
    refine g_iload_2 (pc := 18) X dX3_partsThem_18 ?_
    refine g_iushr (pc := 19) X dX3_partsThem_19 ?_
    refine g_iconst (pc := 20) X dX3_partsThem_20 kiconst_1 ?_
    refine g_iand (pc := 21) X dX3_partsThem_21 ?_
    refine g_if_ne (pc := 22) X dX3_partsThem_22 (tgt := 69) (by decide) (fun h22 => ?_) (fun h22 => ?_)
    · have w := mt (bit_test (by omega)).mpr h22
      replace w := (Bool.not_eq_false _).mp w
      refine g_iconst (pc := 69) X dX3_partsThem_69 kiconst_1 ?_
      refine g_goto (pc := 70) X dX3_partsThem_70 (tgt := 74) (by decide) ?_
      exact g_zreturn (pc := 74) X Y dX3_partsThem_74 (by first | exact Or.inl rfl | exact Or.inr rfl | exact zI_01 _) (Nat.le_of_ble_eq_true rfl) (Nat.le_of_ble_eq_true rfl) (⟨_, rfl, by simp_all [prtC, zI, ← Int32.not_le], rfl⟩)
    · have w := (bit_test (by omega)).mp h22
      refine g_aload_0 (pc := 25) X dX3_partsThem_25 ?_
      refine g_getI (pc := 26) X dX3_partsThem_26 rfl (by decide) fl_X3_33 (Or.inl rfl) ?_
      refine g_iconst (pc := 29) X dX3_partsThem_29 kiconst_1 ?_
      refine g_icmp_ne (pc := 30) X dX3_partsThem_30 (tgt := 45) (by decide) (fun h30 => ?_) (fun h30 => ?_)
      · refine g_aload_0 (pc := 45) X dX3_partsThem_45 ?_
        refine g_getI (pc := 46) X dX3_partsThem_46 rfl (by decide) fl_X3_18 (Or.inl rfl) ?_
        refine g_iconst (pc := 49) X dX3_partsThem_49 kiconst_m1 ?_
        refine g_icmp_eq (pc := 50) X dX3_partsThem_50 (tgt := 73) (by decide) (fun h50 => ?_) (fun h50 => ?_)
        · refine g_iconst (pc := 73) X dX3_partsThem_73 kiconst_0 ?_
          exact g_zreturn (pc := 74) X Y dX3_partsThem_74 (by first | exact Or.inl rfl | exact Or.inr rfl | exact zI_01 _) (Nat.le_of_ble_eq_true rfl) (Nat.le_of_ble_eq_true rfl) (⟨_, rfl, by simp_all [prtC, zI, ← Int32.not_le], rfl⟩)
        · refine g_aload_0 (pc := 53) X dX3_partsThem_53 ?_
          refine g_getRf (pc := 54) X dX3_partsThem_54 fl_X3_22 rfl (by decide) rfl hR rfl ?_
          refine g_iload_1 (pc := 57) X dX3_partsThem_57 ?_
          refine g_iload_2 (pc := 58) X dX3_partsThem_58 ?_
          refine g_callV_I (pc := 59) X Y dX3_partsThem_59 miX1_yearsBetween li_X3_54 (s_years (by exact hR) a c (by omega) (by omega)) rfl (by decide) rfl ⟨_, rfl⟩ rfl ⟨Nat.le_of_ble_eq_true rfl, Nat.le_of_ble_eq_true rfl⟩ (Nat.le_of_ble_eq_true rfl) (Nat.le_of_ble_eq_true rfl) rfl (by exact Nat.le_of_ble_eq_true rfl) (fun x9 σ1 hp => ?_)
          obtain ⟨rfl, rfl⟩ := hp
          simp only [ea.2.2.2.1, ec.2.2.2.1]
          refine g_aload_0 (pc := 62) X dX3_partsThem_62 ?_
          refine g_getI (pc := 63) X dX3_partsThem_63 rfl (by decide) fl_X3_18 (Or.inl rfl) ?_
          refine g_icmp_le (pc := 66) X dX3_partsThem_66 (tgt := 73) (by decide) (fun h66 => ?_) (fun h66 => ?_)
          · refine g_iconst (pc := 73) X dX3_partsThem_73 kiconst_0 ?_
            exact g_zreturn (pc := 74) X Y dX3_partsThem_74 (by first | exact Or.inl rfl | exact Or.inr rfl | exact zI_01 _) (Nat.le_of_ble_eq_true rfl) (Nat.le_of_ble_eq_true rfl) (⟨_, rfl, by simp_all [prtC, zI, ← Int32.not_le], rfl⟩)
          · refine g_iconst (pc := 69) X dX3_partsThem_69 kiconst_1 ?_
            refine g_goto (pc := 70) X dX3_partsThem_70 (tgt := 74) (by decide) ?_
            exact g_zreturn (pc := 74) X Y dX3_partsThem_74 (by first | exact Or.inl rfl | exact Or.inr rfl | exact zI_01 _) (Nat.le_of_ble_eq_true rfl) (Nat.le_of_ble_eq_true rfl) (⟨_, rfl, by simp_all [prtC, zI, ← Int32.not_le], rfl⟩)
      · refine g_aload_0 (pc := 33) X dX3_partsThem_33 ?_
        refine g_getRf (pc := 34) X dX3_partsThem_34 fl_X3_22 rfl (by decide) rfl hR rfl ?_
        refine g_iload_1 (pc := 37) X dX3_partsThem_37 ?_
        refine g_iload_2 (pc := 38) X dX3_partsThem_38 ?_
        refine g_callV_I (pc := 39) X Y dX3_partsThem_39 miX1_sameBook li_X3_49 (s_sameBook (by exact hR) a c (by omega) (by omega)) rfl (by decide) rfl ⟨_, rfl⟩ rfl ⟨Nat.le_of_ble_eq_true rfl, Nat.le_of_ble_eq_true rfl⟩ (Nat.le_of_ble_eq_true rfl) (Nat.le_of_ble_eq_true rfl) rfl (by exact Nat.le_of_ble_eq_true rfl) (fun x9 σ1 hp => ?_)
        obtain ⟨rfl, rfl⟩ := hp
        have hbk : (σ.1 2 (a * 5) = σ.1 2 (c * 5)) = (bk a = bk c) := by rw [ea.1, ec.1]; exact propext (nI_eq (by omega) (by omega))
        simp only [hbk]
        first | refine g_if_ne_z (pc := 42) X dX3_partsThem_42 (tgt := 69) (by decide) (fun h42 => ?_) (fun h42 => ?_) | refine g_if_ne (pc := 42) X dX3_partsThem_42 (tgt := 69) (by decide) (fun h42 => ?_) (fun h42 => ?_)
        · refine g_iconst (pc := 69) X dX3_partsThem_69 kiconst_1 ?_
          refine g_goto (pc := 70) X dX3_partsThem_70 (tgt := 74) (by decide) ?_
          exact g_zreturn (pc := 74) X Y dX3_partsThem_74 (by first | exact Or.inl rfl | exact Or.inr rfl | exact zI_01 _) (Nat.le_of_ble_eq_true rfl) (Nat.le_of_ble_eq_true rfl) (⟨_, rfl, by simp_all [prtC, zI, ← Int32.not_le], rfl⟩)
        · refine g_aload_0 (pc := 45) X dX3_partsThem_45 ?_
          refine g_getI (pc := 46) X dX3_partsThem_46 rfl (by decide) fl_X3_18 (Or.inl rfl) ?_
          refine g_iconst (pc := 49) X dX3_partsThem_49 kiconst_m1 ?_
          refine g_icmp_eq (pc := 50) X dX3_partsThem_50 (tgt := 73) (by decide) (fun h50 => ?_) (fun h50 => ?_)
          · refine g_iconst (pc := 73) X dX3_partsThem_73 kiconst_0 ?_
            exact g_zreturn (pc := 74) X Y dX3_partsThem_74 (by first | exact Or.inl rfl | exact Or.inr rfl | exact zI_01 _) (Nat.le_of_ble_eq_true rfl) (Nat.le_of_ble_eq_true rfl) (⟨_, rfl, by simp_all [prtC, zI, ← Int32.not_le], rfl⟩)
          · refine g_aload_0 (pc := 53) X dX3_partsThem_53 ?_
            refine g_getRf (pc := 54) X dX3_partsThem_54 fl_X3_22 rfl (by decide) rfl hR rfl ?_
            refine g_iload_1 (pc := 57) X dX3_partsThem_57 ?_
            refine g_iload_2 (pc := 58) X dX3_partsThem_58 ?_
            refine g_callV_I (pc := 59) X Y dX3_partsThem_59 miX1_yearsBetween li_X3_54 (s_years (by exact hR) a c (by omega) (by omega)) rfl (by decide) rfl ⟨_, rfl⟩ rfl ⟨Nat.le_of_ble_eq_true rfl, Nat.le_of_ble_eq_true rfl⟩ (Nat.le_of_ble_eq_true rfl) (Nat.le_of_ble_eq_true rfl) rfl (by exact Nat.le_of_ble_eq_true rfl) (fun x9 σ1 hp => ?_)
            obtain ⟨rfl, rfl⟩ := hp
            simp only [ea.2.2.2.1, ec.2.2.2.1]
            refine g_aload_0 (pc := 62) X dX3_partsThem_62 ?_
            refine g_getI (pc := 63) X dX3_partsThem_63 rfl (by decide) fl_X3_18 (Or.inl rfl) ?_
            refine g_icmp_le (pc := 66) X dX3_partsThem_66 (tgt := 73) (by decide) (fun h66 => ?_) (fun h66 => ?_)
            · refine g_iconst (pc := 73) X dX3_partsThem_73 kiconst_0 ?_
              exact g_zreturn (pc := 74) X Y dX3_partsThem_74 (by first | exact Or.inl rfl | exact Or.inr rfl | exact zI_01 _) (Nat.le_of_ble_eq_true rfl) (Nat.le_of_ble_eq_true rfl) (⟨_, rfl, by simp_all [prtC, zI, ← Int32.not_le], rfl⟩)
            · refine g_iconst (pc := 69) X dX3_partsThem_69 kiconst_1 ?_
              refine g_goto (pc := 70) X dX3_partsThem_70 (tgt := 74) (by decide) ?_
              exact g_zreturn (pc := 74) X Y dX3_partsThem_74 (by first | exact Or.inl rfl | exact Or.inr rfl | exact zI_01 _) (Nat.le_of_ble_eq_true rfl) (Nat.le_of_ble_eq_true rfl) (⟨_, rfl, by simp_all [prtC, zI, ← Int32.not_le], rfl⟩)
