def sortC (kind : Nat) : Int32 := if kind = 0 then -9 else if kind = 1 then -10 else if kind = 2 then -11 else -12
/-- the object k of class Rules holds these clauses -/
def rulesAt (σ : gSt) (k C : Nat) (kind st cd op : Nat → Nat) (num : Nat → Int32) : Prop := σ.1 k 0 = nI C ∧ (∀ i, i < C → σ.1 (k + 1) i = sortC (kind i) ∧ σ.1 (k + 3) i = nI (cd i)) ∧ (0 < C → ∀ i, i ≤ C → σ.1 (k + 2) i = nI (st i)) ∧ (∀ j, 0 < C → j < st C → σ.1 (k + 4) j = nI (opC (op j)) ∧ op j ≤ 18 ∧ σ.1 (k + 5) j = num j)
theorem codeAt_of {σ : gSt} {k C i f t : Nat} {kind st cd op : Nat → Nat} {num F : Nat → Int32} (h : rulesAt σ k C kind st cd op num) (hk : rulesOK C kind st cd op) (hF : ∀ w, w < 6 → σ.1 29 w = F (w + 1)) (hi : i < C) (ht : t ≤ st (i + 1)) : codeAt σ k op num F f t := by
  refine ⟨fun j h1 h2 => ?_, hF⟩
  have h3 := hk.mono (C - (i + 1)) (i + 1) (by omega)
  rw [show i + 1 + (C - (i + 1)) = C by omega] at h3
  exact h.2.2.2 j (by omega) (by omega)
theorem rulesAt.off {σ σ1 : gSt} {k C : Nat} {kind st cd op : Nat → Nat} {num : Nat → Int32} (h : rulesAt σ k C kind st cd op num) (h0 : σ1.1 k 0 = σ.1 k 0) (h1 : ∀ j, 1 ≤ j → j ≤ 5 → σ1.1 (k + j) = σ.1 (k + j)) : rulesAt σ1 k C kind st cd op num := by
  refine ⟨h0.trans h.1, fun i hi => ?_, fun hC i hi => ?_, fun j hC hj => ?_⟩
  · rw [h1 1 (by omega) (by omega), h1 3 (by omega) (by omega)]; exact h.2.1 i hi
  · rw [h1 2 (by omega) (by omega)]; exact h.2.2.1 hC i hi
  · rw [h1 4 (by omega) (by omega), h1 5 (by omega) (by omega)]; exact h.2.2.2 j hC hj
set_option maxHeartbeats 4000000 in
theorem s_applies5 {o : gOm} {l : Launch} {σ : gSt} {b : Bool} (hR : σ.2.2 = gRf b) {C : Nat} {kind st cd op : Nat → Nat} {num F : Nat → Int32} (hr : rulesAt σ 5 C kind st cd op num) (hk : rulesOK C kind st cd op) (hF : ∀ w, w < 6 → σ.1 29 w = F (w + 1)) (i : Nat) (hi : i < C) : Sp o l mX9_applies 3 0 0 [.ref (ad o 5), .int (nI i), .ref (ad o 29)] 116 116 σ (pI (fun x σ1 => x = zI (apl F num st cd op i) ∧ Off [11] σ σ1)) := by
  refine Sp.of (ls0 := [some (.ref (ad o 5)), some (.int (nI i)), some (.ref (ad o 29)), none]) miX9_applies rfl (Nat.le_of_ble_eq_true rfl) rfl (fun γ hγ hnm X Y => ?_)
  subst hγ
  have X : gX o γ cX9_applies 4 RX9 := X
  have hb := hk.2.1 i hi
  have hle := hk.le (i := i + 1) (by omega) (by omega)
  have hC := hk.1
  refine g_aload_0 (pc := 0) X dX9_applies_0 ?_
  refine g_getRf (pc := 1) X dX9_applies_1 fl_X9_18 rfl (by decide) rfl hR rfl ?_
  refine g_iload_1 (pc := 4) X dX9_applies_4 ?_
  refine g_iaload_n (pc := 5) X dX9_applies_5 rfl (by decide) (rfl) (by omega) ?_
  rw [(hr.2.1 i hi).2]
  refine g_aload_0 (pc := 6) X dX9_applies_6 ?_
  refine g_getRf (pc := 7) X dX9_applies_7 fl_X9_15 rfl (by decide) rfl hR rfl ?_
  refine g_iload_1 (pc := 10) X dX9_applies_10 ?_
  refine g_iconst (pc := 11) X dX9_applies_11 kiconst_1 ?_
  first | refine g_iadd_n (pc := 12) X dX9_applies_12 ?_ | refine g_iadd (pc := 12) X dX9_applies_12 ?_
  refine g_iaload_n (pc := 13) X dX9_applies_13 rfl (by decide) (rfl) (by omega) ?_
  rw [hr.2.2.1 (by omega) (i + 1) (by omega)]
  apply g_val (v := .int (zI (decide (cd i = st (i + 1))))) (pcJ := 22)
  · intro T9
    first | refine g_icmp_ne_n (pc := 14) X dX9_applies_14 (tgt := 21) (by decide) (by omega) (by omega) (fun h14 => ?_) (fun h14 => ?_) | refine g_icmp_ne (pc := 14) X dX9_applies_14 (tgt := 21) (by decide) (fun h14 => ?_) (fun h14 => ?_)
    · refine g_iconst (pc := 21) X dX9_applies_21 kiconst_0 ?_
      exact T9 _ (by simp_all [zI])
    · refine g_iconst (pc := 17) X dX9_applies_17 kiconst_1 ?_
      refine g_goto (pc := 18) X dX9_applies_18 (tgt := 22) (by decide) ?_
      exact T9 _ (by simp_all [zI])
  · refine g_istore_3 (pc := 22) X dX9_applies_22 (by decide) rfl ?_
    refine g_iload_3 (pc := 23) X dX9_applies_23 ?_
    first | refine g_if_ne_z (pc := 24) X dX9_applies_24 (tgt := 49) (by decide) (fun h24 => ?_) (fun h24 => ?_) | refine g_if_ne (pc := 24) X dX9_applies_24 (tgt := 49) (by decide) (fun h24 => ?_) (fun h24 => ?_)
    · refine g_iconst (pc := 49) X dX9_applies_49 kiconst_1 ?_
      refine g_goto (pc := 50) X dX9_applies_50 (tgt := 54) (by decide) ?_
      exact g_zreturn (pc := 54) X Y dX9_applies_54 (by first | exact Or.inl rfl | exact Or.inr rfl | exact zI_01 _) (Nat.le_of_ble_eq_true rfl) (Nat.le_of_ble_eq_true rfl) (by first | exact ⟨_, rfl, by rcases hv with hv | hv <;> simp_all [apl, zI], hO⟩ | exact ⟨_, rfl, by simp_all [apl, zI], Off.rf⟩)
    · have hc2 : tyN op (st (i + 1) - cd i) (cd i) [] = some [true] := by
        rcases hb.2.2.2.2 with q | q
        · simp [q] at h24
        · exact q
      refine g_aload_0 (pc := 27) X dX9_applies_27 ?_
      refine g_aload_0 (pc := 28) X dX9_applies_28 ?_
      refine g_getRf (pc := 29) X dX9_applies_29 fl_X9_18 rfl (by decide) rfl hR rfl ?_
      refine g_iload_1 (pc := 32) X dX9_applies_32 ?_
      refine g_iaload_n (pc := 33) X dX9_applies_33 rfl (by decide) (rfl) (by omega) ?_
      rw [(hr.2.1 i hi).2]
      refine g_aload_0 (pc := 34) X dX9_applies_34 ?_
      refine g_getRf (pc := 35) X dX9_applies_35 fl_X9_15 rfl (by decide) rfl hR rfl ?_
      refine g_iload_1 (pc := 38) X dX9_applies_38 ?_
      refine g_iconst (pc := 39) X dX9_applies_39 kiconst_1 ?_
      first | refine g_iadd_n (pc := 40) X dX9_applies_40 ?_ | refine g_iadd (pc := 40) X dX9_applies_40 ?_
      refine g_iaload_n (pc := 41) X dX9_applies_41 rfl (by decide) (rfl) (by omega) ?_
      rw [hr.2.2.1 (by omega) (i + 1) (by omega)]
      refine g_aload_2 (pc := 42) X dX9_applies_42 ?_
      refine g_callV_I (pc := 43) X Y dX9_applies_43 miX9_work li_X9_71 (s_work5 hR hb.2.2.1 hle (codeAt_of hr hk hF hi (Nat.le_refl _)) hc2) rfl (by decide) rfl ⟨_, rfl⟩ rfl ⟨Nat.le_of_ble_eq_true rfl, Nat.le_of_ble_eq_true rfl⟩ (Nat.le_of_ble_eq_true rfl) (Nat.le_of_ble_eq_true rfl) rfl (Nat.le_of_ble_eq_true rfl) (fun x9 σ1 hp => ?_)
      obtain ⟨rfl, hO⟩ := hp
      rw [val_any hc2]
      have hv := val_01 (F := F) (num := num) hc2
      refine g_if_eq (pc := 46) X dX9_applies_46 (tgt := 53) (by decide) (fun h46 => ?_) (fun h46 => ?_)
      · refine g_iconst (pc := 53) X dX9_applies_53 kiconst_0 ?_
        exact g_zreturn (pc := 54) X Y dX9_applies_54 (by first | exact Or.inl rfl | exact Or.inr rfl | exact zI_01 _) (Nat.le_of_ble_eq_true rfl) (Nat.le_of_ble_eq_true rfl) (by first | exact ⟨_, rfl, by rcases hv with hv | hv <;> simp_all [apl, zI], hO⟩ | exact ⟨_, rfl, by simp_all [apl, zI], Off.rf⟩)
      · refine g_iconst (pc := 49) X dX9_applies_49 kiconst_1 ?_
        refine g_goto (pc := 50) X dX9_applies_50 (tgt := 54) (by decide) ?_
        exact g_zreturn (pc := 54) X Y dX9_applies_54 (by first | exact Or.inl rfl | exact Or.inr rfl | exact zI_01 _) (Nat.le_of_ble_eq_true rfl) (Nat.le_of_ble_eq_true rfl) (by first | exact ⟨_, rfl, by rcases hv with hv | hv <;> simp_all [apl, zI], hO⟩ | exact ⟨_, rfl, by simp_all [apl, zI], Off.rf⟩)
set_option maxHeartbeats 4000000 in
theorem s_applies17 {o : gOm} {l : Launch} {σ : gSt} {b : Bool} (hR : σ.2.2 = gRf b) {C : Nat} {kind st cd op : Nat → Nat} {num F : Nat → Int32} (hr : rulesAt σ 17 C kind st cd op num) (hk : rulesOK C kind st cd op) (hF : ∀ w, w < 6 → σ.1 29 w = F (w + 1)) (i : Nat) (hi : i < C) : Sp o l mX9_applies 3 0 0 [.ref (ad o 17), .int (nI i), .ref (ad o 29)] 116 116 σ (pI (fun x σ1 => x = zI (apl F num st cd op i) ∧ Off [23] σ σ1)) := by
  refine Sp.of (ls0 := [some (.ref (ad o 17)), some (.int (nI i)), some (.ref (ad o 29)), none]) miX9_applies rfl (Nat.le_of_ble_eq_true rfl) rfl (fun γ hγ hnm X Y => ?_)
  subst hγ
  have X : gX o γ cX9_applies 4 RX9 := X
  have hb := hk.2.1 i hi
  have hle := hk.le (i := i + 1) (by omega) (by omega)
  have hC := hk.1
  refine g_aload_0 (pc := 0) X dX9_applies_0 ?_
  refine g_getRf (pc := 1) X dX9_applies_1 fl_X9_18 rfl (by decide) rfl hR rfl ?_
  refine g_iload_1 (pc := 4) X dX9_applies_4 ?_
  refine g_iaload_n (pc := 5) X dX9_applies_5 rfl (by decide) (rfl) (by omega) ?_
  rw [(hr.2.1 i hi).2]
  refine g_aload_0 (pc := 6) X dX9_applies_6 ?_
  refine g_getRf (pc := 7) X dX9_applies_7 fl_X9_15 rfl (by decide) rfl hR rfl ?_
  refine g_iload_1 (pc := 10) X dX9_applies_10 ?_
  refine g_iconst (pc := 11) X dX9_applies_11 kiconst_1 ?_
  first | refine g_iadd_n (pc := 12) X dX9_applies_12 ?_ | refine g_iadd (pc := 12) X dX9_applies_12 ?_
  refine g_iaload_n (pc := 13) X dX9_applies_13 rfl (by decide) (rfl) (by omega) ?_
  rw [hr.2.2.1 (by omega) (i + 1) (by omega)]
  apply g_val (v := .int (zI (decide (cd i = st (i + 1))))) (pcJ := 22)
  · intro T9
    first | refine g_icmp_ne_n (pc := 14) X dX9_applies_14 (tgt := 21) (by decide) (by omega) (by omega) (fun h14 => ?_) (fun h14 => ?_) | refine g_icmp_ne (pc := 14) X dX9_applies_14 (tgt := 21) (by decide) (fun h14 => ?_) (fun h14 => ?_)
    · refine g_iconst (pc := 21) X dX9_applies_21 kiconst_0 ?_
      exact T9 _ (by simp_all [zI])
    · refine g_iconst (pc := 17) X dX9_applies_17 kiconst_1 ?_
      refine g_goto (pc := 18) X dX9_applies_18 (tgt := 22) (by decide) ?_
      exact T9 _ (by simp_all [zI])
  · refine g_istore_3 (pc := 22) X dX9_applies_22 (by decide) rfl ?_
    refine g_iload_3 (pc := 23) X dX9_applies_23 ?_
    first | refine g_if_ne_z (pc := 24) X dX9_applies_24 (tgt := 49) (by decide) (fun h24 => ?_) (fun h24 => ?_) | refine g_if_ne (pc := 24) X dX9_applies_24 (tgt := 49) (by decide) (fun h24 => ?_) (fun h24 => ?_)
    · refine g_iconst (pc := 49) X dX9_applies_49 kiconst_1 ?_
      refine g_goto (pc := 50) X dX9_applies_50 (tgt := 54) (by decide) ?_
      exact g_zreturn (pc := 54) X Y dX9_applies_54 (by first | exact Or.inl rfl | exact Or.inr rfl | exact zI_01 _) (Nat.le_of_ble_eq_true rfl) (Nat.le_of_ble_eq_true rfl) (by first | exact ⟨_, rfl, by rcases hv with hv | hv <;> simp_all [apl, zI], hO⟩ | exact ⟨_, rfl, by simp_all [apl, zI], Off.rf⟩)
    · have hc2 : tyN op (st (i + 1) - cd i) (cd i) [] = some [true] := by
        rcases hb.2.2.2.2 with q | q
        · simp [q] at h24
        · exact q
      refine g_aload_0 (pc := 27) X dX9_applies_27 ?_
      refine g_aload_0 (pc := 28) X dX9_applies_28 ?_
      refine g_getRf (pc := 29) X dX9_applies_29 fl_X9_18 rfl (by decide) rfl hR rfl ?_
      refine g_iload_1 (pc := 32) X dX9_applies_32 ?_
      refine g_iaload_n (pc := 33) X dX9_applies_33 rfl (by decide) (rfl) (by omega) ?_
      rw [(hr.2.1 i hi).2]
      refine g_aload_0 (pc := 34) X dX9_applies_34 ?_
      refine g_getRf (pc := 35) X dX9_applies_35 fl_X9_15 rfl (by decide) rfl hR rfl ?_
      refine g_iload_1 (pc := 38) X dX9_applies_38 ?_
      refine g_iconst (pc := 39) X dX9_applies_39 kiconst_1 ?_
      first | refine g_iadd_n (pc := 40) X dX9_applies_40 ?_ | refine g_iadd (pc := 40) X dX9_applies_40 ?_
      refine g_iaload_n (pc := 41) X dX9_applies_41 rfl (by decide) (rfl) (by omega) ?_
      rw [hr.2.2.1 (by omega) (i + 1) (by omega)]
      refine g_aload_2 (pc := 42) X dX9_applies_42 ?_
      refine g_callV_I (pc := 43) X Y dX9_applies_43 miX9_work li_X9_71 (s_work17 hR hb.2.2.1 hle (codeAt_of hr hk hF hi (Nat.le_refl _)) hc2) rfl (by decide) rfl ⟨_, rfl⟩ rfl ⟨Nat.le_of_ble_eq_true rfl, Nat.le_of_ble_eq_true rfl⟩ (Nat.le_of_ble_eq_true rfl) (Nat.le_of_ble_eq_true rfl) rfl (Nat.le_of_ble_eq_true rfl) (fun x9 σ1 hp => ?_)
      obtain ⟨rfl, hO⟩ := hp
      rw [val_any hc2]
      have hv := val_01 (F := F) (num := num) hc2
      refine g_if_eq (pc := 46) X dX9_applies_46 (tgt := 53) (by decide) (fun h46 => ?_) (fun h46 => ?_)
      · refine g_iconst (pc := 53) X dX9_applies_53 kiconst_0 ?_
        exact g_zreturn (pc := 54) X Y dX9_applies_54 (by first | exact Or.inl rfl | exact Or.inr rfl | exact zI_01 _) (Nat.le_of_ble_eq_true rfl) (Nat.le_of_ble_eq_true rfl) (by first | exact ⟨_, rfl, by rcases hv with hv | hv <;> simp_all [apl, zI], hO⟩ | exact ⟨_, rfl, by simp_all [apl, zI], Off.rf⟩)
      · refine g_iconst (pc := 49) X dX9_applies_49 kiconst_1 ?_
        refine g_goto (pc := 50) X dX9_applies_50 (tgt := 54) (by decide) ?_
        exact g_zreturn (pc := 54) X Y dX9_applies_54 (by first | exact Or.inl rfl | exact Or.inr rfl | exact zI_01 _) (Nat.le_of_ble_eq_true rfl) (Nat.le_of_ble_eq_true rfl) (by first | exact ⟨_, rfl, by rcases hv with hv | hv <;> simp_all [apl, zI], hO⟩ | exact ⟨_, rfl, by simp_all [apl, zI], Off.rf⟩)
theorem sortC_is {k : Nat} (h : k ≤ 3) : (sortC k = -12 ↔ k = 3) ∧ (sortC k = -11 ↔ k = 2) ∧ (sortC k = -9 ↔ k = 0) := by
  have : k = 0 ∨ k = 1 ∨ k = 2 ∨ k = 3 := by omega
  rcases this with rfl | rfl | rfl | rfl <;> decide +kernel
set_option maxHeartbeats 4000000 in
theorem s_looks5 {o : gOm} {l : Launch} {σ : gSt} {b : Bool} (hR : σ.2.2 = gRf b) {C : Nat} {kind st cd op : Nat → Nat} {num F : Nat → Int32} (hr : rulesAt σ 5 C kind st cd op num) (hk : rulesOK C kind st cd op) (hF : ∀ w, w < 6 → σ.1 29 w = F (w + 1)) (h0 : σ.1 5 2 = nI 0) : Sp o l mX9_workLooks 4 0 0 [.ref (ad o 5), .ref (ad o 29)] 116 116 σ (pI (fun x σ1 => x = zI (anyB (fun j => decide (kind j = 3)) C) ∧ Off [5, 11] σ σ1 ∧ (∀ j, j ≠ 2 → σ1.1 5 j = σ.1 5 j) ∧ σ1.1 5 2 = orBits (fun j => decide (kind j = 3) && apl F num st cd op j) C)) := by
  refine Sp.of (ls0 := [some (.ref (ad o 5)), some (.ref (ad o 29)), none, none]) miX9_workLooks rfl (Nat.le_of_ble_eq_true rfl) rfl (fun γ hγ hnm X Y => ?_)
  subst hγ
  have X : gX o γ cX9_workLooks 4 RX9 := X
  have hC := hk.1
  have hL : ∀ (m i : Nat), i ≤ C → C + 1 ≤ i + m → ∀ σ1 : gSt, Off [5, 11] σ σ1 → (∀ j, j ≠ 2 → σ1.1 5 j = σ.1 5 j) → σ1.1 5 2 = orBits (fun j => decide (kind j = 3) && apl F num st cd op j) i → G o γ 0 0 116 σ1 4 [some (.ref (ad o 5)), some (.ref (ad o 29)), some (.int (zI (anyB (fun j => decide (kind j = 3)) i))), some (.int (nI i))] [] := by
    intro m
    induction m with
    | zero => intro i q1 q2; omega
    | succ m ihhL =>
      intro i q1 q2 σ1 hO h2 hre
      have hR1 := hO.2.trans hR
      have hr1 : rulesAt σ1 5 C kind st cd op num := hr.off (h2 0 (by decide)) (fun j q1 q2 => (hO.1 _ (by simp; omega)).1)
      refine g_iload_3 (pc := 4) X dX9_workLooks_4 ?_
      refine g_aload_0 (pc := 5) X dX9_workLooks_5 ?_
      refine g_getI (pc := 6) X dX9_workLooks_6 rfl (by decide) fl_X9_30 (Or.inl rfl) ?_
      rw [hr1.1]
      first | refine g_icmp_ge_n (pc := 9) X dX9_workLooks_9 (tgt := 52) (by decide) (by omega) (by omega) (fun h9 => ?_) (fun h9 => ?_) | refine g_icmp_ge (pc := 9) X dX9_workLooks_9 (tgt := 52) (by decide) (fun h9 => ?_) (fun h9 => ?_)
      · refine g_iload_2 (pc := 52) X dX9_workLooks_52 ?_
        exact g_zreturn (pc := 53) X Y dX9_workLooks_53 (by first | exact Or.inl rfl | exact Or.inr rfl | exact zI_01 _) (Nat.le_of_ble_eq_true rfl) (Nat.le_of_ble_eq_true rfl) (by obtain rfl : i = C := (by omega); exact ⟨_, rfl, rfl, hO, h2, hre⟩)
      · have hb := hk.2.1 i h9
        refine g_aload_0 (pc := 12) X dX9_workLooks_12 ?_
        refine g_getRf (pc := 13) X dX9_workLooks_13 fl_X9_9 rfl (by decide) rfl hR1 rfl ?_
        refine g_iload_3 (pc := 16) X dX9_workLooks_16 ?_
        refine g_iaload_n (pc := 17) X dX9_workLooks_17 rfl (by decide) (rfl) (by omega) ?_
        rw [(hr1.2.1 i h9).1]
        refine g_bipush (pc := 18) X dX9_workLooks_18 kbipush_m12 ?_
        refine g_icmp_ne (pc := 20) X dX9_workLooks_20 (tgt := 46) (by decide) (fun h20 => ?_) (fun h20 => ?_)
        · have h3 : ¬ kind i = 3 := fun q => h20 ((sortC_is hb.1).1.mpr q)
          refine g_iinc_3_n (pc := 46) X dX9_workLooks_46 (by decide) rfl ?_
          refine g_goto (pc := 49) X dX9_workLooks_49 (tgt := 4) (by decide) ?_
          have w := ihhL (i + 1) (by omega) (by omega) σ1 hO h2 (by rw [hre, orBits]; simp [h3])
          simpa [anyB, h3] using w
        · have h3 : kind i = 3 := (sortC_is hb.1).1.mp h20
          refine g_iconst (pc := 23) X dX9_workLooks_23 kiconst_1 ?_
          refine g_istore_2 (pc := 24) X dX9_workLooks_24 (by decide) rfl ?_
          refine g_aload_0 (pc := 25) X dX9_workLooks_25 ?_
          refine g_iload_3 (pc := 26) X dX9_workLooks_26 ?_
          refine g_aload_1 (pc := 27) X dX9_workLooks_27 ?_
          refine g_callV_I (pc := 28) X Y dX9_workLooks_28 miX9_applies li_X9_67 (s_applies5 (hO.2.trans hR) hr1 hk (fun w hw => by rw [(hO.1 29 (by decide)).1]; exact hF w hw) i h9) rfl (by decide) rfl ⟨_, rfl⟩ rfl ⟨Nat.le_of_ble_eq_true rfl, Nat.le_of_ble_eq_true rfl⟩ (Nat.le_of_ble_eq_true rfl) (Nat.le_of_ble_eq_true rfl) rfl (Nat.le_of_ble_eq_true rfl) (fun x9 σ2 hp => ?_)
          obtain ⟨rfl, hO2⟩ := hp
          first | refine g_if_eq_z (pc := 31) X dX9_workLooks_31 (tgt := 46) (by decide) (fun h31 => ?_) (fun h31 => ?_) | refine g_if_eq (pc := 31) X dX9_workLooks_31 (tgt := 46) (by decide) (fun h31 => ?_) (fun h31 => ?_)
          · refine g_iinc_3_n (pc := 46) X dX9_workLooks_46 (by decide) rfl ?_
            refine g_goto (pc := 49) X dX9_workLooks_49 (tgt := 4) (by decide) ?_
            have w := ihhL (i + 1) (by omega) (by omega) σ2 (hO.trans (hO2.mono (by simp))) (fun j hj => by rw [(hO2.1 5 (by decide)).1]; exact h2 j hj) (by rw [(hO2.1 5 (by decide)).1, hre, orBits]; simp [h31])
            simpa [anyB, h3, zI] using w
          · refine g_aload_0 (pc := 34) X dX9_workLooks_34 ?_
            refine g_dup (pc := 35) X dX9_workLooks_35 rfl ?_
            refine g_getI (pc := 36) X dX9_workLooks_36 rfl (by decide) fl_X9_40 (Or.inl rfl) ?_
            refine g_iconst (pc := 39) X dX9_workLooks_39 kiconst_1 ?_
            refine g_iload_3 (pc := 40) X dX9_workLooks_40 ?_
            refine g_ishl (pc := 41) X dX9_workLooks_41 ?_
            refine g_ior (pc := 42) X dX9_workLooks_42 ?_
            refine g_putI (pc := 43) X dX9_workLooks_43 fl_X9_40 rfl (by decide) rfl rfl ?_
            refine g_iinc_3_n (pc := 46) X dX9_workLooks_46 (by decide) rfl ?_
            refine g_goto (pc := 49) X dX9_workLooks_49 (tgt := 4) (by decide) ?_
            have w := ihhL (i + 1) (by omega) (by omega) (sI σ2 5 2 (σ2.1 5 2 ||| (nI 1 <<< (nI i &&& 31)))) ((hO.trans (hO2.mono (by simp))).i (k := 5) (j := 2) (by simp)) (fun j hj => by rw [sI_get, if_neg (by simp [hj]), (hO2.1 5 (by decide)).1]; exact h2 j hj) (by rw [sI_get, if_pos ⟨rfl, rfl⟩, (hO2.1 5 (by decide)).1, hre, orBits]; simp [h3, h31])
            simpa [anyB, h3, zI] using w
  refine g_iconst (pc := 0) X dX9_workLooks_0 kiconst_0 ?_
  refine g_istore_2 (pc := 1) X dX9_workLooks_1 (by decide) rfl ?_
  refine g_iconst (pc := 2) X dX9_workLooks_2 kiconst_0 ?_
  refine g_istore_3 (pc := 3) X dX9_workLooks_3 (by decide) rfl ?_
  exact hL (C + 1) 0 (by omega) (by omega) σ Off.rf (fun _ _ => rfl) h0
set_option maxHeartbeats 4000000 in
theorem s_looks17 {o : gOm} {l : Launch} {σ : gSt} {b : Bool} (hR : σ.2.2 = gRf b) {C : Nat} {kind st cd op : Nat → Nat} {num F : Nat → Int32} (hr : rulesAt σ 17 C kind st cd op num) (hk : rulesOK C kind st cd op) (hF : ∀ w, w < 6 → σ.1 29 w = F (w + 1)) (h0 : σ.1 17 2 = nI 0) : Sp o l mX9_workLooks 4 0 0 [.ref (ad o 17), .ref (ad o 29)] 116 116 σ (pI (fun x σ1 => x = zI (anyB (fun j => decide (kind j = 3)) C) ∧ Off [17, 23] σ σ1 ∧ (∀ j, j ≠ 2 → σ1.1 17 j = σ.1 17 j) ∧ σ1.1 17 2 = orBits (fun j => decide (kind j = 3) && apl F num st cd op j) C)) := by
  refine Sp.of (ls0 := [some (.ref (ad o 17)), some (.ref (ad o 29)), none, none]) miX9_workLooks rfl (Nat.le_of_ble_eq_true rfl) rfl (fun γ hγ hnm X Y => ?_)
  subst hγ
  have X : gX o γ cX9_workLooks 4 RX9 := X
  have hC := hk.1
  have hL : ∀ (m i : Nat), i ≤ C → C + 1 ≤ i + m → ∀ σ1 : gSt, Off [17, 23] σ σ1 → (∀ j, j ≠ 2 → σ1.1 17 j = σ.1 17 j) → σ1.1 17 2 = orBits (fun j => decide (kind j = 3) && apl F num st cd op j) i → G o γ 0 0 116 σ1 4 [some (.ref (ad o 17)), some (.ref (ad o 29)), some (.int (zI (anyB (fun j => decide (kind j = 3)) i))), some (.int (nI i))] [] := by
    intro m
    induction m with
    | zero => intro i q1 q2; omega
    | succ m ihhL =>
      intro i q1 q2 σ1 hO h2 hre
      have hR1 := hO.2.trans hR
      have hr1 : rulesAt σ1 17 C kind st cd op num := hr.off (h2 0 (by decide)) (fun j q1 q2 => (hO.1 _ (by simp; omega)).1)
      refine g_iload_3 (pc := 4) X dX9_workLooks_4 ?_
      refine g_aload_0 (pc := 5) X dX9_workLooks_5 ?_
      refine g_getI (pc := 6) X dX9_workLooks_6 rfl (by decide) fl_X9_30 (Or.inl rfl) ?_
      rw [hr1.1]
      first | refine g_icmp_ge_n (pc := 9) X dX9_workLooks_9 (tgt := 52) (by decide) (by omega) (by omega) (fun h9 => ?_) (fun h9 => ?_) | refine g_icmp_ge (pc := 9) X dX9_workLooks_9 (tgt := 52) (by decide) (fun h9 => ?_) (fun h9 => ?_)
      · refine g_iload_2 (pc := 52) X dX9_workLooks_52 ?_
        exact g_zreturn (pc := 53) X Y dX9_workLooks_53 (by first | exact Or.inl rfl | exact Or.inr rfl | exact zI_01 _) (Nat.le_of_ble_eq_true rfl) (Nat.le_of_ble_eq_true rfl) (by obtain rfl : i = C := (by omega); exact ⟨_, rfl, rfl, hO, h2, hre⟩)
      · have hb := hk.2.1 i h9
        refine g_aload_0 (pc := 12) X dX9_workLooks_12 ?_
        refine g_getRf (pc := 13) X dX9_workLooks_13 fl_X9_9 rfl (by decide) rfl hR1 rfl ?_
        refine g_iload_3 (pc := 16) X dX9_workLooks_16 ?_
        refine g_iaload_n (pc := 17) X dX9_workLooks_17 rfl (by decide) (rfl) (by omega) ?_
        rw [(hr1.2.1 i h9).1]
        refine g_bipush (pc := 18) X dX9_workLooks_18 kbipush_m12 ?_
        refine g_icmp_ne (pc := 20) X dX9_workLooks_20 (tgt := 46) (by decide) (fun h20 => ?_) (fun h20 => ?_)
        · have h3 : ¬ kind i = 3 := fun q => h20 ((sortC_is hb.1).1.mpr q)
          refine g_iinc_3_n (pc := 46) X dX9_workLooks_46 (by decide) rfl ?_
          refine g_goto (pc := 49) X dX9_workLooks_49 (tgt := 4) (by decide) ?_
          have w := ihhL (i + 1) (by omega) (by omega) σ1 hO h2 (by rw [hre, orBits]; simp [h3])
          simpa [anyB, h3] using w
        · have h3 : kind i = 3 := (sortC_is hb.1).1.mp h20
          refine g_iconst (pc := 23) X dX9_workLooks_23 kiconst_1 ?_
          refine g_istore_2 (pc := 24) X dX9_workLooks_24 (by decide) rfl ?_
          refine g_aload_0 (pc := 25) X dX9_workLooks_25 ?_
          refine g_iload_3 (pc := 26) X dX9_workLooks_26 ?_
          refine g_aload_1 (pc := 27) X dX9_workLooks_27 ?_
          refine g_callV_I (pc := 28) X Y dX9_workLooks_28 miX9_applies li_X9_67 (s_applies17 (hO.2.trans hR) hr1 hk (fun w hw => by rw [(hO.1 29 (by decide)).1]; exact hF w hw) i h9) rfl (by decide) rfl ⟨_, rfl⟩ rfl ⟨Nat.le_of_ble_eq_true rfl, Nat.le_of_ble_eq_true rfl⟩ (Nat.le_of_ble_eq_true rfl) (Nat.le_of_ble_eq_true rfl) rfl (Nat.le_of_ble_eq_true rfl) (fun x9 σ2 hp => ?_)
          obtain ⟨rfl, hO2⟩ := hp
          first | refine g_if_eq_z (pc := 31) X dX9_workLooks_31 (tgt := 46) (by decide) (fun h31 => ?_) (fun h31 => ?_) | refine g_if_eq (pc := 31) X dX9_workLooks_31 (tgt := 46) (by decide) (fun h31 => ?_) (fun h31 => ?_)
          · refine g_iinc_3_n (pc := 46) X dX9_workLooks_46 (by decide) rfl ?_
            refine g_goto (pc := 49) X dX9_workLooks_49 (tgt := 4) (by decide) ?_
            have w := ihhL (i + 1) (by omega) (by omega) σ2 (hO.trans (hO2.mono (by simp))) (fun j hj => by rw [(hO2.1 17 (by decide)).1]; exact h2 j hj) (by rw [(hO2.1 17 (by decide)).1, hre, orBits]; simp [h31])
            simpa [anyB, h3, zI] using w
          · refine g_aload_0 (pc := 34) X dX9_workLooks_34 ?_
            refine g_dup (pc := 35) X dX9_workLooks_35 rfl ?_
            refine g_getI (pc := 36) X dX9_workLooks_36 rfl (by decide) fl_X9_40 (Or.inl rfl) ?_
            refine g_iconst (pc := 39) X dX9_workLooks_39 kiconst_1 ?_
            refine g_iload_3 (pc := 40) X dX9_workLooks_40 ?_
            refine g_ishl (pc := 41) X dX9_workLooks_41 ?_
            refine g_ior (pc := 42) X dX9_workLooks_42 ?_
            refine g_putI (pc := 43) X dX9_workLooks_43 fl_X9_40 rfl (by decide) rfl rfl ?_
            refine g_iinc_3_n (pc := 46) X dX9_workLooks_46 (by decide) rfl ?_
            refine g_goto (pc := 49) X dX9_workLooks_49 (tgt := 4) (by decide) ?_
            have w := ihhL (i + 1) (by omega) (by omega) (sI σ2 17 2 (σ2.1 17 2 ||| (nI 1 <<< (nI i &&& 31)))) ((hO.trans (hO2.mono (by simp))).i (k := 17) (j := 2) (by simp)) (fun j hj => by rw [sI_get, if_neg (by simp [hj]), (hO2.1 17 (by decide)).1]; exact h2 j hj) (by rw [sI_get, if_pos ⟨rfl, rfl⟩, (hO2.1 17 (by decide)).1, hre, orBits]; simp [h3, h31])
            simpa [anyB, h3, zI] using w
  refine g_iconst (pc := 0) X dX9_workLooks_0 kiconst_0 ?_
  refine g_istore_2 (pc := 1) X dX9_workLooks_1 (by decide) rfl ?_
  refine g_iconst (pc := 2) X dX9_workLooks_2 kiconst_0 ?_
  refine g_istore_3 (pc := 3) X dX9_workLooks_3 (by decide) rfl ?_
  exact hL (C + 1) 0 (by omega) (by omega) σ Off.rf (fun _ _ => rfl) h0
set_option maxHeartbeats 4000000 in
theorem s_others5 {o : gOm} {l : Launch} {σ : gSt} {b : Bool} (hR : σ.2.2 = gRf b) {C : Nat} {kind st cd op : Nat → Nat} {num F : Nat → Int32} (hr : rulesAt σ 5 C kind st cd op num) (hk : rulesOK C kind st cd op) (hF : ∀ w, w < 6 → σ.1 29 w = F (w + 1)) (h0 : σ.1 5 1 = nI 0) (h1 : σ.1 5 3 = nI 0) : Sp o l mX9_workOthers 4 0 0 [.ref (ad o 5), .ref (ad o 29)] 116 116 σ (pV (fun σ1 => Off [5, 11] σ σ1 ∧ (∀ j, j ≠ 1 → j ≠ 2 → j ≠ 3 → σ1.1 5 j = σ.1 5 j) ∧ σ1.1 5 2 = σ.1 5 2 ||| orBits (fun j => apl F num st cd op j && decide (kind j ≠ 3)) C ∧ σ1.1 5 3 = zI (anyB (fun j => apl F num st cd op j && decide (kind j = 2)) C) ∧ σ1.1 5 1 = vSum F num kind st cd op C)) := by
  refine Sp.of (ls0 := [some (.ref (ad o 5)), some (.ref (ad o 29)), none, none]) miX9_workOthers rfl (Nat.le_of_ble_eq_true rfl) rfl (fun γ hγ hnm X Y => ?_)
  subst hγ
  have X : gX o γ cX9_workOthers 4 RX9 := X
  have hC := hk.1
  have hL : ∀ (m i : Nat), i ≤ C → C + 1 ≤ i + m → ∀ σ1 : gSt, Off [5, 11] σ σ1 → (∀ j, j ≠ 1 → j ≠ 2 → j ≠ 3 → σ1.1 5 j = σ.1 5 j) → σ1.1 5 2 = σ.1 5 2 ||| orBits (fun j => apl F num st cd op j && decide (kind j ≠ 3)) i → σ1.1 5 3 = zI (anyB (fun j => apl F num st cd op j && decide (kind j = 2)) i) → σ1.1 5 1 = vSum F num kind st cd op i → G o γ 0 0 116 σ1 2 [some (.ref (ad o 5)), some (.ref (ad o 29)), some (.int (nI i)), none] [] := by
    intro m
    induction m with
    | zero => intro i q1 q2; omega
    | succ m ihhL =>
      intro i q1 q2 σ1 hO h2 hre hne hve
      have hR1 := hO.2.trans hR
      have hr1 : rulesAt σ1 5 C kind st cd op num := hr.off (h2 0 (by decide) (by decide) (by decide)) (fun j q1 q2 => (hO.1 _ (by simp; omega)).1)
      refine g_iload_2 (pc := 2) X dX9_workOthers_2 ?_
      refine g_aload_0 (pc := 3) X dX9_workOthers_3 ?_
      refine g_getI (pc := 4) X dX9_workOthers_4 rfl (by decide) fl_X9_30 (Or.inl rfl) ?_
      rw [hr1.1]
      first | refine g_icmp_ge_n (pc := 7) X dX9_workOthers_7 (tgt := 118) (by decide) (by omega) (by omega) (fun h7 => ?_) (fun h7 => ?_) | refine g_icmp_ge (pc := 7) X dX9_workOthers_7 (tgt := 118) (by decide) (fun h7 => ?_) (fun h7 => ?_)
      · exact g_return (pc := 118) X Y dX9_workOthers_118 (Nat.le_of_ble_eq_true rfl) (Nat.le_of_ble_eq_true rfl) (by obtain rfl : i = C := (by omega); exact ⟨rfl, hO, h2, hre, hne, hve⟩)
      · have hb := hk.2.1 i h7
        have hle := hk.le (i := i + 1) (by omega) (by omega)
        refine g_aload_0 (pc := 10) X dX9_workOthers_10 ?_
        refine g_getRf (pc := 11) X dX9_workOthers_11 fl_X9_9 rfl (by decide) rfl (by first | exact hR1 | exact hO2.2.trans hR1 | exact hO3.2.trans (hO2.2.trans hR1)) rfl ?_
        refine g_iload_2 (pc := 14) X dX9_workOthers_14 ?_
        refine g_iaload_n (pc := 15) X dX9_workOthers_15 rfl (by decide) (rfl) (by omega) ?_
        rw [(hr1.2.1 i h7).1]
        refine g_bipush (pc := 16) X dX9_workOthers_16 kbipush_m12 ?_
        refine g_icmp_eq (pc := 18) X dX9_workOthers_18 (tgt := 112) (by decide) (fun h18 => ?_) (fun h18 => ?_)
        · have h3k : kind i = 3 := (sortC_is hb.1).1.mp h18
          refine g_iinc_2_n (pc := 112) X dX9_workOthers_112 (by decide) rfl ?_
          refine g_goto (pc := 115) X dX9_workOthers_115 (tgt := 2) (by decide) ?_
          exact g_drop (by simp [lsub]) (ihhL (i + 1) (by omega) (by omega) σ1 hO h2 (by rw [hre, orBits]; simp [h3k]) (by rw [hne, anyB]; simp [h3k]) (by rw [hve, vSum]; simp [h3k]))
        · have h3k : ¬ kind i = 3 := fun z => h18 ((sortC_is hb.1).1.mpr z)
          refine g_aload_0 (pc := 21) X dX9_workOthers_21 ?_
          refine g_iload_2 (pc := 22) X dX9_workOthers_22 ?_
          refine g_aload_1 (pc := 23) X dX9_workOthers_23 ?_
          refine g_callV_I (pc := 24) X Y dX9_workOthers_24 miX9_applies li_X9_67 (s_applies5 (hO.2.trans hR) hr1 hk (fun w hw => by rw [(hO.1 29 (by decide)).1]; exact hF w hw) i h7) rfl (by decide) rfl ⟨_, rfl⟩ rfl ⟨Nat.le_of_ble_eq_true rfl, Nat.le_of_ble_eq_true rfl⟩ (Nat.le_of_ble_eq_true rfl) (Nat.le_of_ble_eq_true rfl) rfl (Nat.le_of_ble_eq_true rfl) (fun x9 σ2 hp => ?_)
          obtain ⟨rfl, hO2⟩ := hp
          first | refine g_if_ne_z (pc := 27) X dX9_workOthers_27 (tgt := 33) (by decide) (fun h27 => ?_) (fun h27 => ?_) | refine g_if_ne (pc := 27) X dX9_workOthers_27 (tgt := 33) (by decide) (fun h27 => ?_) (fun h27 => ?_)
          · refine g_aload_0 (pc := 33) X dX9_workOthers_33 ?_
            refine g_dup (pc := 34) X dX9_workOthers_34 rfl ?_
            refine g_getI (pc := 35) X dX9_workOthers_35 rfl (by decide) fl_X9_40 (Or.inl rfl) ?_
            refine g_iconst (pc := 38) X dX9_workOthers_38 kiconst_1 ?_
            refine g_iload_2 (pc := 39) X dX9_workOthers_39 ?_
            refine g_ishl (pc := 40) X dX9_workOthers_40 ?_
            refine g_ior (pc := 41) X dX9_workOthers_41 ?_
            refine g_putI (pc := 42) X dX9_workOthers_42 fl_X9_40 rfl (by decide) rfl rfl ?_
            have e2 : (σ2.1 5 2 ||| (nI 1 <<< (nI i &&& 31))) = σ.1 5 2 ||| orBits (fun j => apl F num st cd op j && decide (kind j ≠ 3)) (i + 1) := by
              rw [(hO2.1 5 (by decide)).1, hre, orBits, if_pos (by simp [h27, h3k]), Int32.or_assoc]
            have hr3 : rulesAt (sI σ2 5 2 (σ2.1 5 2 ||| (nI 1 <<< (nI i &&& 31)))) 5 C kind st cd op num := hr1.off (by rw [sI_get, if_neg (by simp), (hO2.1 5 (by decide)).1]) (fun j a c => by funext z; rw [sI_get, if_neg (by omega), (hO2.1 _ (by simp; omega)).1])
            have hc3 : codeAt (sI σ2 5 2 (σ2.1 5 2 ||| (nI 1 <<< (nI i &&& 31)))) 5 op num F (st i) (cd i) := codeAt_of hr3 hk (fun w hw => by rw [sI_get, if_neg (by simp), (hO2.1 29 (by decide)).1, (hO.1 29 (by decide)).1]; exact hF w hw) h7 hb.2.2.1
            refine g_aload_0 (pc := 45) X dX9_workOthers_45 ?_
            refine g_getRf (pc := 46) X dX9_workOthers_46 fl_X9_9 rfl (by decide) rfl (by first | exact hR1 | exact hO2.2.trans hR1 | exact hO3.2.trans (hO2.2.trans hR1)) rfl ?_
            refine g_iload_2 (pc := 49) X dX9_workOthers_49 ?_
            refine g_iaload_n (pc := 50) X dX9_workOthers_50 rfl (by decide) (rfl) (by omega) ?_
            rw [sI_get, if_neg (by simp), (hO2.1 6 (by decide)).1, (hr1.2.1 i h7).1]
            refine g_bipush (pc := 51) X dX9_workOthers_51 kbipush_m11 ?_
            refine g_icmp_ne (pc := 53) X dX9_workOthers_53 (tgt := 64) (by decide) (fun h53 => ?_) (fun h53 => ?_)
            · have h2k : ¬ kind i = 2 := fun z => h53 ((sortC_is hb.1).2.1.mpr z)
              refine g_aload_0 (pc := 64) X dX9_workOthers_64 ?_
              refine g_aload_0 (pc := 65) X dX9_workOthers_65 ?_
              refine g_getRf (pc := 66) X dX9_workOthers_66 fl_X9_15 rfl (by decide) rfl (by first | exact hR1 | exact hO2.2.trans hR1 | exact hO3.2.trans (hO2.2.trans hR1)) rfl ?_
              refine g_iload_2 (pc := 69) X dX9_workOthers_69 ?_
              refine g_iaload_n (pc := 70) X dX9_workOthers_70 rfl (by decide) (rfl) (by omega) ?_
              rw [sI_get, if_neg (by simp), (hO2.1 7 (by decide)).1, hr1.2.2.1 (by omega) i (by omega)]
              refine g_aload_0 (pc := 71) X dX9_workOthers_71 ?_
              refine g_getRf (pc := 72) X dX9_workOthers_72 fl_X9_18 rfl (by decide) rfl (by first | exact hR1 | exact hO2.2.trans hR1 | exact hO3.2.trans (hO2.2.trans hR1)) rfl ?_
              refine g_iload_2 (pc := 75) X dX9_workOthers_75 ?_
              refine g_iaload_n (pc := 76) X dX9_workOthers_76 rfl (by decide) (rfl) (by omega) ?_
              rw [sI_get, if_neg (by simp), (hO2.1 8 (by decide)).1, (hr1.2.1 i h7).2]
              refine g_aload_1 (pc := 77) X dX9_workOthers_77 ?_
              refine g_callV_I (pc := 78) X Y dX9_workOthers_78 miX9_work li_X9_71 (s_work5 (σ := (sI σ2 5 2 (σ2.1 5 2 ||| (nI 1 <<< (nI i &&& 31))))) (F := F) (num := num) (hO2.2.trans hR1) hb.2.1 (by omega) hc3 (hb.2.2.2.1 (by omega))) rfl (by decide) rfl ⟨_, rfl⟩ rfl ⟨Nat.le_of_ble_eq_true rfl, Nat.le_of_ble_eq_true rfl⟩ (Nat.le_of_ble_eq_true rfl) (Nat.le_of_ble_eq_true rfl) rfl (Nat.le_of_ble_eq_true rfl) (fun x9 σ3 hp => ?_)
              obtain ⟨rfl, hO3⟩ := hp
              rw [val_any (hb.2.2.2.1 (by omega))]
              refine g_istore_3 (pc := 81) X dX9_workOthers_81 (by decide) rfl ?_
              refine g_aload_0 (pc := 82) X dX9_workOthers_82 ?_
              refine g_aload_0 (pc := 83) X dX9_workOthers_83 ?_
              refine g_getRf (pc := 84) X dX9_workOthers_84 fl_X9_9 rfl (by decide) rfl (by first | exact hR1 | exact hO2.2.trans hR1 | exact hO3.2.trans (hO2.2.trans hR1)) rfl ?_
              refine g_iload_2 (pc := 87) X dX9_workOthers_87 ?_
              refine g_iaload_n (pc := 88) X dX9_workOthers_88 rfl (by decide) (rfl) (by omega) ?_
              rw [(hO3.1 6 (by decide)).1]
              rw [sI_get, if_neg (by simp), (hO2.1 6 (by decide)).1, (hr1.2.1 i h7).1]
              refine g_bipush (pc := 89) X dX9_workOthers_89 kbipush_m9 ?_
              apply g_val (v := .int (if kind i = 0 then vSum F num kind st cd op i + valE F num op (st i) (cd i) else vSum F num kind st cd op i - valE F num op (st i) (cd i))) (pcJ := 109)
              · intro T9
                refine g_icmp_ne (pc := 91) X dX9_workOthers_91 (tgt := 103) (by decide) (fun h91 => ?_) (fun h91 => ?_)
                · refine g_aload_0 (pc := 103) X dX9_workOthers_103 ?_
                  refine g_getI (pc := 104) X dX9_workOthers_104 rfl (by decide) fl_X9_37 (Or.inl rfl) ?_
                  refine g_iload_3 (pc := 107) X dX9_workOthers_107 ?_
                  refine g_isub (pc := 108) X dX9_workOthers_108 ?_
                  exact T9 _ (by
                    have w1 := (sortC_is hb.1).2.2
                    have w2 : σ3.1 5 1 = vSum F num kind st cd op i := by rw [(hO3.1 5 (by decide)).1, sI_get, if_neg (by simp), (hO2.1 5 (by decide)).1, hve]
                    simp_all)
                · refine g_aload_0 (pc := 94) X dX9_workOthers_94 ?_
                  refine g_getI (pc := 95) X dX9_workOthers_95 rfl (by decide) fl_X9_37 (Or.inl rfl) ?_
                  refine g_iload_3 (pc := 98) X dX9_workOthers_98 ?_
                  first | refine g_iadd_n (pc := 99) X dX9_workOthers_99 ?_ | refine g_iadd (pc := 99) X dX9_workOthers_99 ?_
                  refine g_goto (pc := 100) X dX9_workOthers_100 (tgt := 109) (by decide) ?_
                  exact T9 _ (by
                    have w1 := (sortC_is hb.1).2.2
                    have w2 : σ3.1 5 1 = vSum F num kind st cd op i := by rw [(hO3.1 5 (by decide)).1, sI_get, if_neg (by simp), (hO2.1 5 (by decide)).1, hve]
                    simp_all)
              · refine g_putI (pc := 109) X dX9_workOthers_109 fl_X9_37 rfl (by decide) rfl rfl ?_
                have ev : kind i = 0 ∨ kind i = 1 := by have := hb.1; omega
                refine g_iinc_2_n (pc := 112) X dX9_workOthers_112 (by decide) rfl ?_
                refine g_goto (pc := 115) X dX9_workOthers_115 (tgt := 2) (by decide) ?_
                exact g_drop (by simp [lsub]) (ihhL (i + 1) (by omega) (by omega) _ ((((hO.trans (hO2.mono (by simp))).i (k := 5) (j := 2) (by simp)).trans (hO3.mono (by simp))).i (k := 5) (j := 1) (by simp)) (fun j a b c => by rw [sI_get, if_neg (by simp [a]), (hO3.1 5 (by decide)).1, sI_get, if_neg (by simp [b]), (hO2.1 5 (by decide)).1]; exact h2 j a b c) (by rw [sI_get, if_neg (by simp), (hO3.1 5 (by decide)).1, sI_get, if_pos ⟨rfl, rfl⟩]; exact e2) (by rw [sI_get, if_neg (by simp), (hO3.1 5 (by decide)).1, sI_get, if_neg (by simp), (hO2.1 5 (by decide)).1, hne, anyB]; simp [h2k]) (by rw [sI_get, if_pos ⟨rfl, rfl⟩, vSum]; rcases ev with ev | ev <;> simp [h27, ev]))
            · have h2k : kind i = 2 := (sortC_is hb.1).2.1.mp h53
              refine g_aload_0 (pc := 56) X dX9_workOthers_56 ?_
              refine g_iconst (pc := 57) X dX9_workOthers_57 kiconst_1 ?_
              refine g_putZ (pc := 58) X dX9_workOthers_58 fl_X9_43 rfl (by decide) rfl rfl (by first | exact Or.inl rfl | exact Or.inr rfl | exact zI_01 _) ?_
              refine g_goto (pc := 61) X dX9_workOthers_61 (tgt := 112) (by decide) ?_
              refine g_iinc_2_n (pc := 112) X dX9_workOthers_112 (by decide) rfl ?_
              refine g_goto (pc := 115) X dX9_workOthers_115 (tgt := 2) (by decide) ?_
              exact g_drop (by simp [lsub]) (ihhL (i + 1) (by omega) (by omega) _ (((hO.trans (hO2.mono (by simp))).i (k := 5) (j := 2) (by simp)).i (k := 5) (j := 3) (by simp)) (fun j a b c => by rw [sI_get, if_neg (by simp [c]), sI_get, if_neg (by simp [b]), (hO2.1 5 (by decide)).1]; exact h2 j a b c) (by rw [sI_get, if_neg (by simp), sI_get, if_pos ⟨rfl, rfl⟩]; exact e2) (by rw [sI_get, if_pos ⟨rfl, rfl⟩, anyB]; simp [h27, h2k, zI]) (by rw [sI_get, if_neg (by simp), sI_get, if_neg (by simp), (hO2.1 5 (by decide)).1, hve, vSum]; simp [h27, h2k]))
          · refine g_goto (pc := 30) X dX9_workOthers_30 (tgt := 112) (by decide) ?_
            refine g_iinc_2_n (pc := 112) X dX9_workOthers_112 (by decide) rfl ?_
            refine g_goto (pc := 115) X dX9_workOthers_115 (tgt := 2) (by decide) ?_
            exact g_drop (by simp [lsub]) (ihhL (i + 1) (by omega) (by omega) σ2 (hO.trans (hO2.mono (by simp))) (fun j a b c => by rw [(hO2.1 5 (by decide)).1]; exact h2 j a b c) (by rw [(hO2.1 5 (by decide)).1]; rw [hre, orBits]; simp [h27]) (by rw [(hO2.1 5 (by decide)).1]; rw [hne, anyB]; simp [h27]) (by rw [(hO2.1 5 (by decide)).1]; rw [hve, vSum]; simp [h27]))
  refine g_iconst (pc := 0) X dX9_workOthers_0 kiconst_0 ?_
  refine g_istore_2 (pc := 1) X dX9_workOthers_1 (by decide) rfl ?_
  exact hL (C + 1) 0 (by omega) (by omega) σ Off.rf (fun _ _ _ _ => rfl) (by rw [orBits, nI_0, Int32.or_zero]) h1 h0
set_option maxHeartbeats 4000000 in
theorem s_others17 {o : gOm} {l : Launch} {σ : gSt} {b : Bool} (hR : σ.2.2 = gRf b) {C : Nat} {kind st cd op : Nat → Nat} {num F : Nat → Int32} (hr : rulesAt σ 17 C kind st cd op num) (hk : rulesOK C kind st cd op) (hF : ∀ w, w < 6 → σ.1 29 w = F (w + 1)) (h0 : σ.1 17 1 = nI 0) (h1 : σ.1 17 3 = nI 0) : Sp o l mX9_workOthers 4 0 0 [.ref (ad o 17), .ref (ad o 29)] 116 116 σ (pV (fun σ1 => Off [17, 23] σ σ1 ∧ (∀ j, j ≠ 1 → j ≠ 2 → j ≠ 3 → σ1.1 17 j = σ.1 17 j) ∧ σ1.1 17 2 = σ.1 17 2 ||| orBits (fun j => apl F num st cd op j && decide (kind j ≠ 3)) C ∧ σ1.1 17 3 = zI (anyB (fun j => apl F num st cd op j && decide (kind j = 2)) C) ∧ σ1.1 17 1 = vSum F num kind st cd op C)) := by
  refine Sp.of (ls0 := [some (.ref (ad o 17)), some (.ref (ad o 29)), none, none]) miX9_workOthers rfl (Nat.le_of_ble_eq_true rfl) rfl (fun γ hγ hnm X Y => ?_)
  subst hγ
  have X : gX o γ cX9_workOthers 4 RX9 := X
  have hC := hk.1
  have hL : ∀ (m i : Nat), i ≤ C → C + 1 ≤ i + m → ∀ σ1 : gSt, Off [17, 23] σ σ1 → (∀ j, j ≠ 1 → j ≠ 2 → j ≠ 3 → σ1.1 17 j = σ.1 17 j) → σ1.1 17 2 = σ.1 17 2 ||| orBits (fun j => apl F num st cd op j && decide (kind j ≠ 3)) i → σ1.1 17 3 = zI (anyB (fun j => apl F num st cd op j && decide (kind j = 2)) i) → σ1.1 17 1 = vSum F num kind st cd op i → G o γ 0 0 116 σ1 2 [some (.ref (ad o 17)), some (.ref (ad o 29)), some (.int (nI i)), none] [] := by
    intro m
    induction m with
    | zero => intro i q1 q2; omega
    | succ m ihhL =>
      intro i q1 q2 σ1 hO h2 hre hne hve
      have hR1 := hO.2.trans hR
      have hr1 : rulesAt σ1 17 C kind st cd op num := hr.off (h2 0 (by decide) (by decide) (by decide)) (fun j q1 q2 => (hO.1 _ (by simp; omega)).1)
      refine g_iload_2 (pc := 2) X dX9_workOthers_2 ?_
      refine g_aload_0 (pc := 3) X dX9_workOthers_3 ?_
      refine g_getI (pc := 4) X dX9_workOthers_4 rfl (by decide) fl_X9_30 (Or.inl rfl) ?_
      rw [hr1.1]
      first | refine g_icmp_ge_n (pc := 7) X dX9_workOthers_7 (tgt := 118) (by decide) (by omega) (by omega) (fun h7 => ?_) (fun h7 => ?_) | refine g_icmp_ge (pc := 7) X dX9_workOthers_7 (tgt := 118) (by decide) (fun h7 => ?_) (fun h7 => ?_)
      · exact g_return (pc := 118) X Y dX9_workOthers_118 (Nat.le_of_ble_eq_true rfl) (Nat.le_of_ble_eq_true rfl) (by obtain rfl : i = C := (by omega); exact ⟨rfl, hO, h2, hre, hne, hve⟩)
      · have hb := hk.2.1 i h7
        have hle := hk.le (i := i + 1) (by omega) (by omega)
        refine g_aload_0 (pc := 10) X dX9_workOthers_10 ?_
        refine g_getRf (pc := 11) X dX9_workOthers_11 fl_X9_9 rfl (by decide) rfl (by first | exact hR1 | exact hO2.2.trans hR1 | exact hO3.2.trans (hO2.2.trans hR1)) rfl ?_
        refine g_iload_2 (pc := 14) X dX9_workOthers_14 ?_
        refine g_iaload_n (pc := 15) X dX9_workOthers_15 rfl (by decide) (rfl) (by omega) ?_
        rw [(hr1.2.1 i h7).1]
        refine g_bipush (pc := 16) X dX9_workOthers_16 kbipush_m12 ?_
        refine g_icmp_eq (pc := 18) X dX9_workOthers_18 (tgt := 112) (by decide) (fun h18 => ?_) (fun h18 => ?_)
        · have h3k : kind i = 3 := (sortC_is hb.1).1.mp h18
          refine g_iinc_2_n (pc := 112) X dX9_workOthers_112 (by decide) rfl ?_
          refine g_goto (pc := 115) X dX9_workOthers_115 (tgt := 2) (by decide) ?_
          exact g_drop (by simp [lsub]) (ihhL (i + 1) (by omega) (by omega) σ1 hO h2 (by rw [hre, orBits]; simp [h3k]) (by rw [hne, anyB]; simp [h3k]) (by rw [hve, vSum]; simp [h3k]))
        · have h3k : ¬ kind i = 3 := fun z => h18 ((sortC_is hb.1).1.mpr z)
          refine g_aload_0 (pc := 21) X dX9_workOthers_21 ?_
          refine g_iload_2 (pc := 22) X dX9_workOthers_22 ?_
          refine g_aload_1 (pc := 23) X dX9_workOthers_23 ?_
          refine g_callV_I (pc := 24) X Y dX9_workOthers_24 miX9_applies li_X9_67 (s_applies17 (hO.2.trans hR) hr1 hk (fun w hw => by rw [(hO.1 29 (by decide)).1]; exact hF w hw) i h7) rfl (by decide) rfl ⟨_, rfl⟩ rfl ⟨Nat.le_of_ble_eq_true rfl, Nat.le_of_ble_eq_true rfl⟩ (Nat.le_of_ble_eq_true rfl) (Nat.le_of_ble_eq_true rfl) rfl (Nat.le_of_ble_eq_true rfl) (fun x9 σ2 hp => ?_)
          obtain ⟨rfl, hO2⟩ := hp
          first | refine g_if_ne_z (pc := 27) X dX9_workOthers_27 (tgt := 33) (by decide) (fun h27 => ?_) (fun h27 => ?_) | refine g_if_ne (pc := 27) X dX9_workOthers_27 (tgt := 33) (by decide) (fun h27 => ?_) (fun h27 => ?_)
          · refine g_aload_0 (pc := 33) X dX9_workOthers_33 ?_
            refine g_dup (pc := 34) X dX9_workOthers_34 rfl ?_
            refine g_getI (pc := 35) X dX9_workOthers_35 rfl (by decide) fl_X9_40 (Or.inl rfl) ?_
            refine g_iconst (pc := 38) X dX9_workOthers_38 kiconst_1 ?_
            refine g_iload_2 (pc := 39) X dX9_workOthers_39 ?_
            refine g_ishl (pc := 40) X dX9_workOthers_40 ?_
            refine g_ior (pc := 41) X dX9_workOthers_41 ?_
            refine g_putI (pc := 42) X dX9_workOthers_42 fl_X9_40 rfl (by decide) rfl rfl ?_
            have e2 : (σ2.1 17 2 ||| (nI 1 <<< (nI i &&& 31))) = σ.1 17 2 ||| orBits (fun j => apl F num st cd op j && decide (kind j ≠ 3)) (i + 1) := by
              rw [(hO2.1 17 (by decide)).1, hre, orBits, if_pos (by simp [h27, h3k]), Int32.or_assoc]
            have hr3 : rulesAt (sI σ2 17 2 (σ2.1 17 2 ||| (nI 1 <<< (nI i &&& 31)))) 17 C kind st cd op num := hr1.off (by rw [sI_get, if_neg (by simp), (hO2.1 17 (by decide)).1]) (fun j a c => by funext z; rw [sI_get, if_neg (by omega), (hO2.1 _ (by simp; omega)).1])
            have hc3 : codeAt (sI σ2 17 2 (σ2.1 17 2 ||| (nI 1 <<< (nI i &&& 31)))) 17 op num F (st i) (cd i) := codeAt_of hr3 hk (fun w hw => by rw [sI_get, if_neg (by simp), (hO2.1 29 (by decide)).1, (hO.1 29 (by decide)).1]; exact hF w hw) h7 hb.2.2.1
            refine g_aload_0 (pc := 45) X dX9_workOthers_45 ?_
            refine g_getRf (pc := 46) X dX9_workOthers_46 fl_X9_9 rfl (by decide) rfl (by first | exact hR1 | exact hO2.2.trans hR1 | exact hO3.2.trans (hO2.2.trans hR1)) rfl ?_
            refine g_iload_2 (pc := 49) X dX9_workOthers_49 ?_
            refine g_iaload_n (pc := 50) X dX9_workOthers_50 rfl (by decide) (rfl) (by omega) ?_
            rw [sI_get, if_neg (by simp), (hO2.1 18 (by decide)).1, (hr1.2.1 i h7).1]
            refine g_bipush (pc := 51) X dX9_workOthers_51 kbipush_m11 ?_
            refine g_icmp_ne (pc := 53) X dX9_workOthers_53 (tgt := 64) (by decide) (fun h53 => ?_) (fun h53 => ?_)
            · have h2k : ¬ kind i = 2 := fun z => h53 ((sortC_is hb.1).2.1.mpr z)
              refine g_aload_0 (pc := 64) X dX9_workOthers_64 ?_
              refine g_aload_0 (pc := 65) X dX9_workOthers_65 ?_
              refine g_getRf (pc := 66) X dX9_workOthers_66 fl_X9_15 rfl (by decide) rfl (by first | exact hR1 | exact hO2.2.trans hR1 | exact hO3.2.trans (hO2.2.trans hR1)) rfl ?_
              refine g_iload_2 (pc := 69) X dX9_workOthers_69 ?_
              refine g_iaload_n (pc := 70) X dX9_workOthers_70 rfl (by decide) (rfl) (by omega) ?_
              rw [sI_get, if_neg (by simp), (hO2.1 19 (by decide)).1, hr1.2.2.1 (by omega) i (by omega)]
              refine g_aload_0 (pc := 71) X dX9_workOthers_71 ?_
              refine g_getRf (pc := 72) X dX9_workOthers_72 fl_X9_18 rfl (by decide) rfl (by first | exact hR1 | exact hO2.2.trans hR1 | exact hO3.2.trans (hO2.2.trans hR1)) rfl ?_
              refine g_iload_2 (pc := 75) X dX9_workOthers_75 ?_
              refine g_iaload_n (pc := 76) X dX9_workOthers_76 rfl (by decide) (rfl) (by omega) ?_
              rw [sI_get, if_neg (by simp), (hO2.1 20 (by decide)).1, (hr1.2.1 i h7).2]
              refine g_aload_1 (pc := 77) X dX9_workOthers_77 ?_
              refine g_callV_I (pc := 78) X Y dX9_workOthers_78 miX9_work li_X9_71 (s_work17 (σ := (sI σ2 17 2 (σ2.1 17 2 ||| (nI 1 <<< (nI i &&& 31))))) (F := F) (num := num) (hO2.2.trans hR1) hb.2.1 (by omega) hc3 (hb.2.2.2.1 (by omega))) rfl (by decide) rfl ⟨_, rfl⟩ rfl ⟨Nat.le_of_ble_eq_true rfl, Nat.le_of_ble_eq_true rfl⟩ (Nat.le_of_ble_eq_true rfl) (Nat.le_of_ble_eq_true rfl) rfl (Nat.le_of_ble_eq_true rfl) (fun x9 σ3 hp => ?_)
              obtain ⟨rfl, hO3⟩ := hp
              rw [val_any (hb.2.2.2.1 (by omega))]
              refine g_istore_3 (pc := 81) X dX9_workOthers_81 (by decide) rfl ?_
              refine g_aload_0 (pc := 82) X dX9_workOthers_82 ?_
              refine g_aload_0 (pc := 83) X dX9_workOthers_83 ?_
              refine g_getRf (pc := 84) X dX9_workOthers_84 fl_X9_9 rfl (by decide) rfl (by first | exact hR1 | exact hO2.2.trans hR1 | exact hO3.2.trans (hO2.2.trans hR1)) rfl ?_
              refine g_iload_2 (pc := 87) X dX9_workOthers_87 ?_
              refine g_iaload_n (pc := 88) X dX9_workOthers_88 rfl (by decide) (rfl) (by omega) ?_
              rw [(hO3.1 18 (by decide)).1]
              rw [sI_get, if_neg (by simp), (hO2.1 18 (by decide)).1, (hr1.2.1 i h7).1]
              refine g_bipush (pc := 89) X dX9_workOthers_89 kbipush_m9 ?_
              apply g_val (v := .int (if kind i = 0 then vSum F num kind st cd op i + valE F num op (st i) (cd i) else vSum F num kind st cd op i - valE F num op (st i) (cd i))) (pcJ := 109)
              · intro T9
                refine g_icmp_ne (pc := 91) X dX9_workOthers_91 (tgt := 103) (by decide) (fun h91 => ?_) (fun h91 => ?_)
                · refine g_aload_0 (pc := 103) X dX9_workOthers_103 ?_
                  refine g_getI (pc := 104) X dX9_workOthers_104 rfl (by decide) fl_X9_37 (Or.inl rfl) ?_
                  refine g_iload_3 (pc := 107) X dX9_workOthers_107 ?_
                  refine g_isub (pc := 108) X dX9_workOthers_108 ?_
                  exact T9 _ (by
                    have w1 := (sortC_is hb.1).2.2
                    have w2 : σ3.1 17 1 = vSum F num kind st cd op i := by rw [(hO3.1 17 (by decide)).1, sI_get, if_neg (by simp), (hO2.1 17 (by decide)).1, hve]
                    simp_all)
                · refine g_aload_0 (pc := 94) X dX9_workOthers_94 ?_
                  refine g_getI (pc := 95) X dX9_workOthers_95 rfl (by decide) fl_X9_37 (Or.inl rfl) ?_
                  refine g_iload_3 (pc := 98) X dX9_workOthers_98 ?_
                  first | refine g_iadd_n (pc := 99) X dX9_workOthers_99 ?_ | refine g_iadd (pc := 99) X dX9_workOthers_99 ?_
                  refine g_goto (pc := 100) X dX9_workOthers_100 (tgt := 109) (by decide) ?_
                  exact T9 _ (by
                    have w1 := (sortC_is hb.1).2.2
                    have w2 : σ3.1 17 1 = vSum F num kind st cd op i := by rw [(hO3.1 17 (by decide)).1, sI_get, if_neg (by simp), (hO2.1 17 (by decide)).1, hve]
                    simp_all)
              · refine g_putI (pc := 109) X dX9_workOthers_109 fl_X9_37 rfl (by decide) rfl rfl ?_
                have ev : kind i = 0 ∨ kind i = 1 := by have := hb.1; omega
                refine g_iinc_2_n (pc := 112) X dX9_workOthers_112 (by decide) rfl ?_
                refine g_goto (pc := 115) X dX9_workOthers_115 (tgt := 2) (by decide) ?_
                exact g_drop (by simp [lsub]) (ihhL (i + 1) (by omega) (by omega) _ ((((hO.trans (hO2.mono (by simp))).i (k := 17) (j := 2) (by simp)).trans (hO3.mono (by simp))).i (k := 17) (j := 1) (by simp)) (fun j a b c => by rw [sI_get, if_neg (by simp [a]), (hO3.1 17 (by decide)).1, sI_get, if_neg (by simp [b]), (hO2.1 17 (by decide)).1]; exact h2 j a b c) (by rw [sI_get, if_neg (by simp), (hO3.1 17 (by decide)).1, sI_get, if_pos ⟨rfl, rfl⟩]; exact e2) (by rw [sI_get, if_neg (by simp), (hO3.1 17 (by decide)).1, sI_get, if_neg (by simp), (hO2.1 17 (by decide)).1, hne, anyB]; simp [h2k]) (by rw [sI_get, if_pos ⟨rfl, rfl⟩, vSum]; rcases ev with ev | ev <;> simp [h27, ev]))
            · have h2k : kind i = 2 := (sortC_is hb.1).2.1.mp h53
              refine g_aload_0 (pc := 56) X dX9_workOthers_56 ?_
              refine g_iconst (pc := 57) X dX9_workOthers_57 kiconst_1 ?_
              refine g_putZ (pc := 58) X dX9_workOthers_58 fl_X9_43 rfl (by decide) rfl rfl (by first | exact Or.inl rfl | exact Or.inr rfl | exact zI_01 _) ?_
              refine g_goto (pc := 61) X dX9_workOthers_61 (tgt := 112) (by decide) ?_
              refine g_iinc_2_n (pc := 112) X dX9_workOthers_112 (by decide) rfl ?_
              refine g_goto (pc := 115) X dX9_workOthers_115 (tgt := 2) (by decide) ?_
              exact g_drop (by simp [lsub]) (ihhL (i + 1) (by omega) (by omega) _ (((hO.trans (hO2.mono (by simp))).i (k := 17) (j := 2) (by simp)).i (k := 17) (j := 3) (by simp)) (fun j a b c => by rw [sI_get, if_neg (by simp [c]), sI_get, if_neg (by simp [b]), (hO2.1 17 (by decide)).1]; exact h2 j a b c) (by rw [sI_get, if_neg (by simp), sI_get, if_pos ⟨rfl, rfl⟩]; exact e2) (by rw [sI_get, if_pos ⟨rfl, rfl⟩, anyB]; simp [h27, h2k, zI]) (by rw [sI_get, if_neg (by simp), sI_get, if_neg (by simp), (hO2.1 17 (by decide)).1, hve, vSum]; simp [h27, h2k]))
          · refine g_goto (pc := 30) X dX9_workOthers_30 (tgt := 112) (by decide) ?_
            refine g_iinc_2_n (pc := 112) X dX9_workOthers_112 (by decide) rfl ?_
            refine g_goto (pc := 115) X dX9_workOthers_115 (tgt := 2) (by decide) ?_
            exact g_drop (by simp [lsub]) (ihhL (i + 1) (by omega) (by omega) σ2 (hO.trans (hO2.mono (by simp))) (fun j a b c => by rw [(hO2.1 17 (by decide)).1]; exact h2 j a b c) (by rw [(hO2.1 17 (by decide)).1]; rw [hre, orBits]; simp [h27]) (by rw [(hO2.1 17 (by decide)).1]; rw [hne, anyB]; simp [h27]) (by rw [(hO2.1 17 (by decide)).1]; rw [hve, vSum]; simp [h27]))
  refine g_iconst (pc := 0) X dX9_workOthers_0 kiconst_0 ?_
  refine g_istore_2 (pc := 1) X dX9_workOthers_1 (by decide) rfl ?_
  exact hL (C + 1) 0 (by omega) (by omega) σ Off.rf (fun _ _ _ _ => rfl) (by rw [orBits, nI_0, Int32.or_zero]) h1 h0
