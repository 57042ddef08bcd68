def sortC (kind : Nat) : Int32 := if kind = 0 then -9 else if kind = 1 then -10 else if kind = 2 then -11 else -12
/-- the object k of class Rules holds these clauses -/
def rulesAt (σ : gSt) (k C : Nat) (kind st cd op : Nat → Nat) (num : Nat → Int32) : Prop := σ.1 k 0 = nI C ∧ (∀ i, i < C → σ.1 (k + 1) i = sortC (kind i) ∧ σ.1 (k + 3) i = nI (cd i)) ∧ (0 < C → ∀ i, i ≤ C → σ.1 (k + 2) i = nI (st i)) ∧ (∀ j, 0 < C → j < st C → σ.1 (k + 4) j = nI (opC (op j)) ∧ op j ≤ 18 ∧ σ.1 (k + 5) j = num j)
theorem codeAt_of {σ : gSt} {k C i f t : Nat} {kind st cd op : Nat → Nat} {num F : Nat → Int32} (h : rulesAt σ k C kind st cd op num) (hk : rulesOK C kind st cd op) (hF : ∀ w, w < 6 → σ.1 29 w = F (w + 1)) (hi : i < C) (ht : t ≤ st (i + 1)) : codeAt σ k op num F f t := by
  refine ⟨fun j h1 h2 => ?_, hF⟩
  have h3 := hk.mono (C - (i + 1)) (i + 1) (by omega)
  rw [show i + 1 + (C - (i + 1)) = C by omega] at h3
  exact h.2.2.2 j (by omega) (by omega)
theorem rulesAt.off {σ σ1 : gSt} {k C : Nat} {kind st cd op : Nat → Nat} {num : Nat → Int32} (h : rulesAt σ k C kind st cd op num) (h0 : σ1.1 k 0 = σ.1 k 0) (h1 : ∀ j, 1 ≤ j → j ≤ 5 → σ1.1 (k + j) = σ.1 (k + j)) : rulesAt σ1 k C kind st cd op num := by
  refine ⟨h0.trans h.1, fun i hi => ?_, fun hC i hi => ?_, fun j hC hj => ?_⟩
  · rw [h1 1 (by omega) (by omega), h1 3 (by omega) (by omega)]; exact h.2.1 i hi
  · rw [h1 2 (by omega) (by omega)]; exact h.2.2.1 hC i hi
  · rw [h1 4 (by omega) (by omega), h1 5 (by omega) (by omega)]; exact h.2.2.2 j hC hj
set_option maxHeartbeats 4000000 in
theorem s_applies5 {o : gOm} {l : Launch} {σ : gSt} {b : Bool} (hR : σ.2.2 = gRf b) {C : Nat} {kind st cd op : Nat → Nat} {num F : Nat → Int32} (hr : rulesAt σ 5 C kind st cd op num) (hk : rulesOK C kind st cd op) (hF : ∀ w, w < 6 → σ.1 29 w = F (w + 1)) (i : Nat) (hi : i < C) : Sp o l mX9_applies 3 0 0 [.ref (ad o 5), .int (nI i), .ref (ad o 29)] 116 116 σ (pI (fun x σ1 => x = zI (apl F num st cd op i) ∧ Off [11] σ σ1)) := by
  refine Sp.of (ls0 := [some (.ref (ad o 5)), some (.int (nI i)), some (.ref (ad o 29)), none]) miX9_applies rfl (Nat.le_of_ble_eq_true rfl) rfl (fun γ hγ hnm X Y => ?_)
  subst hγ
  have X : gX o γ cX9_applies 4 RX9 := X
  have hb := hk.2.1 i hi
  have hle := hk.le (i := i + 1) (by omega) (by omega)
  have hC := hk.1
  refine g_aload_0 (pc := 0) X dX9_applies_0 ?_
  refine g_getRf (pc := 1) X dX9_applies_1 fl_X9_18 rfl (by decide) rfl hR rfl ?_
  refine g_iload_1 (pc := 4) X dX9_applies_4 ?_
  refine g_iaload_n (pc := 5) X dX9_applies_5 rfl (by decide) (rfl) (by omega) ?_
  rw [(hr.2.1 i hi).2]
  refine g_aload_0 (pc := 6) X dX9_applies_6 ?_
  refine g_getRf (pc := 7) X dX9_applies_7 fl_X9_15 rfl (by decide) rfl hR rfl ?_
  refine g_iload_1 (pc := 10) X dX9_applies_10 ?_
  refine g_iconst (pc := 11) X dX9_applies_11 kiconst_1 ?_
  first | refine g_iadd_n (pc := 12) X dX9_applies_12 ?_ | refine g_iadd (pc := 12) X dX9_applies_12 ?_
  refine g_iaload_n (pc := 13) X dX9_applies_13 rfl (by decide) (rfl) (by omega) ?_
  rw [hr.2.2.1 (by omega) (i + 1) (by omega)]
  apply g_val (v := .int (zI (decide (cd i = st (i + 1))))) (pcJ := 22)
  · intro T9
    first | refine g_icmp_ne_n (pc := 14) X dX9_applies_14 (tgt := 21) (by decide) (by omega) (by omega) (fun h14 => ?_) (fun h14 => ?_) | refine g_icmp_ne (pc := 14) X dX9_applies_14 (tgt := 21) (by decide) (fun h14 => ?_) (fun h14 => ?_)
    · refine g_iconst (pc := 21) X dX9_applies_21 kiconst_0 ?_
      exact T9 _ (by simp_all [zI])
    · refine g_iconst (pc := 17) X dX9_applies_17 kiconst_1 ?_
      refine g_goto (pc := 18) X dX9_applies_18 (tgt := 22) (by decide) ?_
      exact T9 _ (by simp_all [zI])
  · refine g_istore_3 (pc := 22) X dX9_applies_22 (by decide) rfl ?_
    refine g_iload_3 (pc := 23) X dX9_applies_23 ?_
    first | refine g_if_ne_z (pc := 24) X dX9_applies_24 (tgt := 49) (by decide) (fun h24 => ?_) (fun h24 => ?_) | refine g_if_ne (pc := 24) X dX9_applies_24 (tgt := 49) (by decide) (fun h24 => ?_) (fun h24 => ?_)
    · refine g_iconst (pc := 49) X dX9_applies_49 kiconst_1 ?_
      refine g_goto (pc := 50) X dX9_applies_50 (tgt := 54) (by decide) ?_
      exact g_zreturn (pc := 54) X Y dX9_applies_54 (by first | exact Or.inl rfl | exact Or.inr rfl | exact zI_01 _) (Nat.le_of_ble_eq_true rfl) (Nat.le_of_ble_eq_true rfl) (by first | exact ⟨_, rfl, by rcases hv with hv | hv <;> simp_all [apl, zI], hO⟩ | exact ⟨_, rfl, by simp_all [apl, zI], Off.rf⟩)
    · have hc2 : tyN op (st (i + 1) - cd i) (cd i) [] = some [true] := by
        rcases hb.2.2.2.2 with q | q
        · simp [q] at h24
        · exact q
      refine g_aload_0 (pc := 27) X dX9_applies_27 ?_
      refine g_aload_0 (pc := 28) X dX9_applies_28 ?_
      refine g_getRf (pc := 29) X dX9_applies_29 fl_X9_18 rfl (by decide) rfl hR rfl ?_
      refine g_iload_1 (pc := 32) X dX9_applies_32 ?_
      refine g_iaload_n (pc := 33) X dX9_applies_33 rfl (by decide) (rfl) (by omega) ?_
      rw [(hr.2.1 i hi).2]
      refine g_aload_0 (pc := 34) X dX9_applies_34 ?_
      refine g_getRf (pc := 35) X dX9_applies_35 fl_X9_15 rfl (by decide) rfl hR rfl ?_
      refine g_iload_1 (pc := 38) X dX9_applies_38 ?_
      refine g_iconst (pc := 39) X dX9_applies_39 kiconst_1 ?_
      first | refine g_iadd_n (pc := 40) X dX9_applies_40 ?_ | refine g_iadd (pc := 40) X dX9_applies_40 ?_
      refine g_iaload_n (pc := 41) X dX9_applies_41 rfl (by decide) (rfl) (by omega) ?_
      rw [hr.2.2.1 (by omega) (i + 1) (by omega)]
      refine g_aload_2 (pc := 42) X dX9_applies_42 ?_
      refine g_callV_I (pc := 43) X Y dX9_applies_43 miX9_work li_X9_71 (s_work5 hR hb.2.2.1 hle (codeAt_of hr hk hF hi (Nat.le_refl _)) hc2) rfl (by decide) rfl ⟨_, rfl⟩ rfl ⟨Nat.le_of_ble_eq_true rfl, Nat.le_of_ble_eq_true rfl⟩ (Nat.le_of_ble_eq_true rfl) (Nat.le_of_ble_eq_true rfl) (Nat.le_of_ble_eq_true rfl) rfl (fun x9 σ1 hp => ?_)
      obtain ⟨rfl, hO⟩ := hp
      rw [val_any hc2]
      have hv := val_01 (F := F) (num := num) hc2
      refine g_if_eq (pc := 46) X dX9_applies_46 (tgt := 53) (by decide) (fun h46 => ?_) (fun h46 => ?_)
      · refine g_iconst (pc := 53) X dX9_applies_53 kiconst_0 ?_
        exact g_zreturn (pc := 54) X Y dX9_applies_54 (by first | exact Or.inl rfl | exact Or.inr rfl | exact zI_01 _) (Nat.le_of_ble_eq_true rfl) (Nat.le_of_ble_eq_true rfl) (by first | exact ⟨_, rfl, by rcases hv with hv | hv <;> simp_all [apl, zI], hO⟩ | exact ⟨_, rfl, by simp_all [apl, zI], Off.rf⟩)
      · refine g_iconst (pc := 49) X dX9_applies_49 kiconst_1 ?_
        refine g_goto (pc := 50) X dX9_applies_50 (tgt := 54) (by decide) ?_
        exact g_zreturn (pc := 54) X Y dX9_applies_54 (by first | exact Or.inl rfl | exact Or.inr rfl | exact zI_01 _) (Nat.le_of_ble_eq_true rfl) (Nat.le_of_ble_eq_true rfl) (by first | exact ⟨_, rfl, by rcases hv with hv | hv <;> simp_all [apl, zI], hO⟩ | exact ⟨_, rfl, by simp_all [apl, zI], Off.rf⟩)
set_option maxHeartbeats 4000000 in
theorem s_applies17 {o : gOm} {l : Launch} {σ : gSt} {b : Bool} (hR : σ.2.2 = gRf b) {C : Nat} {kind st cd op : Nat → Nat} {num F : Nat → Int32} (hr : rulesAt σ 17 C kind st cd op num) (hk : rulesOK C kind st cd op) (hF : ∀ w, w < 6 → σ.1 29 w = F (w + 1)) (i : Nat) (hi : i < C) : Sp o l mX9_applies 3 0 0 [.ref (ad o 17), .int (nI i), .ref (ad o 29)] 116 116 σ (pI (fun x σ1 => x = zI (apl F num st cd op i) ∧ Off [23] σ σ1)) := by
  refine Sp.of (ls0 := [some (.ref (ad o 17)), some (.int (nI i)), some (.ref (ad o 29)), none]) miX9_applies rfl (Nat.le_of_ble_eq_true rfl) rfl (fun γ hγ hnm X Y => ?_)
  subst hγ
  have X : gX o γ cX9_applies 4 RX9 := X
  have hb := hk.2.1 i hi
  have hle := hk.le (i := i + 1) (by omega) (by omega)
  have hC := hk.1
  refine g_aload_0 (pc := 0) X dX9_applies_0 ?_
  refine g_getRf (pc := 1) X dX9_applies_1 fl_X9_18 rfl (by decide) rfl hR rfl ?_
  refine g_iload_1 (pc := 4) X dX9_applies_4 ?_
  refine g_iaload_n (pc := 5) X dX9_applies_5 rfl (by decide) (rfl) (by omega) ?_
  rw [(hr.2.1 i hi).2]
  refine g_aload_0 (pc := 6) X dX9_applies_6 ?_
  refine g_getRf (pc := 7) X dX9_applies_7 fl_X9_15 rfl (by decide) rfl hR rfl ?_
  refine g_iload_1 (pc := 10) X dX9_applies_10 ?_
  refine g_iconst (pc := 11) X dX9_applies_11 kiconst_1 ?_
  first | refine g_iadd_n (pc := 12) X dX9_applies_12 ?_ | refine g_iadd (pc := 12) X dX9_applies_12 ?_
  refine g_iaload_n (pc := 13) X dX9_applies_13 rfl (by decide) (rfl) (by omega) ?_
  rw [hr.2.2.1 (by omega) (i + 1) (by omega)]
  apply g_val (v := .int (zI (decide (cd i = st (i + 1))))) (pcJ := 22)
  · intro T9
    first | refine g_icmp_ne_n (pc := 14) X dX9_applies_14 (tgt := 21) (by decide) (by omega) (by omega) (fun h14 => ?_) (fun h14 => ?_) | refine g_icmp_ne (pc := 14) X dX9_applies_14 (tgt := 21) (by decide) (fun h14 => ?_) (fun h14 => ?_)
    · refine g_iconst (pc := 21) X dX9_applies_21 kiconst_0 ?_
      exact T9 _ (by simp_all [zI])
    · refine g_iconst (pc := 17) X dX9_applies_17 kiconst_1 ?_
      refine g_goto (pc := 18) X dX9_applies_18 (tgt := 22) (by decide) ?_
      exact T9 _ (by simp_all [zI])
  · refine g_istore_3 (pc := 22) X dX9_applies_22 (by decide) rfl ?_
    refine g_iload_3 (pc := 23) X dX9_applies_23 ?_
    first | refine g_if_ne_z (pc := 24) X dX9_applies_24 (tgt := 49) (by decide) (fun h24 => ?_) (fun h24 => ?_) | refine g_if_ne (pc := 24) X dX9_applies_24 (tgt := 49) (by decide) (fun h24 => ?_) (fun h24 => ?_)
    · refine g_iconst (pc := 49) X dX9_applies_49 kiconst_1 ?_
      refine g_goto (pc := 50) X dX9_applies_50 (tgt := 54) (by decide) ?_
      exact g_zreturn (pc := 54) X Y dX9_applies_54 (by first | exact Or.inl rfl | exact Or.inr rfl | exact zI_01 _) (Nat.le_of_ble_eq_true rfl) (Nat.le_of_ble_eq_true rfl) (by first | exact ⟨_, rfl, by rcases hv with hv | hv <;> simp_all [apl, zI], hO⟩ | exact ⟨_, rfl, by simp_all [apl, zI], Off.rf⟩)
    · have hc2 : tyN op (st (i + 1) - cd i) (cd i) [] = some [true] := by
        rcases hb.2.2.2.2 with q | q
        · simp [q] at h24
        · exact q
      refine g_aload_0 (pc := 27) X dX9_applies_27 ?_
      refine g_aload_0 (pc := 28) X dX9_applies_28 ?_
      refine g_getRf (pc := 29) X dX9_applies_29 fl_X9_18 rfl (by decide) rfl hR rfl ?_
      refine g_iload_1 (pc := 32) X dX9_applies_32 ?_
      refine g_iaload_n (pc := 33) X dX9_applies_33 rfl (by decide) (rfl) (by omega) ?_
      rw [(hr.2.1 i hi).2]
      refine g_aload_0 (pc := 34) X dX9_applies_34 ?_
      refine g_getRf (pc := 35) X dX9_applies_35 fl_X9_15 rfl (by decide) rfl hR rfl ?_
      refine g_iload_1 (pc := 38) X dX9_applies_38 ?_
      refine g_iconst (pc := 39) X dX9_applies_39 kiconst_1 ?_
      first | refine g_iadd_n (pc := 40) X dX9_applies_40 ?_ | refine g_iadd (pc := 40) X dX9_applies_40 ?_
      refine g_iaload_n (pc := 41) X dX9_applies_41 rfl (by decide) (rfl) (by omega) ?_
      rw [hr.2.2.1 (by omega) (i + 1) (by omega)]
      refine g_aload_2 (pc := 42) X dX9_applies_42 ?_
      refine g_callV_I (pc := 43) X Y dX9_applies_43 miX9_work li_X9_71 (s_work17 hR hb.2.2.1 hle (codeAt_of hr hk hF hi (Nat.le_refl _)) hc2) rfl (by decide) rfl ⟨_, rfl⟩ rfl ⟨Nat.le_of_ble_eq_true rfl, Nat.le_of_ble_eq_true rfl⟩ (Nat.le_of_ble_eq_true rfl) (Nat.le_of_ble_eq_true rfl) (Nat.le_of_ble_eq_true rfl) rfl (fun x9 σ1 hp => ?_)
      obtain ⟨rfl, hO⟩ := hp
      rw [val_any hc2]
      have hv := val_01 (F := F) (num := num) hc2
      refine g_if_eq (pc := 46) X dX9_applies_46 (tgt := 53) (by decide) (fun h46 => ?_) (fun h46 => ?_)
      · refine g_iconst (pc := 53) X dX9_applies_53 kiconst_0 ?_
        exact g_zreturn (pc := 54) X Y dX9_applies_54 (by first | exact Or.inl rfl | exact Or.inr rfl | exact zI_01 _) (Nat.le_of_ble_eq_true rfl) (Nat.le_of_ble_eq_true rfl) (by first | exact ⟨_, rfl, by rcases hv with hv | hv <;> simp_all [apl, zI], hO⟩ | exact ⟨_, rfl, by simp_all [apl, zI], Off.rf⟩)
      · refine g_iconst (pc := 49) X dX9_applies_49 kiconst_1 ?_
        refine g_goto (pc := 50) X dX9_applies_50 (tgt := 54) (by decide) ?_
        exact g_zreturn (pc := 54) X Y dX9_applies_54 (by first | exact Or.inl rfl | exact Or.inr rfl | exact zI_01 _) (Nat.le_of_ble_eq_true rfl) (Nat.le_of_ble_eq_true rfl) (by first | exact ⟨_, rfl, by rcases hv with hv | hv <;> simp_all [apl, zI], hO⟩ | exact ⟨_, rfl, by simp_all [apl, zI], Off.rf⟩)
theorem sortC_is {k : Nat} (h : k ≤ 3) : (sortC k = -12 ↔ k = 3) ∧ (sortC k = -11 ↔ k = 2) ∧ (sortC k = -9 ↔ k = 0) := by
  have : k = 0 ∨ k = 1 ∨ k = 2 ∨ k = 3 := by omega
  rcases this with rfl | rfl | rfl | rfl <;> decide +kernel
set_option maxHeartbeats 4000000 in
theorem s_looks5 {o : gOm} {l : Launch} {σ : gSt} {b : Bool} (hR : σ.2.2 = gRf b) {C : Nat} {kind st cd op : Nat → Nat} {num F : Nat → Int32} (hr : rulesAt σ 5 C kind st cd op num) (hk : rulesOK C kind st cd op) (hF : ∀ w, w < 6 → σ.1 29 w = F (w + 1)) (h0 : σ.1 5 2 = nI 0) : Sp o l mX9_workLooks 4 0 0 [.ref (ad o 5), .ref (ad o 29)] 116 116 σ (pI (fun x σ1 => x = zI (anyB (fun j => decide (kind j = 3)) C) ∧ Off [5, 11] σ σ1 ∧ (∀ j, j ≠ 2 → σ1.1 5 j = σ.1 5 j) ∧ σ1.1 5 2 = orBits (fun j => decide (kind j = 3) && apl F num st cd op j) C)) := by
  refine Sp.of (ls0 := [some (.ref (ad o 5)), some (.ref (ad o 29)), none, none]) miX9_workLooks rfl (Nat.le_of_ble_eq_true rfl) rfl (fun γ hγ hnm X Y => ?_)
  subst hγ
  have X : gX o γ cX9_workLooks 4 RX9 := X
  have hC := hk.1
  have hL : ∀ (m i : Nat), i ≤ C → C + 1 ≤ i + m → ∀ σ1 : gSt, Off [5, 11] σ σ1 → (∀ j, j ≠ 2 → σ1.1 5 j = σ.1 5 j) → σ1.1 5 2 = orBits (fun j => decide (kind j = 3) && apl F num st cd op j) i → G o γ 0 0 116 σ1 4 [some (.ref (ad o 5)), some (.ref (ad o 29)), some (.int (zI (anyB (fun j => decide (kind j = 3)) i))), some (.int (nI i))] [] := by
    intro m
    induction m with
    | zero => intro i q1 q2; omega
    | succ m ihhL =>
      intro i q1 q2 σ1 hO h2 hre
      have hR1 := hO.2.trans hR
      have hr1 : rulesAt σ1 5 C kind st cd op num := hr.off (h2 0 (by decide)) (fun j q1 q2 => (hO.1 _ (by simp; omega)).1)
      refine g_iload_3 (pc := 4) X dX9_workLooks_4 ?_
      refine g_aload_0 (pc := 5) X dX9_workLooks_5 ?_
      refine g_getI (pc := 6) X dX9_workLooks_6 rfl (by decide) fl_X9_30 (Or.inl rfl) ?_
      rw [hr1.1]
      first | refine g_icmp_ge_n (pc := 9) X dX9_workLooks_9 (tgt := 52) (by decide) (by omega) (by omega) (fun h9 => ?_) (fun h9 => ?_) | refine g_icmp_ge (pc := 9) X dX9_workLooks_9 (tgt := 52) (by decide) (fun h9 => ?_) (fun h9 => ?_)
      · refine g_iload_2 (pc := 52) X dX9_workLooks_52 ?_
        exact g_zreturn (pc := 53) X Y dX9_workLooks_53 (by first | exact Or.inl rfl | exact Or.inr rfl | exact zI_01 _) (Nat.le_of_ble_eq_true rfl) (Nat.le_of_ble_eq_true rfl) (by have e : i = C := by omega
                  subst e; exact ⟨_, rfl, rfl, hO, h2, hre⟩)
      · have hb := hk.2.1 i h9
        refine g_aload_0 (pc := 12) X dX9_workLooks_12 ?_
        refine g_getRf (pc := 13) X dX9_workLooks_13 fl_X9_9 rfl (by decide) rfl hR1 rfl ?_
        refine g_iload_3 (pc := 16) X dX9_workLooks_16 ?_
        refine g_iaload_n (pc := 17) X dX9_workLooks_17 rfl (by decide) (rfl) (by omega) ?_
        rw [(hr1.2.1 i h9).1]
        refine g_bipush (pc := 18) X dX9_workLooks_18 kbipush_m12 ?_
        refine g_icmp_ne (pc := 20) X dX9_workLooks_20 (tgt := 46) (by decide) (fun h20 => ?_) (fun h20 => ?_)
        · have h3 : ¬ kind i = 3 := fun q => h20 ((sortC_is hb.1).1.mpr q)
          refine g_iinc_3_n (pc := 46) X dX9_workLooks_46 (by decide) rfl ?_
          refine g_goto (pc := 49) X dX9_workLooks_49 (tgt := 4) (by decide) ?_
          have w := ihhL (i + 1) (by omega) (by omega) σ1 hO h2 (by rw [hre, orBits]; simp [h3])
          simpa [anyB, h3] using w
        · have h3 : kind i = 3 := (sortC_is hb.1).1.mp h20
          refine g_iconst (pc := 23) X dX9_workLooks_23 kiconst_1 ?_
          refine g_istore_2 (pc := 24) X dX9_workLooks_24 (by decide) rfl ?_
          refine g_aload_0 (pc := 25) X dX9_workLooks_25 ?_
          refine g_iload_3 (pc := 26) X dX9_workLooks_26 ?_
          refine g_aload_1 (pc := 27) X dX9_workLooks_27 ?_
          refine g_callV_I (pc := 28) X Y dX9_workLooks_28 miX9_applies li_X9_67 (s_applies5 (hO.2.trans hR) hr1 hk (fun w hw => by rw [(hO.1 29 (by decide)).1]; exact hF w hw) i h9) rfl (by decide) rfl ⟨_, rfl⟩ rfl ⟨Nat.le_of_ble_eq_true rfl, Nat.le_of_ble_eq_true rfl⟩ (Nat.le_of_ble_eq_true rfl) (Nat.le_of_ble_eq_true rfl) (Nat.le_of_ble_eq_true rfl) rfl (fun x9 σ2 hp => ?_)
          obtain ⟨rfl, hO2⟩ := hp
          first | refine g_if_eq_z (pc := 31) X dX9_workLooks_31 (tgt := 46) (by decide) (fun h31 => ?_) (fun h31 => ?_) | refine g_if_eq (pc := 31) X dX9_workLooks_31 (tgt := 46) (by decide) (fun h31 => ?_) (fun h31 => ?_)
          · refine g_iinc_3_n (pc := 46) X dX9_workLooks_46 (by decide) rfl ?_
            refine g_goto (pc := 49) X dX9_workLooks_49 (tgt := 4) (by decide) ?_
            have w := ihhL (i + 1) (by omega) (by omega) σ2 (hO.trans (hO2.mono (by simp))) (fun j hj => by rw [(hO2.1 5 (by decide)).1]; exact h2 j hj) (by rw [(hO2.1 5 (by decide)).1, hre, orBits]; simp [h31])
            simpa [anyB, h3, zI] using w
          · refine g_aload_0 (pc := 34) X dX9_workLooks_34 ?_
            refine g_dup (pc := 35) X dX9_workLooks_35 rfl ?_
            refine g_getI (pc := 36) X dX9_workLooks_36 rfl (by decide) fl_X9_40 (Or.inl rfl) ?_
            refine g_iconst (pc := 39) X dX9_workLooks_39 kiconst_1 ?_
            refine g_iload_3 (pc := 40) X dX9_workLooks_40 ?_
            refine g_ishl (pc := 41) X dX9_workLooks_41 ?_
            refine g_ior (pc := 42) X dX9_workLooks_42 ?_
            refine g_putI (pc := 43) X dX9_workLooks_43 fl_X9_40 rfl (by decide) rfl rfl ?_
            refine g_iinc_3_n (pc := 46) X dX9_workLooks_46 (by decide) rfl ?_
            refine g_goto (pc := 49) X dX9_workLooks_49 (tgt := 4) (by decide) ?_
            have w := ihhL (i + 1) (by omega) (by omega) _ ((hO.trans (hO2.mono (by simp))).i (k := 5) (j := 2) (by simp)) (fun j hj => by rw [sI_get, if_neg (by simp [hj]), (hO2.1 5 (by decide)).1]; exact h2 j hj) (by rw [sI_get, if_pos ⟨rfl, rfl⟩, orBits]; simp [h3, h31])
            rw [(hO2.1 5 (by decide)).1, hre]
            simpa [anyB, h3, zI] using w
  refine g_iconst (pc := 0) X dX9_workLooks_0 kiconst_0 ?_
  refine g_istore_2 (pc := 1) X dX9_workLooks_1 (by decide) rfl ?_
  refine g_iconst (pc := 2) X dX9_workLooks_2 kiconst_0 ?_
  refine g_istore_3 (pc := 3) X dX9_workLooks_3 (by decide) rfl ?_
  exact hL (C + 1) 0 (by omega) (by omega) σ Off.rf (fun _ _ => rfl) h0
set_option maxHeartbeats 4000000 in
theorem s_looks17 {o : gOm} {l : Launch} {σ : gSt} {b : Bool} (hR : σ.2.2 = gRf b) {C : Nat} {kind st cd op : Nat → Nat} {num F : Nat → Int32} (hr : rulesAt σ 17 C kind st cd op num) (hk : rulesOK C kind st cd op) (hF : ∀ w, w < 6 → σ.1 29 w = F (w + 1)) (h0 : σ.1 17 2 = nI 0) : Sp o l mX9_workLooks 4 0 0 [.ref (ad o 17), .ref (ad o 29)] 116 116 σ (pI (fun x σ1 => x = zI (anyB (fun j => decide (kind j = 3)) C) ∧ Off [17, 23] σ σ1 ∧ (∀ j, j ≠ 2 → σ1.1 17 j = σ.1 17 j) ∧ σ1.1 17 2 = orBits (fun j => decide (kind j = 3) && apl F num st cd op j) C)) := by
  refine Sp.of (ls0 := [some (.ref (ad o 17)), some (.ref (ad o 29)), none, none]) miX9_workLooks rfl (Nat.le_of_ble_eq_true rfl) rfl (fun γ hγ hnm X Y => ?_)
  subst hγ
  have X : gX o γ cX9_workLooks 4 RX9 := X
  have hC := hk.1
  have hL : ∀ (m i : Nat), i ≤ C → C + 1 ≤ i + m → ∀ σ1 : gSt, Off [17, 23] σ σ1 → (∀ j, j ≠ 2 → σ1.1 17 j = σ.1 17 j) → σ1.1 17 2 = orBits (fun j => decide (kind j = 3) && apl F num st cd op j) i → G o γ 0 0 116 σ1 4 [some (.ref (ad o 17)), some (.ref (ad o 29)), some (.int (zI (anyB (fun j => decide (kind j = 3)) i))), some (.int (nI i))] [] := by
    intro m
    induction m with
    | zero => intro i q1 q2; omega
    | succ m ihhL =>
      intro i q1 q2 σ1 hO h2 hre
      have hR1 := hO.2.trans hR
      have hr1 : rulesAt σ1 17 C kind st cd op num := hr.off (h2 0 (by decide)) (fun j q1 q2 => (hO.1 _ (by simp; omega)).1)
      refine g_iload_3 (pc := 4) X dX9_workLooks_4 ?_
      refine g_aload_0 (pc := 5) X dX9_workLooks_5 ?_
      refine g_getI (pc := 6) X dX9_workLooks_6 rfl (by decide) fl_X9_30 (Or.inl rfl) ?_
      rw [hr1.1]
      first | refine g_icmp_ge_n (pc := 9) X dX9_workLooks_9 (tgt := 52) (by decide) (by omega) (by omega) (fun h9 => ?_) (fun h9 => ?_) | refine g_icmp_ge (pc := 9) X dX9_workLooks_9 (tgt := 52) (by decide) (fun h9 => ?_) (fun h9 => ?_)
      · refine g_iload_2 (pc := 52) X dX9_workLooks_52 ?_
        exact g_zreturn (pc := 53) X Y dX9_workLooks_53 (by first | exact Or.inl rfl | exact Or.inr rfl | exact zI_01 _) (Nat.le_of_ble_eq_true rfl) (Nat.le_of_ble_eq_true rfl) (by have e : i = C := by omega
                  subst e; exact ⟨_, rfl, rfl, hO, h2, hre⟩)
      · have hb := hk.2.1 i h9
        refine g_aload_0 (pc := 12) X dX9_workLooks_12 ?_
        refine g_getRf (pc := 13) X dX9_workLooks_13 fl_X9_9 rfl (by decide) rfl hR1 rfl ?_
        refine g_iload_3 (pc := 16) X dX9_workLooks_16 ?_
        refine g_iaload_n (pc := 17) X dX9_workLooks_17 rfl (by decide) (rfl) (by omega) ?_
        rw [(hr1.2.1 i h9).1]
        refine g_bipush (pc := 18) X dX9_workLooks_18 kbipush_m12 ?_
        refine g_icmp_ne (pc := 20) X dX9_workLooks_20 (tgt := 46) (by decide) (fun h20 => ?_) (fun h20 => ?_)
        · have h3 : ¬ kind i = 3 := fun q => h20 ((sortC_is hb.1).1.mpr q)
          refine g_iinc_3_n (pc := 46) X dX9_workLooks_46 (by decide) rfl ?_
          refine g_goto (pc := 49) X dX9_workLooks_49 (tgt := 4) (by decide) ?_
          have w := ihhL (i + 1) (by omega) (by omega) σ1 hO h2 (by rw [hre, orBits]; simp [h3])
          simpa [anyB, h3] using w
        · have h3 : kind i = 3 := (sortC_is hb.1).1.mp h20
          refine g_iconst (pc := 23) X dX9_workLooks_23 kiconst_1 ?_
          refine g_istore_2 (pc := 24) X dX9_workLooks_24 (by decide) rfl ?_
          refine g_aload_0 (pc := 25) X dX9_workLooks_25 ?_
          refine g_iload_3 (pc := 26) X dX9_workLooks_26 ?_
          refine g_aload_1 (pc := 27) X dX9_workLooks_27 ?_
          refine g_callV_I (pc := 28) X Y dX9_workLooks_28 miX9_applies li_X9_67 (s_applies17 (hO.2.trans hR) hr1 hk (fun w hw => by rw [(hO.1 29 (by decide)).1]; exact hF w hw) i h9) rfl (by decide) rfl ⟨_, rfl⟩ rfl ⟨Nat.le_of_ble_eq_true rfl, Nat.le_of_ble_eq_true rfl⟩ (Nat.le_of_ble_eq_true rfl) (Nat.le_of_ble_eq_true rfl) (Nat.le_of_ble_eq_true rfl) rfl (fun x9 σ2 hp => ?_)
          obtain ⟨rfl, hO2⟩ := hp
          first | refine g_if_eq_z (pc := 31) X dX9_workLooks_31 (tgt := 46) (by decide) (fun h31 => ?_) (fun h31 => ?_) | refine g_if_eq (pc := 31) X dX9_workLooks_31 (tgt := 46) (by decide) (fun h31 => ?_) (fun h31 => ?_)
          · refine g_iinc_3_n (pc := 46) X dX9_workLooks_46 (by decide) rfl ?_
            refine g_goto (pc := 49) X dX9_workLooks_49 (tgt := 4) (by decide) ?_
            have w := ihhL (i + 1) (by omega) (by omega) σ2 (hO.trans (hO2.mono (by simp))) (fun j hj => by rw [(hO2.1 17 (by decide)).1]; exact h2 j hj) (by rw [(hO2.1 17 (by decide)).1, hre, orBits]; simp [h31])
            simpa [anyB, h3, zI] using w
          · refine g_aload_0 (pc := 34) X dX9_workLooks_34 ?_
            refine g_dup (pc := 35) X dX9_workLooks_35 rfl ?_
            refine g_getI (pc := 36) X dX9_workLooks_36 rfl (by decide) fl_X9_40 (Or.inl rfl) ?_
            refine g_iconst (pc := 39) X dX9_workLooks_39 kiconst_1 ?_
            refine g_iload_3 (pc := 40) X dX9_workLooks_40 ?_
            refine g_ishl (pc := 41) X dX9_workLooks_41 ?_
            refine g_ior (pc := 42) X dX9_workLooks_42 ?_
            refine g_putI (pc := 43) X dX9_workLooks_43 fl_X9_40 rfl (by decide) rfl rfl ?_
            refine g_iinc_3_n (pc := 46) X dX9_workLooks_46 (by decide) rfl ?_
            refine g_goto (pc := 49) X dX9_workLooks_49 (tgt := 4) (by decide) ?_
            have w := ihhL (i + 1) (by omega) (by omega) _ ((hO.trans (hO2.mono (by simp))).i (k := 17) (j := 2) (by simp)) (fun j hj => by rw [sI_get, if_neg (by simp [hj]), (hO2.1 17 (by decide)).1]; exact h2 j hj) (by rw [sI_get, if_pos ⟨rfl, rfl⟩, orBits]; simp [h3, h31])
            rw [(hO2.1 17 (by decide)).1, hre]
            simpa [anyB, h3, zI] using w
  refine g_iconst (pc := 0) X dX9_workLooks_0 kiconst_0 ?_
  refine g_istore_2 (pc := 1) X dX9_workLooks_1 (by decide) rfl ?_
  refine g_iconst (pc := 2) X dX9_workLooks_2 kiconst_0 ?_
  refine g_istore_3 (pc := 3) X dX9_workLooks_3 (by decide) rfl ?_
  exact hL (C + 1) 0 (by omega) (by omega) σ Off.rf (fun _ _ => rfl) h0
