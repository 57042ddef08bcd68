set_option maxHeartbeats 4000000 in
theorem s_wipe {o : gOm} {l : Launch} {σ : gSt} {b : Bool} (hR : σ.2.2 = gRf b)  : Sp o l mX8_wipe 2 0 0 [.ref (ad o 42)] 116 116 σ (pV (fun σ1 => Off [42, 43] σ σ1 ∧ σ1.1 42 0 = nI 0 ∧ σ1.2.1 42 1 = lN 0 ∧ (∀ j, j ≠ 0 → σ1.1 42 j = σ.1 42 j) ∧ ((¬ σ.1 42 0 ≤ 0 ∧ ∀ j, j < 900 → σ1.1 43 j = nI 0) ∨ (σ.1 42 0 ≤ 0 ∧ σ1.1 43 = σ.1 43)))) := by
  refine Sp.of (ls0 := [some (.ref (ad o 42))]) miX8_wipe rfl (Nat.le_of_ble_eq_true rfl) rfl (fun γ hγ hnm X Y => ?_)
  subst hγ
  have X : gX o γ cX8_wipe 1 RX8 := X
  refine g_aload_0 (pc := 0) X dX8_wipe_0 ?_
  refine g_getI (pc := 1) X dX8_wipe_1 rfl (by decide) fl_X8_25 (Or.inl rfl) ?_
  refine g_if_le (pc := 4) X dX8_wipe_4 (tgt := 15) (by decide) (fun h4 => ?_) (fun h4 => ?_)
  · skip
    refine g_aload_0 (pc := 15) X dX8_wipe_15 ?_
    refine g_iconst (pc := 16) X dX8_wipe_16 kiconst_0 ?_
    refine g_putI (pc := 17) X dX8_wipe_17 fl_X8_25 rfl (by decide) rfl rfl ?_
    refine g_aload_0 (pc := 20) X dX8_wipe_20 ?_
    refine g_lconst (pc := 21) X dX8_wipe_21 (v := lN 0) rfl ?_
    refine g_putL (pc := 22) X dX8_wipe_22 fl_X8_35 rfl (by decide) rfl rfl ?_
    exact g_return (pc := 25) X Y dX8_wipe_25 (Nat.le_of_ble_eq_true rfl) (Nat.le_of_ble_eq_true rfl) (by
    refine ⟨rfl, ?_⟩
    first
    | exact ⟨Off.l (Off.i (hO.mono (by simp)) (by simp)) (by simp), by simp [sL, sI_get], by simp [sL, vp_updL], fun j h0 => by simp [sL, sI_get, h0, hq], .inl ⟨by simpa using h4, fun j hj => by simp [sL, sI_get, hf, hj]⟩⟩
    | exact ⟨Off.l (Off.i Off.rf (by simp)) (by simp), by simp [sL, sI_get], by simp [sL, vp_updL], fun j h0 => by simp [sL, sI_get, h0], .inr ⟨by simpa using h4, by funext j; simp [sL, sI_get]⟩⟩)
  · skip
    refine g_aload_0 (pc := 7) X dX8_wipe_7 ?_
    refine g_getRf (pc := 8) X dX8_wipe_8 fl_X8_9 rfl (by decide) rfl hR rfl ?_
    refine g_iconst (pc := 11) X dX8_wipe_11 kiconst_0 ?_
    refine g_callS_V (pc := 12) X Y dX8_wipe_12 miJ7_fill_53178 li_X8_29 (s_fill (nI 0) (by decide) rfl) rfl ⟨Nat.le_of_ble_eq_true rfl, Nat.le_of_ble_eq_true rfl⟩ (Nat.le_of_ble_eq_true rfl) (Nat.le_of_ble_eq_true rfl) rfl (by exact Nat.le_of_ble_eq_true rfl) (fun σ1 hp => ?_)
    obtain ⟨hO, hf⟩ := hp
    have hq : ∀ j, σ1.1 42 j = σ.1 42 j := fun j => by rw [(hO.1 42 (by simp)).1]
    refine g_aload_0 (pc := 15) X dX8_wipe_15 ?_
    refine g_iconst (pc := 16) X dX8_wipe_16 kiconst_0 ?_
    refine g_putI (pc := 17) X dX8_wipe_17 fl_X8_25 rfl (by decide) rfl rfl ?_
    refine g_aload_0 (pc := 20) X dX8_wipe_20 ?_
    refine g_lconst (pc := 21) X dX8_wipe_21 (v := lN 0) rfl ?_
    refine g_putL (pc := 22) X dX8_wipe_22 fl_X8_35 rfl (by decide) rfl rfl ?_
    exact g_return (pc := 25) X Y dX8_wipe_25 (Nat.le_of_ble_eq_true rfl) (Nat.le_of_ble_eq_true rfl) (by
    refine ⟨rfl, ?_⟩
    first
    | exact ⟨Off.l (Off.i (hO.mono (by simp)) (by simp)) (by simp), by simp [sL, sI_get], by simp [sL, vp_updL], fun j h0 => by simp [sL, sI_get, h0, hq], .inl ⟨by simpa using h4, fun j hj => by simp [sL, sI_get, hf, hj]⟩⟩
    | exact ⟨Off.l (Off.i Off.rf (by simp)) (by simp), by simp [sL, sI_get], by simp [sL, vp_updL], fun j h0 => by simp [sL, sI_get, h0], .inr ⟨by simpa using h4, by funext j; simp [sL, sI_get]⟩⟩)
set_option maxHeartbeats 4000000 in
theorem s_hit {o : gOm} {l : Launch} {σ : gSt} {b : Bool} (hR : σ.2.2 = gRf b) (i : Nat) (hi : i < 4) : Sp o l mX8_hit 1 0 0 [.ref (ad o 42), .int (nI i)] 116 116 σ (pI (fun x σ1 => x = (σ.1 45 i) ∧ σ = σ1)) := by
  refine Sp.of (ls0 := [some (.ref (ad o 42)), some (.int (nI i))]) miX8_hit rfl (Nat.le_of_ble_eq_true rfl) rfl (fun γ hγ hnm X Y => ?_)
  subst hγ
  have X : gX o γ cX8_hit 2 RX8 := X
  refine g_aload_0 (pc := 0) X dX8_hit_0 ?_
  refine g_getRf (pc := 1) X dX8_hit_1 fl_X8_18 rfl (by decide) rfl hR rfl ?_
  refine g_iload_1 (pc := 4) X dX8_hit_4 ?_
  refine g_iaload_n (pc := 5) X dX8_hit_5 rfl (by decide) (rfl) (by omega) ?_
  exact g_ireturn (pc := 6) X Y dX8_hit_6 (Nat.le_of_ble_eq_true rfl) (Nat.le_of_ble_eq_true rfl) (⟨_, rfl, rfl, rfl⟩)
set_option maxHeartbeats 4000000 in
theorem s_remember {o : gOm} {l : Launch} {σ : gSt} {b : Bool} (hR : σ.2.2 = gRf b) (q x y z : Int32) : Sp o l mX8_remember 1 0 0 [.ref (ad o 42), .int q, .int x, .int y, .int z] 116 116 σ (pV (fun σ1 => σ1 = sI (sI (sI (sI σ 45 0 q) 45 1 x) 45 2 y) 45 3 z)) := by
  refine Sp.of (ls0 := [some (.ref (ad o 42)), some (.int q), some (.int x), some (.int y), some (.int z)]) miX8_remember rfl (Nat.le_of_ble_eq_true rfl) rfl (fun γ hγ hnm X Y => ?_)
  subst hγ
  have X : gX o γ cX8_remember 5 RX8 := X
  refine g_aload_0 (pc := 0) X dX8_remember_0 ?_
  refine g_getRf (pc := 1) X dX8_remember_1 fl_X8_18 rfl (by decide) rfl hR rfl ?_
  refine g_iconst (pc := 4) X dX8_remember_4 kiconst_0 ?_
  refine g_iload_1 (pc := 5) X dX8_remember_5 ?_
  refine g_iastore_n (pc := 6) X dX8_remember_6 rfl (by decide) (rfl) (by omega) ?_
  refine g_aload_0 (pc := 7) X dX8_remember_7 ?_
  refine g_getRf (pc := 8) X dX8_remember_8 fl_X8_18 rfl (by decide) rfl (by exact hR) rfl ?_
  refine g_iconst (pc := 11) X dX8_remember_11 kiconst_1 ?_
  refine g_iload_2 (pc := 12) X dX8_remember_12 ?_
  refine g_iastore_n (pc := 13) X dX8_remember_13 rfl (by decide) (rfl) (by omega) ?_
  refine g_aload_0 (pc := 14) X dX8_remember_14 ?_
  refine g_getRf (pc := 15) X dX8_remember_15 fl_X8_18 rfl (by decide) rfl (by exact hR) rfl ?_
  refine g_iconst (pc := 18) X dX8_remember_18 kiconst_2 ?_
  refine g_iload_3 (pc := 19) X dX8_remember_19 ?_
  refine g_iastore_n (pc := 20) X dX8_remember_20 rfl (by decide) (rfl) (by omega) ?_
  refine g_aload_0 (pc := 21) X dX8_remember_21 ?_
  refine g_getRf (pc := 22) X dX8_remember_22 fl_X8_18 rfl (by decide) rfl (by exact hR) rfl ?_
  refine g_iconst (pc := 25) X dX8_remember_25 kiconst_3 ?_
  refine g_iload_4 (pc := 26) X dX8_remember_26 ?_
  refine g_iastore_n (pc := 28) X dX8_remember_28 rfl (by decide) (rfl) (by omega) ?_
  exact g_return (pc := 29) X Y dX8_remember_29 (Nat.le_of_ble_eq_true rfl) (Nat.le_of_ble_eq_true rfl) (⟨rfl, rfl⟩)
