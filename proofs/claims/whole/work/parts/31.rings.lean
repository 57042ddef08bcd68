set_option maxHeartbeats 4000000 in
theorem s_wipe {o : gOm} {l : Launch} {σ : gSt} {b : Bool} (hR : σ.2.2 = gRf b)  : Sp o l mX8_wipe 2 0 0 [.ref (ad o 42)] 116 116 σ (pV (fun σ1 => Off [42, 43] σ σ1 ∧ σ1.1 42 0 = nI 0 ∧ σ1.2.1 42 1 = lN 0 ∧ (∀ j, j ≠ 0 → σ1.1 42 j = σ.1 42 j) ∧ ((¬ σ.1 42 0 ≤ 0 ∧ ∀ j, j < 900 → σ1.1 43 j = nI 0) ∨ (σ.1 42 0 ≤ 0 ∧ σ1.1 43 = σ.1 43)))) := by
  refine Sp.of (ls0 := [some (.ref (ad o 42))]) miX8_wipe rfl (Nat.le_of_ble_eq_true rfl) rfl (fun γ hγ hnm X Y => ?_)
  subst hγ
  have X : gX o γ cX8_wipe 1 RX8 := X
  refine g_aload_0 (pc := 0) X dX8_wipe_0 ?_
  refine g_getI (pc := 1) X dX8_wipe_1 rfl (by decide) fl_X8_25 (Or.inl rfl) ?_
  refine g_if_le (pc := 4) X dX8_wipe_4 (tgt := 15) (by decide) (fun h4 => ?_) (fun h4 => ?_)
  · skip
    refine g_aload_0 (pc := 15) X dX8_wipe_15 ?_
    refine g_iconst (pc := 16) X dX8_wipe_16 kiconst_0 ?_
    refine g_putI (pc := 17) X dX8_wipe_17 fl_X8_25 rfl (by decide) rfl rfl ?_
    refine g_aload_0 (pc := 20) X dX8_wipe_20 ?_
    refine g_lconst (pc := 21) X dX8_wipe_21 (v := lN 0) rfl ?_
    refine g_putL (pc := 22) X dX8_wipe_22 fl_X8_35 rfl (by decide) rfl rfl ?_
    exact g_return (pc := 25) X Y dX8_wipe_25 (Nat.le_of_ble_eq_true rfl) (Nat.le_of_ble_eq_true rfl) (by
    refine ⟨rfl, ?_⟩
    first
    | exact ⟨Off.l (Off.i (hO.mono (by simp)) (by simp)) (by simp), by simp [sL, sI_get], by simp [sL, vp_updL], fun j h0 => by simp [sL, sI_get, h0, hq], .inl ⟨by simpa using h4, fun j hj => by simp [sL, sI_get, hf, hj]⟩⟩
    | exact ⟨Off.l (Off.i Off.rf (by simp)) (by simp), by simp [sL, sI_get], by simp [sL, vp_updL], fun j h0 => by simp [sL, sI_get, h0], .inr ⟨by simpa using h4, by funext j; simp [sL, sI_get]⟩⟩)
  · skip
    refine g_aload_0 (pc := 7) X dX8_wipe_7 ?_
    refine g_getRf (pc := 8) X dX8_wipe_8 fl_X8_9 rfl (by decide) rfl hR rfl ?_
    refine g_iconst (pc := 11) X dX8_wipe_11 kiconst_0 ?_
    refine g_callS_V (pc := 12) X Y dX8_wipe_12 miJ7_fill_53178 li_X8_29 (s_fill (nI 0) (by decide) rfl) rfl ⟨Nat.le_of_ble_eq_true rfl, Nat.le_of_ble_eq_true rfl⟩ (Nat.le_of_ble_eq_true rfl) (Nat.le_of_ble_eq_true rfl) rfl (by exact Nat.le_of_ble_eq_true rfl) (fun σ1 hp => ?_)
    obtain ⟨hO, hf⟩ := hp
    have hq : ∀ j, σ1.1 42 j = σ.1 42 j := fun j => by rw [(hO.1 42 (by simp)).1]
    refine g_aload_0 (pc := 15) X dX8_wipe_15 ?_
    refine g_iconst (pc := 16) X dX8_wipe_16 kiconst_0 ?_
    refine g_putI (pc := 17) X dX8_wipe_17 fl_X8_25 rfl (by decide) rfl rfl ?_
    refine g_aload_0 (pc := 20) X dX8_wipe_20 ?_
    refine g_lconst (pc := 21) X dX8_wipe_21 (v := lN 0) rfl ?_
    refine g_putL (pc := 22) X dX8_wipe_22 fl_X8_35 rfl (by decide) rfl rfl ?_
    exact g_return (pc := 25) X Y dX8_wipe_25 (Nat.le_of_ble_eq_true rfl) (Nat.le_of_ble_eq_true rfl) (by
    refine ⟨rfl, ?_⟩
    first
    | exact ⟨Off.l (Off.i (hO.mono (by simp)) (by simp)) (by simp), by simp [sL, sI_get], by simp [sL, vp_updL], fun j h0 => by simp [sL, sI_get, h0, hq], .inl ⟨by simpa using h4, fun j hj => by simp [sL, sI_get, hf, hj]⟩⟩
    | exact ⟨Off.l (Off.i Off.rf (by simp)) (by simp), by simp [sL, sI_get], by simp [sL, vp_updL], fun j h0 => by simp [sL, sI_get, h0], .inr ⟨by simpa using h4, by funext j; simp [sL, sI_get]⟩⟩)
