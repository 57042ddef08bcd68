def drw (σ : gSt) (a c : Nat) : Bool := decide (nI 0 < σ.1 24 (a * 30 + c))
def rpl (σ : gSt) (a c : Nat) : Bool := bt (σ.1 26 a) c || decide (σ.1 24 (a * 30 + c) < nI 0)
def ringC (σ : gSt) (a b c : Nat) : Bool := (drw σ a b && drw σ a c && rpl σ b c) || (drw σ a b && drw σ b c && rpl σ a c) || (drw σ a c && drw σ b c && rpl σ a b)
def restC (σ : gSt) (k a c : Nat) : Int32 := (if bt (σ.1 26 a) c then (1000000 : Int32) else absI (σ.1 24 (a * 30 + c))) - σ.1 k (a * 30 + c)
def minI (x y : Int32) : Int32 := if y < x then y else x
set_option maxHeartbeats 4000000 in
theorem s_isDrawn {o : gOm} {l : Launch} {σ : gSt} {b : Bool} (hR : σ.2.2 = gRf b) (a c : Nat) (ha : a < 30) (hc : c < 30)  : Sp o l mX8_isDrawn 2 0 0 [.ref (ad o 42), .int (nI a), .int (nI c)] 116 116 σ (pI (fun x9 σ1 => x9 = (zI (drw σ a c)) ∧ σ = σ1)) := by
  refine Sp.of (ls0 := [some (.ref (ad o 42)), some (.int (nI a)), some (.int (nI c))]) miX8_isDrawn rfl (Nat.le_of_ble_eq_true rfl) rfl (fun γ hγ hnm X Y => ?_)
  subst hγ
  have X : gX o γ cX8_isDrawn 3 RX8 := X
  refine g_aload_0 (pc := 0) X dX8_isDrawn_0 ?_
  refine g_getRf (pc := 1) X dX8_isDrawn_1 fl_X8_21 rfl (by decide) rfl hR rfl ?_
  refine g_iload_1 (pc := 4) X dX8_isDrawn_4 ?_
  refine g_iload_2 (pc := 5) X dX8_isDrawn_5 ?_
  refine g_callV_I (pc := 6) X Y dX8_isDrawn_6 miX4_pull li_X8_39 (s_pull (by exact hR) a c ha hc) rfl (by decide) rfl ⟨_, rfl⟩ rfl ⟨Nat.le_of_ble_eq_true rfl, Nat.le_of_ble_eq_true rfl⟩ (Nat.le_of_ble_eq_true rfl) (Nat.le_of_ble_eq_true rfl) rfl (by exact Nat.le_of_ble_eq_true rfl) (fun x9 σ1 hp => ?_)
  obtain ⟨rfl, rfl⟩ := hp
  refine g_if_le (pc := 9) X dX8_isDrawn_9 (tgt := 16) (by decide) (fun h9 => ?_) (fun h9 => ?_)
  · refine g_iconst (pc := 16) X dX8_isDrawn_16 kiconst_0 ?_
    exact g_zreturn (pc := 17) X Y dX8_isDrawn_17 (by first | exact Or.inl rfl | exact Or.inr rfl | exact zI_01 _) (Nat.le_of_ble_eq_true rfl) (Nat.le_of_ble_eq_true rfl) (⟨_, rfl, by simp_all [drw, zI, nI_0, ← Int32.not_lt], rfl⟩)
  · refine g_iconst (pc := 12) X dX8_isDrawn_12 kiconst_1 ?_
    refine g_goto (pc := 13) X dX8_isDrawn_13 (tgt := 17) (by decide) ?_
    exact g_zreturn (pc := 17) X Y dX8_isDrawn_17 (by first | exact Or.inl rfl | exact Or.inr rfl | exact zI_01 _) (Nat.le_of_ble_eq_true rfl) (Nat.le_of_ble_eq_true rfl) (⟨_, rfl, by simp_all [drw, zI, nI_0, ← Int32.not_lt], rfl⟩)
set_option maxHeartbeats 4000000 in
theorem s_isRepelled {o : gOm} {l : Launch} {σ : gSt} {b : Bool} (hR : σ.2.2 = gRf b) (a c : Nat) (ha : a < 30) (hc : c < 30)  : Sp o l mX8_isRepelled 2 0 0 [.ref (ad o 42), .int (nI a), .int (nI c)] 116 116 σ (pI (fun x9 σ1 => x9 = (zI (rpl σ a c)) ∧ σ = σ1)) := by
  refine Sp.of (ls0 := [some (.ref (ad o 42)), some (.int (nI a)), some (.int (nI c))]) miX8_isRepelled rfl (Nat.le_of_ble_eq_true rfl) rfl (fun γ hγ hnm X Y => ?_)
  subst hγ
  have X : gX o γ cX8_isRepelled 3 RX8 := X
  refine g_aload_0 (pc := 0) X dX8_isRepelled_0 ?_
  refine g_getRf (pc := 1) X dX8_isRepelled_1 fl_X8_21 rfl (by decide) rfl hR rfl ?_
  refine g_iload_1 (pc := 4) X dX8_isRepelled_4 ?_
  refine g_iload_2 (pc := 5) X dX8_isRepelled_5 ?_
  refine g_callV_I (pc := 6) X Y dX8_isRepelled_6 miX4_isNever li_X8_45 (s_isNever (by exact hR) a c ha hc) rfl (by decide) rfl ⟨_, rfl⟩ rfl ⟨Nat.le_of_ble_eq_true rfl, Nat.le_of_ble_eq_true rfl⟩ (Nat.le_of_ble_eq_true rfl) (Nat.le_of_ble_eq_true rfl) rfl (by exact Nat.le_of_ble_eq_true rfl) (fun x9 σ1 hp => ?_)
  obtain ⟨rfl, rfl⟩ := hp
  first | refine g_if_ne_z (pc := 9) X dX8_isRepelled_9 (tgt := 24) (by decide) (fun h9 => ?_) (fun h9 => ?_) | refine g_if_ne (pc := 9) X dX8_isRepelled_9 (tgt := 24) (by decide) (fun h9 => ?_) (fun h9 => ?_)
  · refine g_iconst (pc := 24) X dX8_isRepelled_24 kiconst_1 ?_
    refine g_goto (pc := 25) X dX8_isRepelled_25 (tgt := 29) (by decide) ?_
    exact g_zreturn (pc := 29) X Y dX8_isRepelled_29 (by first | exact Or.inl rfl | exact Or.inr rfl | exact zI_01 _) (Nat.le_of_ble_eq_true rfl) (Nat.le_of_ble_eq_true rfl) (⟨_, rfl, by simp_all [rpl, zI, nI_0, ← Int32.not_le], rfl⟩)
  · refine g_aload_0 (pc := 12) X dX8_isRepelled_12 ?_
    refine g_getRf (pc := 13) X dX8_isRepelled_13 fl_X8_21 rfl (by decide) rfl hR rfl ?_
    refine g_iload_1 (pc := 16) X dX8_isRepelled_16 ?_
    refine g_iload_2 (pc := 17) X dX8_isRepelled_17 ?_
    refine g_callV_I (pc := 18) X Y dX8_isRepelled_18 miX4_pull li_X8_39 (s_pull (by exact hR) a c ha hc) rfl (by decide) rfl ⟨_, rfl⟩ rfl ⟨Nat.le_of_ble_eq_true rfl, Nat.le_of_ble_eq_true rfl⟩ (Nat.le_of_ble_eq_true rfl) (Nat.le_of_ble_eq_true rfl) rfl (by exact Nat.le_of_ble_eq_true rfl) (fun x9 σ1 hp => ?_)
    obtain ⟨rfl, rfl⟩ := hp
    refine g_if_ge (pc := 21) X dX8_isRepelled_21 (tgt := 28) (by decide) (fun h21 => ?_) (fun h21 => ?_)
    · refine g_iconst (pc := 28) X dX8_isRepelled_28 kiconst_0 ?_
      exact g_zreturn (pc := 29) X Y dX8_isRepelled_29 (by first | exact Or.inl rfl | exact Or.inr rfl | exact zI_01 _) (Nat.le_of_ble_eq_true rfl) (Nat.le_of_ble_eq_true rfl) (⟨_, rfl, by simp_all [rpl, zI, nI_0, ← Int32.not_le], rfl⟩)
    · refine g_iconst (pc := 24) X dX8_isRepelled_24 kiconst_1 ?_
      refine g_goto (pc := 25) X dX8_isRepelled_25 (tgt := 29) (by decide) ?_
      exact g_zreturn (pc := 29) X Y dX8_isRepelled_29 (by first | exact Or.inl rfl | exact Or.inr rfl | exact zI_01 _) (Nat.le_of_ble_eq_true rfl) (Nat.le_of_ble_eq_true rfl) (⟨_, rfl, by simp_all [rpl, zI, nI_0, ← Int32.not_le], rfl⟩)
set_option maxHeartbeats 4000000 in
theorem s_isRing {o : gOm} {l : Launch} {σ : gSt} {b : Bool} (hR : σ.2.2 = gRf b) (x y z : Nat) (hx : x < 30) (hy : y < 30) (hz : z < 30)  : Sp o l mX8_isRing 3 0 0 [.ref (ad o 42), .int (nI x), .int (nI y), .int (nI z)] 116 116 σ (pI (fun x9 σ1 => x9 = (zI (ringC σ x y z)) ∧ σ = σ1)) := by
  refine Sp.of (ls0 := [some (.ref (ad o 42)), some (.int (nI x)), some (.int (nI y)), some (.int (nI z)), none, none, none]) miX8_isRing rfl (Nat.le_of_ble_eq_true rfl) rfl (fun γ hγ hnm X Y => ?_)
  subst hγ
  have X : gX o γ cX8_isRing 7 RX8 := X
  refine g_aload_0 (pc := 0) X dX8_isRing_0 ?_
  refine g_iload_1 (pc := 1) X dX8_isRing_1 ?_
  refine g_iload_2 (pc := 2) X dX8_isRing_2 ?_
  refine g_callV_I (pc := 3) X Y dX8_isRing_3 miX8_isDrawn li_X8_49 (s_isDrawn (by exact hR) x y hx hy) rfl (by decide) rfl ⟨_, rfl⟩ rfl ⟨Nat.le_of_ble_eq_true rfl, Nat.le_of_ble_eq_true rfl⟩ (Nat.le_of_ble_eq_true rfl) (Nat.le_of_ble_eq_true rfl) rfl (by exact Nat.le_of_ble_eq_true rfl) (fun x9 σ1 hp => ?_)
  obtain ⟨rfl, rfl⟩ := hp
  refine g_istore_4 (pc := 6) X dX8_isRing_6 (by decide) rfl ?_
  refine g_aload_0 (pc := 8) X dX8_isRing_8 ?_
  refine g_iload_1 (pc := 9) X dX8_isRing_9 ?_
  refine g_iload_3 (pc := 10) X dX8_isRing_10 ?_
  refine g_callV_I (pc := 11) X Y dX8_isRing_11 miX8_isDrawn li_X8_49 (s_isDrawn (by exact hR) x z hx hz) rfl (by decide) rfl ⟨_, rfl⟩ rfl ⟨Nat.le_of_ble_eq_true rfl, Nat.le_of_ble_eq_true rfl⟩ (Nat.le_of_ble_eq_true rfl) (Nat.le_of_ble_eq_true rfl) rfl (by exact Nat.le_of_ble_eq_true rfl) (fun x9 σ1 hp => ?_)
  obtain ⟨rfl, rfl⟩ := hp
  refine g_istore_5 (pc := 14) X dX8_isRing_14 (by decide) rfl ?_
  refine g_aload_0 (pc := 16) X dX8_isRing_16 ?_
  refine g_iload_2 (pc := 17) X dX8_isRing_17 ?_
  refine g_iload_3 (pc := 18) X dX8_isRing_18 ?_
  refine g_callV_I (pc := 19) X Y dX8_isRing_19 miX8_isDrawn li_X8_49 (s_isDrawn (by exact hR) y z hy hz) rfl (by decide) rfl ⟨_, rfl⟩ rfl ⟨Nat.le_of_ble_eq_true rfl, Nat.le_of_ble_eq_true rfl⟩ (Nat.le_of_ble_eq_true rfl) (Nat.le_of_ble_eq_true rfl) rfl (by exact Nat.le_of_ble_eq_true rfl) (fun x9 σ1 hp => ?_)
  obtain ⟨rfl, rfl⟩ := hp
  refine g_istore_6 (pc := 22) X dX8_isRing_22 (by decide) rfl ?_
  refine g_iload_4 (pc := 24) X dX8_isRing_24 ?_
  first | refine g_if_eq_z (pc := 26) X dX8_isRing_26 (tgt := 43) (by decide) (fun h26 => ?_) (fun h26 => ?_) | refine g_if_eq (pc := 26) X dX8_isRing_26 (tgt := 43) (by decide) (fun h26 => ?_) (fun h26 => ?_)
  · refine g_iload_4 (pc := 43) X dX8_isRing_43 ?_
    first | refine g_if_eq_z (pc := 45) X dX8_isRing_45 (tgt := 62) (by decide) (fun h45 => ?_) (fun h45 => ?_) | refine g_if_eq (pc := 45) X dX8_isRing_45 (tgt := 62) (by decide) (fun h45 => ?_) (fun h45 => ?_)
    · refine g_iload_5 (pc := 62) X dX8_isRing_62 ?_
      first | refine g_if_eq_z (pc := 64) X dX8_isRing_64 (tgt := 85) (by decide) (fun h64 => ?_) (fun h64 => ?_) | refine g_if_eq (pc := 64) X dX8_isRing_64 (tgt := 85) (by decide) (fun h64 => ?_) (fun h64 => ?_)
      · refine g_iconst (pc := 85) X dX8_isRing_85 kiconst_0 ?_
        exact g_zreturn (pc := 86) X Y dX8_isRing_86 (by first | exact Or.inl rfl | exact Or.inr rfl | exact zI_01 _) (Nat.le_of_ble_eq_true rfl) (Nat.le_of_ble_eq_true rfl) (⟨_, rfl, by simp_all [ringC, zI], rfl⟩)
      · refine g_iload_6 (pc := 67) X dX8_isRing_67 ?_
        first | refine g_if_eq_z (pc := 69) X dX8_isRing_69 (tgt := 85) (by decide) (fun h69 => ?_) (fun h69 => ?_) | refine g_if_eq (pc := 69) X dX8_isRing_69 (tgt := 85) (by decide) (fun h69 => ?_) (fun h69 => ?_)
        · refine g_iconst (pc := 85) X dX8_isRing_85 kiconst_0 ?_
          exact g_zreturn (pc := 86) X Y dX8_isRing_86 (by first | exact Or.inl rfl | exact Or.inr rfl | exact zI_01 _) (Nat.le_of_ble_eq_true rfl) (Nat.le_of_ble_eq_true rfl) (⟨_, rfl, by simp_all [ringC, zI], rfl⟩)
        · refine g_aload_0 (pc := 72) X dX8_isRing_72 ?_
          refine g_iload_1 (pc := 73) X dX8_isRing_73 ?_
          refine g_iload_2 (pc := 74) X dX8_isRing_74 ?_
          refine g_callV_I (pc := 75) X Y dX8_isRing_75 miX8_isRepelled li_X8_52 (s_isRepelled (by exact hR) x y hx hy) rfl (by decide) rfl ⟨_, rfl⟩ rfl ⟨Nat.le_of_ble_eq_true rfl, Nat.le_of_ble_eq_true rfl⟩ (Nat.le_of_ble_eq_true rfl) (Nat.le_of_ble_eq_true rfl) rfl (by exact Nat.le_of_ble_eq_true rfl) (fun x9 σ1 hp => ?_)
          obtain ⟨rfl, rfl⟩ := hp
          first | refine g_if_eq_z (pc := 78) X dX8_isRing_78 (tgt := 85) (by decide) (fun h78 => ?_) (fun h78 => ?_) | refine g_if_eq (pc := 78) X dX8_isRing_78 (tgt := 85) (by decide) (fun h78 => ?_) (fun h78 => ?_)
          · refine g_iconst (pc := 85) X dX8_isRing_85 kiconst_0 ?_
            exact g_zreturn (pc := 86) X Y dX8_isRing_86 (by first | exact Or.inl rfl | exact Or.inr rfl | exact zI_01 _) (Nat.le_of_ble_eq_true rfl) (Nat.le_of_ble_eq_true rfl) (⟨_, rfl, by simp_all [ringC, zI], rfl⟩)
          · refine g_iconst (pc := 81) X dX8_isRing_81 kiconst_1 ?_
            refine g_goto (pc := 82) X dX8_isRing_82 (tgt := 86) (by decide) ?_
            exact g_zreturn (pc := 86) X Y dX8_isRing_86 (by first | exact Or.inl rfl | exact Or.inr rfl | exact zI_01 _) (Nat.le_of_ble_eq_true rfl) (Nat.le_of_ble_eq_true rfl) (⟨_, rfl, by simp_all [ringC, zI], rfl⟩)
    · refine g_iload_6 (pc := 48) X dX8_isRing_48 ?_
      first | refine g_if_eq_z (pc := 50) X dX8_isRing_50 (tgt := 62) (by decide) (fun h50 => ?_) (fun h50 => ?_) | refine g_if_eq (pc := 50) X dX8_isRing_50 (tgt := 62) (by decide) (fun h50 => ?_) (fun h50 => ?_)
      · refine g_iload_5 (pc := 62) X dX8_isRing_62 ?_
        first | refine g_if_eq_z (pc := 64) X dX8_isRing_64 (tgt := 85) (by decide) (fun h64 => ?_) (fun h64 => ?_) | refine g_if_eq (pc := 64) X dX8_isRing_64 (tgt := 85) (by decide) (fun h64 => ?_) (fun h64 => ?_)
        · refine g_iconst (pc := 85) X dX8_isRing_85 kiconst_0 ?_
          exact g_zreturn (pc := 86) X Y dX8_isRing_86 (by first | exact Or.inl rfl | exact Or.inr rfl | exact zI_01 _) (Nat.le_of_ble_eq_true rfl) (Nat.le_of_ble_eq_true rfl) (⟨_, rfl, by simp_all [ringC, zI], rfl⟩)
        · refine g_iload_6 (pc := 67) X dX8_isRing_67 ?_
          first | refine g_if_eq_z (pc := 69) X dX8_isRing_69 (tgt := 85) (by decide) (fun h69 => ?_) (fun h69 => ?_) | refine g_if_eq (pc := 69) X dX8_isRing_69 (tgt := 85) (by decide) (fun h69 => ?_) (fun h69 => ?_)
          · refine g_iconst (pc := 85) X dX8_isRing_85 kiconst_0 ?_
            exact g_zreturn (pc := 86) X Y dX8_isRing_86 (by first | exact Or.inl rfl | exact Or.inr rfl | exact zI_01 _) (Nat.le_of_ble_eq_true rfl) (Nat.le_of_ble_eq_true rfl) (⟨_, rfl, by simp_all [ringC, zI], rfl⟩)
          · refine g_aload_0 (pc := 72) X dX8_isRing_72 ?_
            refine g_iload_1 (pc := 73) X dX8_isRing_73 ?_
            refine g_iload_2 (pc := 74) X dX8_isRing_74 ?_
            refine g_callV_I (pc := 75) X Y dX8_isRing_75 miX8_isRepelled li_X8_52 (s_isRepelled (by exact hR) x y hx hy) rfl (by decide) rfl ⟨_, rfl⟩ rfl ⟨Nat.le_of_ble_eq_true rfl, Nat.le_of_ble_eq_true rfl⟩ (Nat.le_of_ble_eq_true rfl) (Nat.le_of_ble_eq_true rfl) rfl (by exact Nat.le_of_ble_eq_true rfl) (fun x9 σ1 hp => ?_)
            obtain ⟨rfl, rfl⟩ := hp
            first | refine g_if_eq_z (pc := 78) X dX8_isRing_78 (tgt := 85) (by decide) (fun h78 => ?_) (fun h78 => ?_) | refine g_if_eq (pc := 78) X dX8_isRing_78 (tgt := 85) (by decide) (fun h78 => ?_) (fun h78 => ?_)
            · refine g_iconst (pc := 85) X dX8_isRing_85 kiconst_0 ?_
              exact g_zreturn (pc := 86) X Y dX8_isRing_86 (by first | exact Or.inl rfl | exact Or.inr rfl | exact zI_01 _) (Nat.le_of_ble_eq_true rfl) (Nat.le_of_ble_eq_true rfl) (⟨_, rfl, by simp_all [ringC, zI], rfl⟩)
            · refine g_iconst (pc := 81) X dX8_isRing_81 kiconst_1 ?_
              refine g_goto (pc := 82) X dX8_isRing_82 (tgt := 86) (by decide) ?_
              exact g_zreturn (pc := 86) X Y dX8_isRing_86 (by first | exact Or.inl rfl | exact Or.inr rfl | exact zI_01 _) (Nat.le_of_ble_eq_true rfl) (Nat.le_of_ble_eq_true rfl) (⟨_, rfl, by simp_all [ringC, zI], rfl⟩)
      · refine g_aload_0 (pc := 53) X dX8_isRing_53 ?_
        refine g_iload_1 (pc := 54) X dX8_isRing_54 ?_
        refine g_iload_3 (pc := 55) X dX8_isRing_55 ?_
        refine g_callV_I (pc := 56) X Y dX8_isRing_56 miX8_isRepelled li_X8_52 (s_isRepelled (by exact hR) x z hx hz) rfl (by decide) rfl ⟨_, rfl⟩ rfl ⟨Nat.le_of_ble_eq_true rfl, Nat.le_of_ble_eq_true rfl⟩ (Nat.le_of_ble_eq_true rfl) (Nat.le_of_ble_eq_true rfl) rfl (by exact Nat.le_of_ble_eq_true rfl) (fun x9 σ1 hp => ?_)
        obtain ⟨rfl, rfl⟩ := hp
        first | refine g_if_ne_z (pc := 59) X dX8_isRing_59 (tgt := 81) (by decide) (fun h59 => ?_) (fun h59 => ?_) | refine g_if_ne (pc := 59) X dX8_isRing_59 (tgt := 81) (by decide) (fun h59 => ?_) (fun h59 => ?_)
        · refine g_iconst (pc := 81) X dX8_isRing_81 kiconst_1 ?_
          refine g_goto (pc := 82) X dX8_isRing_82 (tgt := 86) (by decide) ?_
          exact g_zreturn (pc := 86) X Y dX8_isRing_86 (by first | exact Or.inl rfl | exact Or.inr rfl | exact zI_01 _) (Nat.le_of_ble_eq_true rfl) (Nat.le_of_ble_eq_true rfl) (⟨_, rfl, by simp_all [ringC, zI], rfl⟩)
        · refine g_iload_5 (pc := 62) X dX8_isRing_62 ?_
          first | refine g_if_eq_z (pc := 64) X dX8_isRing_64 (tgt := 85) (by decide) (fun h64 => ?_) (fun h64 => ?_) | refine g_if_eq (pc := 64) X dX8_isRing_64 (tgt := 85) (by decide) (fun h64 => ?_) (fun h64 => ?_)
          · refine g_iconst (pc := 85) X dX8_isRing_85 kiconst_0 ?_
            exact g_zreturn (pc := 86) X Y dX8_isRing_86 (by first | exact Or.inl rfl | exact Or.inr rfl | exact zI_01 _) (Nat.le_of_ble_eq_true rfl) (Nat.le_of_ble_eq_true rfl) (⟨_, rfl, by simp_all [ringC, zI], rfl⟩)
          · refine g_iload_6 (pc := 67) X dX8_isRing_67 ?_
            first | refine g_if_eq_z (pc := 69) X dX8_isRing_69 (tgt := 85) (by decide) (fun h69 => ?_) (fun h69 => ?_) | refine g_if_eq (pc := 69) X dX8_isRing_69 (tgt := 85) (by decide) (fun h69 => ?_) (fun h69 => ?_)
            · refine g_iconst (pc := 85) X dX8_isRing_85 kiconst_0 ?_
              exact g_zreturn (pc := 86) X Y dX8_isRing_86 (by first | exact Or.inl rfl | exact Or.inr rfl | exact zI_01 _) (Nat.le_of_ble_eq_true rfl) (Nat.le_of_ble_eq_true rfl) (⟨_, rfl, by simp_all [ringC, zI], rfl⟩)
            · refine g_aload_0 (pc := 72) X dX8_isRing_72 ?_
              refine g_iload_1 (pc := 73) X dX8_isRing_73 ?_
              refine g_iload_2 (pc := 74) X dX8_isRing_74 ?_
              refine g_callV_I (pc := 75) X Y dX8_isRing_75 miX8_isRepelled li_X8_52 (s_isRepelled (by exact hR) x y hx hy) rfl (by decide) rfl ⟨_, rfl⟩ rfl ⟨Nat.le_of_ble_eq_true rfl, Nat.le_of_ble_eq_true rfl⟩ (Nat.le_of_ble_eq_true rfl) (Nat.le_of_ble_eq_true rfl) rfl (by exact Nat.le_of_ble_eq_true rfl) (fun x9 σ1 hp => ?_)
              obtain ⟨rfl, rfl⟩ := hp
              first | refine g_if_eq_z (pc := 78) X dX8_isRing_78 (tgt := 85) (by decide) (fun h78 => ?_) (fun h78 => ?_) | refine g_if_eq (pc := 78) X dX8_isRing_78 (tgt := 85) (by decide) (fun h78 => ?_) (fun h78 => ?_)
              · refine g_iconst (pc := 85) X dX8_isRing_85 kiconst_0 ?_
                exact g_zreturn (pc := 86) X Y dX8_isRing_86 (by first | exact Or.inl rfl | exact Or.inr rfl | exact zI_01 _) (Nat.le_of_ble_eq_true rfl) (Nat.le_of_ble_eq_true rfl) (⟨_, rfl, by simp_all [ringC, zI], rfl⟩)
              · refine g_iconst (pc := 81) X dX8_isRing_81 kiconst_1 ?_
                refine g_goto (pc := 82) X dX8_isRing_82 (tgt := 86) (by decide) ?_
                exact g_zreturn (pc := 86) X Y dX8_isRing_86 (by first | exact Or.inl rfl | exact Or.inr rfl | exact zI_01 _) (Nat.le_of_ble_eq_true rfl) (Nat.le_of_ble_eq_true rfl) (⟨_, rfl, by simp_all [ringC, zI], rfl⟩)
  · refine g_iload_5 (pc := 29) X dX8_isRing_29 ?_
    first | refine g_if_eq_z (pc := 31) X dX8_isRing_31 (tgt := 43) (by decide) (fun h31 => ?_) (fun h31 => ?_) | refine g_if_eq (pc := 31) X dX8_isRing_31 (tgt := 43) (by decide) (fun h31 => ?_) (fun h31 => ?_)
    · refine g_iload_4 (pc := 43) X dX8_isRing_43 ?_
      first | refine g_if_eq_z (pc := 45) X dX8_isRing_45 (tgt := 62) (by decide) (fun h45 => ?_) (fun h45 => ?_) | refine g_if_eq (pc := 45) X dX8_isRing_45 (tgt := 62) (by decide) (fun h45 => ?_) (fun h45 => ?_)
      · refine g_iload_5 (pc := 62) X dX8_isRing_62 ?_
        first | refine g_if_eq_z (pc := 64) X dX8_isRing_64 (tgt := 85) (by decide) (fun h64 => ?_) (fun h64 => ?_) | refine g_if_eq (pc := 64) X dX8_isRing_64 (tgt := 85) (by decide) (fun h64 => ?_) (fun h64 => ?_)
        · refine g_iconst (pc := 85) X dX8_isRing_85 kiconst_0 ?_
          exact g_zreturn (pc := 86) X Y dX8_isRing_86 (by first | exact Or.inl rfl | exact Or.inr rfl | exact zI_01 _) (Nat.le_of_ble_eq_true rfl) (Nat.le_of_ble_eq_true rfl) (⟨_, rfl, by simp_all [ringC, zI], rfl⟩)
        · refine g_iload_6 (pc := 67) X dX8_isRing_67 ?_
          first | refine g_if_eq_z (pc := 69) X dX8_isRing_69 (tgt := 85) (by decide) (fun h69 => ?_) (fun h69 => ?_) | refine g_if_eq (pc := 69) X dX8_isRing_69 (tgt := 85) (by decide) (fun h69 => ?_) (fun h69 => ?_)
          · refine g_iconst (pc := 85) X dX8_isRing_85 kiconst_0 ?_
            exact g_zreturn (pc := 86) X Y dX8_isRing_86 (by first | exact Or.inl rfl | exact Or.inr rfl | exact zI_01 _) (Nat.le_of_ble_eq_true rfl) (Nat.le_of_ble_eq_true rfl) (⟨_, rfl, by simp_all [ringC, zI], rfl⟩)
          · refine g_aload_0 (pc := 72) X dX8_isRing_72 ?_
            refine g_iload_1 (pc := 73) X dX8_isRing_73 ?_
            refine g_iload_2 (pc := 74) X dX8_isRing_74 ?_
            refine g_callV_I (pc := 75) X Y dX8_isRing_75 miX8_isRepelled li_X8_52 (s_isRepelled (by exact hR) x y hx hy) rfl (by decide) rfl ⟨_, rfl⟩ rfl ⟨Nat.le_of_ble_eq_true rfl, Nat.le_of_ble_eq_true rfl⟩ (Nat.le_of_ble_eq_true rfl) (Nat.le_of_ble_eq_true rfl) rfl (by exact Nat.le_of_ble_eq_true rfl) (fun x9 σ1 hp => ?_)
            obtain ⟨rfl, rfl⟩ := hp
            first | refine g_if_eq_z (pc := 78) X dX8_isRing_78 (tgt := 85) (by decide) (fun h78 => ?_) (fun h78 => ?_) | refine g_if_eq (pc := 78) X dX8_isRing_78 (tgt := 85) (by decide) (fun h78 => ?_) (fun h78 => ?_)
            · refine g_iconst (pc := 85) X dX8_isRing_85 kiconst_0 ?_
              exact g_zreturn (pc := 86) X Y dX8_isRing_86 (by first | exact Or.inl rfl | exact Or.inr rfl | exact zI_01 _) (Nat.le_of_ble_eq_true rfl) (Nat.le_of_ble_eq_true rfl) (⟨_, rfl, by simp_all [ringC, zI], rfl⟩)
            · refine g_iconst (pc := 81) X dX8_isRing_81 kiconst_1 ?_
              refine g_goto (pc := 82) X dX8_isRing_82 (tgt := 86) (by decide) ?_
              exact g_zreturn (pc := 86) X Y dX8_isRing_86 (by first | exact Or.inl rfl | exact Or.inr rfl | exact zI_01 _) (Nat.le_of_ble_eq_true rfl) (Nat.le_of_ble_eq_true rfl) (⟨_, rfl, by simp_all [ringC, zI], rfl⟩)
      · refine g_iload_6 (pc := 48) X dX8_isRing_48 ?_
        first | refine g_if_eq_z (pc := 50) X dX8_isRing_50 (tgt := 62) (by decide) (fun h50 => ?_) (fun h50 => ?_) | refine g_if_eq (pc := 50) X dX8_isRing_50 (tgt := 62) (by decide) (fun h50 => ?_) (fun h50 => ?_)
        · refine g_iload_5 (pc := 62) X dX8_isRing_62 ?_
          first | refine g_if_eq_z (pc := 64) X dX8_isRing_64 (tgt := 85) (by decide) (fun h64 => ?_) (fun h64 => ?_) | refine g_if_eq (pc := 64) X dX8_isRing_64 (tgt := 85) (by decide) (fun h64 => ?_) (fun h64 => ?_)
          · refine g_iconst (pc := 85) X dX8_isRing_85 kiconst_0 ?_
            exact g_zreturn (pc := 86) X Y dX8_isRing_86 (by first | exact Or.inl rfl | exact Or.inr rfl | exact zI_01 _) (Nat.le_of_ble_eq_true rfl) (Nat.le_of_ble_eq_true rfl) (⟨_, rfl, by simp_all [ringC, zI], rfl⟩)
          · refine g_iload_6 (pc := 67) X dX8_isRing_67 ?_
            first | refine g_if_eq_z (pc := 69) X dX8_isRing_69 (tgt := 85) (by decide) (fun h69 => ?_) (fun h69 => ?_) | refine g_if_eq (pc := 69) X dX8_isRing_69 (tgt := 85) (by decide) (fun h69 => ?_) (fun h69 => ?_)
            · refine g_iconst (pc := 85) X dX8_isRing_85 kiconst_0 ?_
              exact g_zreturn (pc := 86) X Y dX8_isRing_86 (by first | exact Or.inl rfl | exact Or.inr rfl | exact zI_01 _) (Nat.le_of_ble_eq_true rfl) (Nat.le_of_ble_eq_true rfl) (⟨_, rfl, by simp_all [ringC, zI], rfl⟩)
            · refine g_aload_0 (pc := 72) X dX8_isRing_72 ?_
              refine g_iload_1 (pc := 73) X dX8_isRing_73 ?_
              refine g_iload_2 (pc := 74) X dX8_isRing_74 ?_
              refine g_callV_I (pc := 75) X Y dX8_isRing_75 miX8_isRepelled li_X8_52 (s_isRepelled (by exact hR) x y hx hy) rfl (by decide) rfl ⟨_, rfl⟩ rfl ⟨Nat.le_of_ble_eq_true rfl, Nat.le_of_ble_eq_true rfl⟩ (Nat.le_of_ble_eq_true rfl) (Nat.le_of_ble_eq_true rfl) rfl (by exact Nat.le_of_ble_eq_true rfl) (fun x9 σ1 hp => ?_)
              obtain ⟨rfl, rfl⟩ := hp
              first | refine g_if_eq_z (pc := 78) X dX8_isRing_78 (tgt := 85) (by decide) (fun h78 => ?_) (fun h78 => ?_) | refine g_if_eq (pc := 78) X dX8_isRing_78 (tgt := 85) (by decide) (fun h78 => ?_) (fun h78 => ?_)
              · refine g_iconst (pc := 85) X dX8_isRing_85 kiconst_0 ?_
                exact g_zreturn (pc := 86) X Y dX8_isRing_86 (by first | exact Or.inl rfl | exact Or.inr rfl | exact zI_01 _) (Nat.le_of_ble_eq_true rfl) (Nat.le_of_ble_eq_true rfl) (⟨_, rfl, by simp_all [ringC, zI], rfl⟩)
              · refine g_iconst (pc := 81) X dX8_isRing_81 kiconst_1 ?_
                refine g_goto (pc := 82) X dX8_isRing_82 (tgt := 86) (by decide) ?_
                exact g_zreturn (pc := 86) X Y dX8_isRing_86 (by first | exact Or.inl rfl | exact Or.inr rfl | exact zI_01 _) (Nat.le_of_ble_eq_true rfl) (Nat.le_of_ble_eq_true rfl) (⟨_, rfl, by simp_all [ringC, zI], rfl⟩)
        · refine g_aload_0 (pc := 53) X dX8_isRing_53 ?_
          refine g_iload_1 (pc := 54) X dX8_isRing_54 ?_
          refine g_iload_3 (pc := 55) X dX8_isRing_55 ?_
          refine g_callV_I (pc := 56) X Y dX8_isRing_56 miX8_isRepelled li_X8_52 (s_isRepelled (by exact hR) x z hx hz) rfl (by decide) rfl ⟨_, rfl⟩ rfl ⟨Nat.le_of_ble_eq_true rfl, Nat.le_of_ble_eq_true rfl⟩ (Nat.le_of_ble_eq_true rfl) (Nat.le_of_ble_eq_true rfl) rfl (by exact Nat.le_of_ble_eq_true rfl) (fun x9 σ1 hp => ?_)
          obtain ⟨rfl, rfl⟩ := hp
          first | refine g_if_ne_z (pc := 59) X dX8_isRing_59 (tgt := 81) (by decide) (fun h59 => ?_) (fun h59 => ?_) | refine g_if_ne (pc := 59) X dX8_isRing_59 (tgt := 81) (by decide) (fun h59 => ?_) (fun h59 => ?_)
          · refine g_iconst (pc := 81) X dX8_isRing_81 kiconst_1 ?_
            refine g_goto (pc := 82) X dX8_isRing_82 (tgt := 86) (by decide) ?_
            exact g_zreturn (pc := 86) X Y dX8_isRing_86 (by first | exact Or.inl rfl | exact Or.inr rfl | exact zI_01 _) (Nat.le_of_ble_eq_true rfl) (Nat.le_of_ble_eq_true rfl) (⟨_, rfl, by simp_all [ringC, zI], rfl⟩)
          · refine g_iload_5 (pc := 62) X dX8_isRing_62 ?_
            first | refine g_if_eq_z (pc := 64) X dX8_isRing_64 (tgt := 85) (by decide) (fun h64 => ?_) (fun h64 => ?_) | refine g_if_eq (pc := 64) X dX8_isRing_64 (tgt := 85) (by decide) (fun h64 => ?_) (fun h64 => ?_)
            · refine g_iconst (pc := 85) X dX8_isRing_85 kiconst_0 ?_
              exact g_zreturn (pc := 86) X Y dX8_isRing_86 (by first | exact Or.inl rfl | exact Or.inr rfl | exact zI_01 _) (Nat.le_of_ble_eq_true rfl) (Nat.le_of_ble_eq_true rfl) (⟨_, rfl, by simp_all [ringC, zI], rfl⟩)
            · refine g_iload_6 (pc := 67) X dX8_isRing_67 ?_
              first | refine g_if_eq_z (pc := 69) X dX8_isRing_69 (tgt := 85) (by decide) (fun h69 => ?_) (fun h69 => ?_) | refine g_if_eq (pc := 69) X dX8_isRing_69 (tgt := 85) (by decide) (fun h69 => ?_) (fun h69 => ?_)
              · refine g_iconst (pc := 85) X dX8_isRing_85 kiconst_0 ?_
                exact g_zreturn (pc := 86) X Y dX8_isRing_86 (by first | exact Or.inl rfl | exact Or.inr rfl | exact zI_01 _) (Nat.le_of_ble_eq_true rfl) (Nat.le_of_ble_eq_true rfl) (⟨_, rfl, by simp_all [ringC, zI], rfl⟩)
              · refine g_aload_0 (pc := 72) X dX8_isRing_72 ?_
                refine g_iload_1 (pc := 73) X dX8_isRing_73 ?_
                refine g_iload_2 (pc := 74) X dX8_isRing_74 ?_
                refine g_callV_I (pc := 75) X Y dX8_isRing_75 miX8_isRepelled li_X8_52 (s_isRepelled (by exact hR) x y hx hy) rfl (by decide) rfl ⟨_, rfl⟩ rfl ⟨Nat.le_of_ble_eq_true rfl, Nat.le_of_ble_eq_true rfl⟩ (Nat.le_of_ble_eq_true rfl) (Nat.le_of_ble_eq_true rfl) rfl (by exact Nat.le_of_ble_eq_true rfl) (fun x9 σ1 hp => ?_)
                obtain ⟨rfl, rfl⟩ := hp
                first | refine g_if_eq_z (pc := 78) X dX8_isRing_78 (tgt := 85) (by decide) (fun h78 => ?_) (fun h78 => ?_) | refine g_if_eq (pc := 78) X dX8_isRing_78 (tgt := 85) (by decide) (fun h78 => ?_) (fun h78 => ?_)
                · refine g_iconst (pc := 85) X dX8_isRing_85 kiconst_0 ?_
                  exact g_zreturn (pc := 86) X Y dX8_isRing_86 (by first | exact Or.inl rfl | exact Or.inr rfl | exact zI_01 _) (Nat.le_of_ble_eq_true rfl) (Nat.le_of_ble_eq_true rfl) (⟨_, rfl, by simp_all [ringC, zI], rfl⟩)
                · refine g_iconst (pc := 81) X dX8_isRing_81 kiconst_1 ?_
                  refine g_goto (pc := 82) X dX8_isRing_82 (tgt := 86) (by decide) ?_
                  exact g_zreturn (pc := 86) X Y dX8_isRing_86 (by first | exact Or.inl rfl | exact Or.inr rfl | exact zI_01 _) (Nat.le_of_ble_eq_true rfl) (Nat.le_of_ble_eq_true rfl) (⟨_, rfl, by simp_all [ringC, zI], rfl⟩)
    · refine g_aload_0 (pc := 34) X dX8_isRing_34 ?_
      refine g_iload_2 (pc := 35) X dX8_isRing_35 ?_
      refine g_iload_3 (pc := 36) X dX8_isRing_36 ?_
      refine g_callV_I (pc := 37) X Y dX8_isRing_37 miX8_isRepelled li_X8_52 (s_isRepelled (by exact hR) y z hy hz) rfl (by decide) rfl ⟨_, rfl⟩ rfl ⟨Nat.le_of_ble_eq_true rfl, Nat.le_of_ble_eq_true rfl⟩ (Nat.le_of_ble_eq_true rfl) (Nat.le_of_ble_eq_true rfl) rfl (by exact Nat.le_of_ble_eq_true rfl) (fun x9 σ1 hp => ?_)
      obtain ⟨rfl, rfl⟩ := hp
      first | refine g_if_ne_z (pc := 40) X dX8_isRing_40 (tgt := 81) (by decide) (fun h40 => ?_) (fun h40 => ?_) | refine g_if_ne (pc := 40) X dX8_isRing_40 (tgt := 81) (by decide) (fun h40 => ?_) (fun h40 => ?_)
      · refine g_iconst (pc := 81) X dX8_isRing_81 kiconst_1 ?_
        refine g_goto (pc := 82) X dX8_isRing_82 (tgt := 86) (by decide) ?_
        exact g_zreturn (pc := 86) X Y dX8_isRing_86 (by first | exact Or.inl rfl | exact Or.inr rfl | exact zI_01 _) (Nat.le_of_ble_eq_true rfl) (Nat.le_of_ble_eq_true rfl) (⟨_, rfl, by simp_all [ringC, zI], rfl⟩)
      · refine g_iload_4 (pc := 43) X dX8_isRing_43 ?_
        first | refine g_if_eq_z (pc := 45) X dX8_isRing_45 (tgt := 62) (by decide) (fun h45 => ?_) (fun h45 => ?_) | refine g_if_eq (pc := 45) X dX8_isRing_45 (tgt := 62) (by decide) (fun h45 => ?_) (fun h45 => ?_)
        · refine g_iload_5 (pc := 62) X dX8_isRing_62 ?_
          first | refine g_if_eq_z (pc := 64) X dX8_isRing_64 (tgt := 85) (by decide) (fun h64 => ?_) (fun h64 => ?_) | refine g_if_eq (pc := 64) X dX8_isRing_64 (tgt := 85) (by decide) (fun h64 => ?_) (fun h64 => ?_)
          · refine g_iconst (pc := 85) X dX8_isRing_85 kiconst_0 ?_
            exact g_zreturn (pc := 86) X Y dX8_isRing_86 (by first | exact Or.inl rfl | exact Or.inr rfl | exact zI_01 _) (Nat.le_of_ble_eq_true rfl) (Nat.le_of_ble_eq_true rfl) (⟨_, rfl, by simp_all [ringC, zI], rfl⟩)
          · refine g_iload_6 (pc := 67) X dX8_isRing_67 ?_
            first | refine g_if_eq_z (pc := 69) X dX8_isRing_69 (tgt := 85) (by decide) (fun h69 => ?_) (fun h69 => ?_) | refine g_if_eq (pc := 69) X dX8_isRing_69 (tgt := 85) (by decide) (fun h69 => ?_) (fun h69 => ?_)
            · refine g_iconst (pc := 85) X dX8_isRing_85 kiconst_0 ?_
              exact g_zreturn (pc := 86) X Y dX8_isRing_86 (by first | exact Or.inl rfl | exact Or.inr rfl | exact zI_01 _) (Nat.le_of_ble_eq_true rfl) (Nat.le_of_ble_eq_true rfl) (⟨_, rfl, by simp_all [ringC, zI], rfl⟩)
            · refine g_aload_0 (pc := 72) X dX8_isRing_72 ?_
              refine g_iload_1 (pc := 73) X dX8_isRing_73 ?_
              refine g_iload_2 (pc := 74) X dX8_isRing_74 ?_
              refine g_callV_I (pc := 75) X Y dX8_isRing_75 miX8_isRepelled li_X8_52 (s_isRepelled (by exact hR) x y hx hy) rfl (by decide) rfl ⟨_, rfl⟩ rfl ⟨Nat.le_of_ble_eq_true rfl, Nat.le_of_ble_eq_true rfl⟩ (Nat.le_of_ble_eq_true rfl) (Nat.le_of_ble_eq_true rfl) rfl (by exact Nat.le_of_ble_eq_true rfl) (fun x9 σ1 hp => ?_)
              obtain ⟨rfl, rfl⟩ := hp
              first | refine g_if_eq_z (pc := 78) X dX8_isRing_78 (tgt := 85) (by decide) (fun h78 => ?_) (fun h78 => ?_) | refine g_if_eq (pc := 78) X dX8_isRing_78 (tgt := 85) (by decide) (fun h78 => ?_) (fun h78 => ?_)
              · refine g_iconst (pc := 85) X dX8_isRing_85 kiconst_0 ?_
                exact g_zreturn (pc := 86) X Y dX8_isRing_86 (by first | exact Or.inl rfl | exact Or.inr rfl | exact zI_01 _) (Nat.le_of_ble_eq_true rfl) (Nat.le_of_ble_eq_true rfl) (⟨_, rfl, by simp_all [ringC, zI], rfl⟩)
              · refine g_iconst (pc := 81) X dX8_isRing_81 kiconst_1 ?_
                refine g_goto (pc := 82) X dX8_isRing_82 (tgt := 86) (by decide) ?_
                exact g_zreturn (pc := 86) X Y dX8_isRing_86 (by first | exact Or.inl rfl | exact Or.inr rfl | exact zI_01 _) (Nat.le_of_ble_eq_true rfl) (Nat.le_of_ble_eq_true rfl) (⟨_, rfl, by simp_all [ringC, zI], rfl⟩)
        · refine g_iload_6 (pc := 48) X dX8_isRing_48 ?_
          first | refine g_if_eq_z (pc := 50) X dX8_isRing_50 (tgt := 62) (by decide) (fun h50 => ?_) (fun h50 => ?_) | refine g_if_eq (pc := 50) X dX8_isRing_50 (tgt := 62) (by decide) (fun h50 => ?_) (fun h50 => ?_)
          · refine g_iload_5 (pc := 62) X dX8_isRing_62 ?_
            first | refine g_if_eq_z (pc := 64) X dX8_isRing_64 (tgt := 85) (by decide) (fun h64 => ?_) (fun h64 => ?_) | refine g_if_eq (pc := 64) X dX8_isRing_64 (tgt := 85) (by decide) (fun h64 => ?_) (fun h64 => ?_)
            · refine g_iconst (pc := 85) X dX8_isRing_85 kiconst_0 ?_
              exact g_zreturn (pc := 86) X Y dX8_isRing_86 (by first | exact Or.inl rfl | exact Or.inr rfl | exact zI_01 _) (Nat.le_of_ble_eq_true rfl) (Nat.le_of_ble_eq_true rfl) (⟨_, rfl, by simp_all [ringC, zI], rfl⟩)
            · refine g_iload_6 (pc := 67) X dX8_isRing_67 ?_
              first | refine g_if_eq_z (pc := 69) X dX8_isRing_69 (tgt := 85) (by decide) (fun h69 => ?_) (fun h69 => ?_) | refine g_if_eq (pc := 69) X dX8_isRing_69 (tgt := 85) (by decide) (fun h69 => ?_) (fun h69 => ?_)
              · refine g_iconst (pc := 85) X dX8_isRing_85 kiconst_0 ?_
                exact g_zreturn (pc := 86) X Y dX8_isRing_86 (by first | exact Or.inl rfl | exact Or.inr rfl | exact zI_01 _) (Nat.le_of_ble_eq_true rfl) (Nat.le_of_ble_eq_true rfl) (⟨_, rfl, by simp_all [ringC, zI], rfl⟩)
              · refine g_aload_0 (pc := 72) X dX8_isRing_72 ?_
                refine g_iload_1 (pc := 73) X dX8_isRing_73 ?_
                refine g_iload_2 (pc := 74) X dX8_isRing_74 ?_
                refine g_callV_I (pc := 75) X Y dX8_isRing_75 miX8_isRepelled li_X8_52 (s_isRepelled (by exact hR) x y hx hy) rfl (by decide) rfl ⟨_, rfl⟩ rfl ⟨Nat.le_of_ble_eq_true rfl, Nat.le_of_ble_eq_true rfl⟩ (Nat.le_of_ble_eq_true rfl) (Nat.le_of_ble_eq_true rfl) rfl (by exact Nat.le_of_ble_eq_true rfl) (fun x9 σ1 hp => ?_)
                obtain ⟨rfl, rfl⟩ := hp
                first | refine g_if_eq_z (pc := 78) X dX8_isRing_78 (tgt := 85) (by decide) (fun h78 => ?_) (fun h78 => ?_) | refine g_if_eq (pc := 78) X dX8_isRing_78 (tgt := 85) (by decide) (fun h78 => ?_) (fun h78 => ?_)
                · refine g_iconst (pc := 85) X dX8_isRing_85 kiconst_0 ?_
                  exact g_zreturn (pc := 86) X Y dX8_isRing_86 (by first | exact Or.inl rfl | exact Or.inr rfl | exact zI_01 _) (Nat.le_of_ble_eq_true rfl) (Nat.le_of_ble_eq_true rfl) (⟨_, rfl, by simp_all [ringC, zI], rfl⟩)
                · refine g_iconst (pc := 81) X dX8_isRing_81 kiconst_1 ?_
                  refine g_goto (pc := 82) X dX8_isRing_82 (tgt := 86) (by decide) ?_
                  exact g_zreturn (pc := 86) X Y dX8_isRing_86 (by first | exact Or.inl rfl | exact Or.inr rfl | exact zI_01 _) (Nat.le_of_ble_eq_true rfl) (Nat.le_of_ble_eq_true rfl) (⟨_, rfl, by simp_all [ringC, zI], rfl⟩)
          · refine g_aload_0 (pc := 53) X dX8_isRing_53 ?_
            refine g_iload_1 (pc := 54) X dX8_isRing_54 ?_
            refine g_iload_3 (pc := 55) X dX8_isRing_55 ?_
            refine g_callV_I (pc := 56) X Y dX8_isRing_56 miX8_isRepelled li_X8_52 (s_isRepelled (by exact hR) x z hx hz) rfl (by decide) rfl ⟨_, rfl⟩ rfl ⟨Nat.le_of_ble_eq_true rfl, Nat.le_of_ble_eq_true rfl⟩ (Nat.le_of_ble_eq_true rfl) (Nat.le_of_ble_eq_true rfl) rfl (by exact Nat.le_of_ble_eq_true rfl) (fun x9 σ1 hp => ?_)
            obtain ⟨rfl, rfl⟩ := hp
            first | refine g_if_ne_z (pc := 59) X dX8_isRing_59 (tgt := 81) (by decide) (fun h59 => ?_) (fun h59 => ?_) | refine g_if_ne (pc := 59) X dX8_isRing_59 (tgt := 81) (by decide) (fun h59 => ?_) (fun h59 => ?_)
            · refine g_iconst (pc := 81) X dX8_isRing_81 kiconst_1 ?_
              refine g_goto (pc := 82) X dX8_isRing_82 (tgt := 86) (by decide) ?_
              exact g_zreturn (pc := 86) X Y dX8_isRing_86 (by first | exact Or.inl rfl | exact Or.inr rfl | exact zI_01 _) (Nat.le_of_ble_eq_true rfl) (Nat.le_of_ble_eq_true rfl) (⟨_, rfl, by simp_all [ringC, zI], rfl⟩)
            · refine g_iload_5 (pc := 62) X dX8_isRing_62 ?_
              first | refine g_if_eq_z (pc := 64) X dX8_isRing_64 (tgt := 85) (by decide) (fun h64 => ?_) (fun h64 => ?_) | refine g_if_eq (pc := 64) X dX8_isRing_64 (tgt := 85) (by decide) (fun h64 => ?_) (fun h64 => ?_)
              · refine g_iconst (pc := 85) X dX8_isRing_85 kiconst_0 ?_
                exact g_zreturn (pc := 86) X Y dX8_isRing_86 (by first | exact Or.inl rfl | exact Or.inr rfl | exact zI_01 _) (Nat.le_of_ble_eq_true rfl) (Nat.le_of_ble_eq_true rfl) (⟨_, rfl, by simp_all [ringC, zI], rfl⟩)
              · refine g_iload_6 (pc := 67) X dX8_isRing_67 ?_
                first | refine g_if_eq_z (pc := 69) X dX8_isRing_69 (tgt := 85) (by decide) (fun h69 => ?_) (fun h69 => ?_) | refine g_if_eq (pc := 69) X dX8_isRing_69 (tgt := 85) (by decide) (fun h69 => ?_) (fun h69 => ?_)
                · refine g_iconst (pc := 85) X dX8_isRing_85 kiconst_0 ?_
                  exact g_zreturn (pc := 86) X Y dX8_isRing_86 (by first | exact Or.inl rfl | exact Or.inr rfl | exact zI_01 _) (Nat.le_of_ble_eq_true rfl) (Nat.le_of_ble_eq_true rfl) (⟨_, rfl, by simp_all [ringC, zI], rfl⟩)
                · refine g_aload_0 (pc := 72) X dX8_isRing_72 ?_
                  refine g_iload_1 (pc := 73) X dX8_isRing_73 ?_
                  refine g_iload_2 (pc := 74) X dX8_isRing_74 ?_
                  refine g_callV_I (pc := 75) X Y dX8_isRing_75 miX8_isRepelled li_X8_52 (s_isRepelled (by exact hR) x y hx hy) rfl (by decide) rfl ⟨_, rfl⟩ rfl ⟨Nat.le_of_ble_eq_true rfl, Nat.le_of_ble_eq_true rfl⟩ (Nat.le_of_ble_eq_true rfl) (Nat.le_of_ble_eq_true rfl) rfl (by exact Nat.le_of_ble_eq_true rfl) (fun x9 σ1 hp => ?_)
                  obtain ⟨rfl, rfl⟩ := hp
                  first | refine g_if_eq_z (pc := 78) X dX8_isRing_78 (tgt := 85) (by decide) (fun h78 => ?_) (fun h78 => ?_) | refine g_if_eq (pc := 78) X dX8_isRing_78 (tgt := 85) (by decide) (fun h78 => ?_) (fun h78 => ?_)
                  · refine g_iconst (pc := 85) X dX8_isRing_85 kiconst_0 ?_
                    exact g_zreturn (pc := 86) X Y dX8_isRing_86 (by first | exact Or.inl rfl | exact Or.inr rfl | exact zI_01 _) (Nat.le_of_ble_eq_true rfl) (Nat.le_of_ble_eq_true rfl) (⟨_, rfl, by simp_all [ringC, zI], rfl⟩)
                  · refine g_iconst (pc := 81) X dX8_isRing_81 kiconst_1 ?_
                    refine g_goto (pc := 82) X dX8_isRing_82 (tgt := 86) (by decide) ?_
                    exact g_zreturn (pc := 86) X Y dX8_isRing_86 (by first | exact Or.inl rfl | exact Or.inr rfl | exact zI_01 _) (Nat.le_of_ble_eq_true rfl) (Nat.le_of_ble_eq_true rfl) (⟨_, rfl, by simp_all [ringC, zI], rfl⟩)
set_option maxHeartbeats 4000000 in
theorem s_rest {o : gOm} {l : Launch} {σ : gSt} {b : Bool} (hR : σ.2.2 = gRf b) (k : Nat) (hk : k < 116) (hlay : lay k = (0, 900)) (a c : Nat) (ha : a < 30) (hc : c < 30)  : Sp o l mX8_rest 2 0 0 [.ref (ad o 42), .ref (ad o k), .int (nI a), .int (nI c)] 116 116 σ (pI (fun x9 σ1 => x9 = (restC σ k a c) ∧ σ = σ1)) := by
  refine Sp.of (ls0 := [some (.ref (ad o 42)), some (.ref (ad o k)), some (.int (nI a)), some (.int (nI c)), none]) miX8_rest rfl (Nat.le_of_ble_eq_true rfl) rfl (fun γ hγ hnm X Y => ?_)
  subst hγ
  have X : gX o γ cX8_rest 5 RX8 := X
  refine g_aload_0 (pc := 0) X dX8_rest_0 ?_
  refine g_getRf (pc := 1) X dX8_rest_1 fl_X8_21 rfl (by decide) rfl hR rfl ?_
  refine g_iload_2 (pc := 4) X dX8_rest_4 ?_
  refine g_iload_3 (pc := 5) X dX8_rest_5 ?_
  refine g_callV_I (pc := 6) X Y dX8_rest_6 miX4_isNever li_X8_45 (s_isNever (by exact hR) a c ha hc) rfl (by decide) rfl ⟨_, rfl⟩ rfl ⟨Nat.le_of_ble_eq_true rfl, Nat.le_of_ble_eq_true rfl⟩ (Nat.le_of_ble_eq_true rfl) (Nat.le_of_ble_eq_true rfl) rfl (by exact Nat.le_of_ble_eq_true rfl) (fun x9 σ1 hp => ?_)
  obtain ⟨rfl, rfl⟩ := hp
  apply g_val (v := .int (if bt (σ.1 26 a) c then (1000000 : Int32) else absI (σ.1 24 (a * 30 + c)))) (pcJ := 29)
  · intro T9
    first | refine g_if_eq_z (pc := 9) X dX8_rest_9 (tgt := 17) (by decide) (fun h9 => ?_) (fun h9 => ?_) | refine g_if_eq (pc := 9) X dX8_rest_9 (tgt := 17) (by decide) (fun h9 => ?_) (fun h9 => ?_)
    · refine g_aload_0 (pc := 17) X dX8_rest_17 ?_
      refine g_getRf (pc := 18) X dX8_rest_18 fl_X8_21 rfl (by decide) rfl hR rfl ?_
      refine g_iload_2 (pc := 21) X dX8_rest_21 ?_
      refine g_iload_3 (pc := 22) X dX8_rest_22 ?_
      refine g_callV_I (pc := 23) X Y dX8_rest_23 miX4_pull li_X8_39 (s_pull (by exact hR) a c ha hc) rfl (by decide) rfl ⟨_, rfl⟩ rfl ⟨Nat.le_of_ble_eq_true rfl, Nat.le_of_ble_eq_true rfl⟩ (Nat.le_of_ble_eq_true rfl) (Nat.le_of_ble_eq_true rfl) rfl (by exact Nat.le_of_ble_eq_true rfl) (fun x9 σ1 hp => ?_)
      obtain ⟨rfl, rfl⟩ := hp
      refine g_mabs (pc := 26) X Y dX8_rest_26 li_X8_56 (by decide) (Nat.le_refl _) (Nat.le_refl _) (by exact Nat.le_of_ble_eq_true rfl) ?_
      exact T9 _ (by first | (rw [h9]; rfl) | simp [h9, absI])
    · refine g_ldc (pc := 12) X dX8_rest_12 ct_X8_55 ?_
      refine g_goto (pc := 14) X dX8_rest_14 (tgt := 29) (by decide) ?_
      exact T9 _ (by first | (rw [h9]; rfl) | simp [h9, absI])
  · refine g_istore_4 (pc := 29) X dX8_rest_29 (by decide) rfl ?_
    refine g_iload_4 (pc := 31) X dX8_rest_31 ?_
    refine g_aload_1 (pc := 33) X dX8_rest_33 ?_
    refine g_iload_2 (pc := 34) X dX8_rest_34 ?_
    refine g_bipush (pc := 35) X dX8_rest_35 kbipush_30 ?_
    first | refine g_imul_n (pc := 37) X dX8_rest_37 ?_ | refine g_imul (pc := 37) X dX8_rest_37 ?_
    refine g_iload_3 (pc := 38) X dX8_rest_38 ?_
    first | refine g_iadd_n (pc := 39) X dX8_rest_39 ?_ | refine g_iadd (pc := 39) X dX8_rest_39 ?_
    refine g_iaload_n (pc := 40) X dX8_rest_40 hlay hk (rfl) (by omega) ?_
    refine g_isub (pc := 41) X dX8_rest_41 ?_
    exact g_ireturn (pc := 42) X Y dX8_rest_42 (Nat.le_of_ble_eq_true rfl) (Nat.le_of_ble_eq_true rfl) (⟨_, rfl, rfl, rfl⟩)
set_option maxHeartbeats 4000000 in
theorem s_leastRest {o : gOm} {l : Launch} {σ : gSt} {b : Bool} (hR : σ.2.2 = gRf b) (k : Nat) (hk : k < 116) (hlay : lay k = (0, 900)) (x y z : Nat) (hx : x < 30) (hy : y < 30) (hz : z < 30)  : Sp o l mX8_leastRest 3 0 0 [.ref (ad o 42), .ref (ad o k), .int (nI x), .int (nI y), .int (nI z)] 116 116 σ (pI (fun x9 σ1 => x9 = (minI (restC σ k x y) (minI (restC σ k x z) (restC σ k y z))) ∧ σ = σ1)) := by
  refine Sp.of (ls0 := [some (.ref (ad o 42)), some (.ref (ad o k)), some (.int (nI x)), some (.int (nI y)), some (.int (nI z))]) miX8_leastRest rfl (Nat.le_of_ble_eq_true rfl) rfl (fun γ hγ hnm X Y => ?_)
  subst hγ
  have X : gX o γ cX8_leastRest 5 RX8 := X
  refine g_aload_0 (pc := 0) X dX8_leastRest_0 ?_
  refine g_aload_1 (pc := 1) X dX8_leastRest_1 ?_
  refine g_iload_2 (pc := 2) X dX8_leastRest_2 ?_
  refine g_iload_3 (pc := 3) X dX8_leastRest_3 ?_
  refine g_callV_I (pc := 4) X Y dX8_leastRest_4 miX8_rest li_X8_62 (s_rest (by exact hR) k hk hlay x y hx hy) rfl (by decide) rfl ⟨_, rfl⟩ rfl ⟨Nat.le_of_ble_eq_true rfl, Nat.le_of_ble_eq_true rfl⟩ (Nat.le_of_ble_eq_true rfl) (Nat.le_of_ble_eq_true rfl) rfl (by exact Nat.le_of_ble_eq_true rfl) (fun x9 σ1 hp => ?_)
  obtain ⟨rfl, rfl⟩ := hp
  refine g_aload_0 (pc := 7) X dX8_leastRest_7 ?_
  refine g_aload_1 (pc := 8) X dX8_leastRest_8 ?_
  refine g_iload_2 (pc := 9) X dX8_leastRest_9 ?_
  refine g_iload_4 (pc := 10) X dX8_leastRest_10 ?_
  refine g_callV_I (pc := 12) X Y dX8_leastRest_12 miX8_rest li_X8_62 (s_rest (by exact hR) k hk hlay x z hx hz) rfl (by decide) rfl ⟨_, rfl⟩ rfl ⟨Nat.le_of_ble_eq_true rfl, Nat.le_of_ble_eq_true rfl⟩ (Nat.le_of_ble_eq_true rfl) (Nat.le_of_ble_eq_true rfl) rfl (by exact Nat.le_of_ble_eq_true rfl) (fun x9 σ1 hp => ?_)
  obtain ⟨rfl, rfl⟩ := hp
  refine g_aload_0 (pc := 15) X dX8_leastRest_15 ?_
  refine g_aload_1 (pc := 16) X dX8_leastRest_16 ?_
  refine g_iload_3 (pc := 17) X dX8_leastRest_17 ?_
  refine g_iload_4 (pc := 18) X dX8_leastRest_18 ?_
  refine g_callV_I (pc := 20) X Y dX8_leastRest_20 miX8_rest li_X8_62 (s_rest (by exact hR) k hk hlay y z hy hz) rfl (by decide) rfl ⟨_, rfl⟩ rfl ⟨Nat.le_of_ble_eq_true rfl, Nat.le_of_ble_eq_true rfl⟩ (Nat.le_of_ble_eq_true rfl) (Nat.le_of_ble_eq_true rfl) rfl (by exact Nat.le_of_ble_eq_true rfl) (fun x9 σ1 hp => ?_)
  obtain ⟨rfl, rfl⟩ := hp
  refine g_mmin (pc := 23) X Y dX8_leastRest_23 li_X8_66 (by decide) (Nat.le_refl _) (Nat.le_refl _) (by exact Nat.le_of_ble_eq_true rfl) ?_
  refine g_mmin (pc := 26) X Y dX8_leastRest_26 li_X8_66 (by decide) (Nat.le_refl _) (Nat.le_refl _) (by exact Nat.le_of_ble_eq_true rfl) ?_
  exact g_ireturn (pc := 29) X Y dX8_leastRest_29 (Nat.le_of_ble_eq_true rfl) (Nat.le_of_ble_eq_true rfl) (⟨_, rfl, rfl, rfl⟩)
set_option maxHeartbeats 4000000 in
theorem s_takeFrom {o : gOm} {l : Launch} {σ : gSt} (k : Nat) (hk : k < 116) (hlay : lay k = (0, 900)) (a c : Nat) (ha : a < 30) (hc : c < 30) (hne : a ≠ c) (v : Int32) : Sp o l mX8_takeFrom 1 0 0 [.ref (ad o 42), .ref (ad o k), .int (nI a), .int (nI c), .int v] 116 116 σ (pV (fun σ1 => Off [k] σ σ1 ∧ ∀ j, σ1.1 k j = if j = a * 30 + c ∨ j = c * 30 + a then σ.1 k j + v else σ.1 k j)) := by
  refine Sp.of (ls0 := [some (.ref (ad o 42)), some (.ref (ad o k)), some (.int (nI a)), some (.int (nI c)), some (.int v)]) miX8_takeFrom rfl (Nat.le_of_ble_eq_true rfl) rfl (fun γ hγ hnm X Y => ?_)
  subst hγ
  have X : gX o γ cX8_takeFrom 5 RX8 := X
  refine g_aload_1 (pc := 0) X dX8_takeFrom_0 ?_
  refine g_iload_2 (pc := 1) X dX8_takeFrom_1 ?_
  refine g_bipush (pc := 2) X dX8_takeFrom_2 kbipush_30 ?_
  first | refine g_imul_n (pc := 4) X dX8_takeFrom_4 ?_ | refine g_imul (pc := 4) X dX8_takeFrom_4 ?_
  refine g_iload_3 (pc := 5) X dX8_takeFrom_5 ?_
  first | refine g_iadd_n (pc := 6) X dX8_takeFrom_6 ?_ | refine g_iadd (pc := 6) X dX8_takeFrom_6 ?_
  refine g_dup2 (pc := 7) X dX8_takeFrom_7 rfl rfl ?_
  refine g_iaload_n (pc := 8) X dX8_takeFrom_8 hlay hk (rfl) (by omega) ?_
  refine g_iload_4 (pc := 9) X dX8_takeFrom_9 ?_
  first | refine g_iadd_n (pc := 11) X dX8_takeFrom_11 ?_ | refine g_iadd (pc := 11) X dX8_takeFrom_11 ?_
  refine g_iastore_n (pc := 12) X dX8_takeFrom_12 hlay hk (rfl) (by omega) ?_
  refine g_aload_1 (pc := 13) X dX8_takeFrom_13 ?_
  refine g_iload_3 (pc := 14) X dX8_takeFrom_14 ?_
  refine g_bipush (pc := 15) X dX8_takeFrom_15 kbipush_30 ?_
  first | refine g_imul_n (pc := 17) X dX8_takeFrom_17 ?_ | refine g_imul (pc := 17) X dX8_takeFrom_17 ?_
  refine g_iload_2 (pc := 18) X dX8_takeFrom_18 ?_
  first | refine g_iadd_n (pc := 19) X dX8_takeFrom_19 ?_ | refine g_iadd (pc := 19) X dX8_takeFrom_19 ?_
  refine g_dup2 (pc := 20) X dX8_takeFrom_20 rfl rfl ?_
  refine g_iaload_n (pc := 21) X dX8_takeFrom_21 hlay hk (rfl) (by omega) ?_
  refine g_iload_4 (pc := 22) X dX8_takeFrom_22 ?_
  first | refine g_iadd_n (pc := 24) X dX8_takeFrom_24 ?_ | refine g_iadd (pc := 24) X dX8_takeFrom_24 ?_
  refine g_iastore_n (pc := 25) X dX8_takeFrom_25 hlay hk (rfl) (by omega) ?_
  refine g_return (pc := 26) X Y dX8_takeFrom_26 (Nat.le_of_ble_eq_true rfl) (Nat.le_of_ble_eq_true rfl) ⟨rfl, (Off.rf.i (by simp)).i (by simp), fun j => ?_⟩
  have hne2 : ¬ c * 30 + a = a * 30 + c := by omega
  rw [sI_get, sI_get, sI_get]
  by_cases e1 : j = c * 30 + a
  · simp [e1, hne2]
  · by_cases e2 : j = a * 30 + c
    · have : ¬ a * 30 + c = c * 30 + a := by omega
      simp [e2, this]
    · simp [e1, e2]
set_option maxHeartbeats 4000000 in
theorem s_takeFromAll {o : gOm} {l : Launch} {σ : gSt} (k : Nat) (hk : k < 116) (hlay : lay k = (0, 900)) (x y z : Nat) (hx : x < 30) (hy : y < 30) (hz : z < 30) (n1 : x ≠ y) (n2 : x ≠ z) (n3 : y ≠ z) (v : Int32) : Sp o l mX8_takeFromAll 2 0 0 [.ref (ad o 42), .ref (ad o k), .int (nI x), .int (nI y), .int (nI z), .int v] 116 116 σ (pV (fun σ1 => Off [k] σ σ1 ∧ ∀ j, σ1.1 k j = if (j = x * 30 + y ∨ j = y * 30 + x ∨ j = x * 30 + z ∨ j = z * 30 + x ∨ j = y * 30 + z ∨ j = z * 30 + y) then σ.1 k j + v else σ.1 k j)) := by
  refine Sp.of (ls0 := [some (.ref (ad o 42)), some (.ref (ad o k)), some (.int (nI x)), some (.int (nI y)), some (.int (nI z)), some (.int v)]) miX8_takeFromAll rfl (Nat.le_of_ble_eq_true rfl) rfl (fun γ hγ hnm X Y => ?_)
  subst hγ
  have X : gX o γ cX8_takeFromAll 6 RX8 := X
  refine g_aload_0 (pc := 0) X dX8_takeFromAll_0 ?_
  refine g_aload_1 (pc := 1) X dX8_takeFromAll_1 ?_
  refine g_iload_2 (pc := 2) X dX8_takeFromAll_2 ?_
  refine g_iload_3 (pc := 3) X dX8_takeFromAll_3 ?_
  refine g_iload_5 (pc := 4) X dX8_takeFromAll_4 ?_
  refine g_callV_V (pc := 6) X Y dX8_takeFromAll_6 miX8_takeFrom li_X8_69 (s_takeFrom k hk hlay x y hx hy n1 v) rfl (by decide) rfl ⟨_, rfl⟩ rfl ⟨Nat.le_of_ble_eq_true rfl, Nat.le_of_ble_eq_true rfl⟩ (Nat.le_of_ble_eq_true rfl) (Nat.le_of_ble_eq_true rfl) rfl (by exact Nat.le_of_ble_eq_true rfl) (fun σ1 hp => ?_)
  obtain ⟨hO1, w1⟩ := hp
  refine g_aload_0 (pc := 9) X dX8_takeFromAll_9 ?_
  refine g_aload_1 (pc := 10) X dX8_takeFromAll_10 ?_
  refine g_iload_2 (pc := 11) X dX8_takeFromAll_11 ?_
  refine g_iload_4 (pc := 12) X dX8_takeFromAll_12 ?_
  refine g_iload_5 (pc := 14) X dX8_takeFromAll_14 ?_
  refine g_callV_V (pc := 16) X Y dX8_takeFromAll_16 miX8_takeFrom li_X8_69 (s_takeFrom k hk hlay x z hx hz n2 v) rfl (by decide) rfl ⟨_, rfl⟩ rfl ⟨Nat.le_of_ble_eq_true rfl, Nat.le_of_ble_eq_true rfl⟩ (Nat.le_of_ble_eq_true rfl) (Nat.le_of_ble_eq_true rfl) rfl (by exact Nat.le_of_ble_eq_true rfl) (fun σ2 hp => ?_)
  obtain ⟨hO2, w2⟩ := hp
  refine g_aload_0 (pc := 19) X dX8_takeFromAll_19 ?_
  refine g_aload_1 (pc := 20) X dX8_takeFromAll_20 ?_
  refine g_iload_3 (pc := 21) X dX8_takeFromAll_21 ?_
  refine g_iload_4 (pc := 22) X dX8_takeFromAll_22 ?_
  refine g_iload_5 (pc := 24) X dX8_takeFromAll_24 ?_
  refine g_callV_V (pc := 26) X Y dX8_takeFromAll_26 miX8_takeFrom li_X8_69 (s_takeFrom k hk hlay y z hy hz n3 v) rfl (by decide) rfl ⟨_, rfl⟩ rfl ⟨Nat.le_of_ble_eq_true rfl, Nat.le_of_ble_eq_true rfl⟩ (Nat.le_of_ble_eq_true rfl) (Nat.le_of_ble_eq_true rfl) rfl (by exact Nat.le_of_ble_eq_true rfl) (fun σ3 hp => ?_)
  obtain ⟨hO3, w3⟩ := hp
  refine g_return (pc := 29) X Y dX8_takeFromAll_29 (Nat.le_of_ble_eq_true rfl) (Nat.le_of_ble_eq_true rfl) ⟨rfl, (hO1.trans hO2).trans hO3, fun j => ?_⟩
  rw [w3, w2, w1]
  by_cases e1 : j = x * 30 + y ∨ j = y * 30 + x
  · rw [if_neg (by omega), if_neg (by omega), if_pos e1, if_pos (by omega)]
  · by_cases e2 : j = x * 30 + z ∨ j = z * 30 + x
    · rw [if_neg (by omega), if_pos e2, if_neg e1, if_pos (by omega)]
    · by_cases e3 : j = y * 30 + z ∨ j = z * 30 + y
      · rw [if_pos e3, if_neg e2, if_neg e1, if_pos (by omega)]
      · rw [if_neg e3, if_neg e2, if_neg e1, if_neg (by omega)]
set_option maxHeartbeats 4000000 in
theorem s_canTake {o : gOm} {l : Launch} {σ : gSt} {b : Bool} (hR : σ.2.2 = gRf b) (x y z : Nat) (hx : x < 30) (hy : y < 30) (hz : z < 30) (v : Int32) : Sp o l mX8_canTake 4 0 0 [.ref (ad o 42), .int (nI x), .int (nI y), .int (nI z), .int v] 116 116 σ (pI (fun x9 σ1 => x9 = (zI (decide (v ≤ minI (restC σ 43 x y) (minI (restC σ 43 x z) (restC σ 43 y z))))) ∧ σ = σ1)) := by
  refine Sp.of (ls0 := [some (.ref (ad o 42)), some (.int (nI x)), some (.int (nI y)), some (.int (nI z)), some (.int v)]) miX8_canTake rfl (Nat.le_of_ble_eq_true rfl) rfl (fun γ hγ hnm X Y => ?_)
  subst hγ
  have X : gX o γ cX8_canTake 5 RX8 := X
  refine g_aload_0 (pc := 0) X dX8_canTake_0 ?_
  refine g_aload_0 (pc := 1) X dX8_canTake_1 ?_
  refine g_getRf (pc := 2) X dX8_canTake_2 fl_X8_9 rfl (by decide) rfl hR rfl ?_
  refine g_iload_1 (pc := 5) X dX8_canTake_5 ?_
  refine g_iload_2 (pc := 6) X dX8_canTake_6 ?_
  refine g_iload_3 (pc := 7) X dX8_canTake_7 ?_
  refine g_callV_I (pc := 8) X Y dX8_canTake_8 miX8_leastRest li_X8_73 (s_leastRest (by exact hR) 43 (by decide) rfl x y z hx hy hz) rfl (by decide) rfl ⟨_, rfl⟩ rfl ⟨Nat.le_of_ble_eq_true rfl, Nat.le_of_ble_eq_true rfl⟩ (Nat.le_of_ble_eq_true rfl) (Nat.le_of_ble_eq_true rfl) rfl (by exact Nat.le_of_ble_eq_true rfl) (fun x9 σ1 hp => ?_)
  obtain ⟨rfl, rfl⟩ := hp
  refine g_iload_4 (pc := 11) X dX8_canTake_11 ?_
  refine g_icmp_lt (pc := 13) X dX8_canTake_13 (tgt := 20) (by decide) (fun h13 => ?_) (fun h13 => ?_)
  · refine g_iconst (pc := 20) X dX8_canTake_20 kiconst_0 ?_
    exact g_zreturn (pc := 21) X Y dX8_canTake_21 (by first | exact Or.inl rfl | exact Or.inr rfl | exact zI_01 _) (Nat.le_of_ble_eq_true rfl) (Nat.le_of_ble_eq_true rfl) (⟨_, rfl, by simp_all [zI, ← Int32.not_le], rfl⟩)
  · refine g_iconst (pc := 16) X dX8_canTake_16 kiconst_1 ?_
    refine g_goto (pc := 17) X dX8_canTake_17 (tgt := 21) (by decide) ?_
    exact g_zreturn (pc := 21) X Y dX8_canTake_21 (by first | exact Or.inl rfl | exact Or.inr rfl | exact zI_01 _) (Nat.le_of_ble_eq_true rfl) (Nat.le_of_ble_eq_true rfl) (⟨_, rfl, by simp_all [zI, ← Int32.not_le], rfl⟩)
set_option maxHeartbeats 4000000 in
theorem s_tellRing {o : gOm} {l : Launch} {σ : gSt} {b : Bool} (hR : σ.2.2 = gRf b) (x y z : Nat) (hx : x < 30) (hy : y < 30) (hz : z < 30) (n1 : x ≠ y) (n2 : x ≠ z) (n3 : y ≠ z) (v : Int32) (T : Nat) (hT : σ.1 42 0 = nI T) : Sp o l mX8_tell 3 0 0 [.ref (ad o 42), .int (nI x), .int (nI y), .int (nI z), .int v] 116 116 σ (pV (fun σ1 => Off [42, 43] σ σ1 ∧ (∀ j, σ1.1 43 j = if (j = x * 30 + y ∨ j = y * 30 + x ∨ j = x * 30 + z ∨ j = z * 30 + x ∨ j = y * 30 + z ∨ j = z * 30 + y) then σ.1 43 j + v else σ.1 43 j) ∧ σ1.1 42 0 = nI (T + 1) ∧ (∀ j, j ≠ 0 → σ1.1 42 j = σ.1 42 j) ∧ σ1.2.1 42 1 = σ.2.1 42 1 + v.toInt64 ∧ (∀ j, j ≠ 1 → σ1.2.1 42 j = σ.2.1 42 j))) := by
  refine Sp.of (ls0 := [some (.ref (ad o 42)), some (.int (nI x)), some (.int (nI y)), some (.int (nI z)), some (.int v)]) miX8_tell rfl (Nat.le_of_ble_eq_true rfl) rfl (fun γ hγ hnm X Y => ?_)
  subst hγ
  have X : gX o γ cX8_tell 5 RX8 := X
  refine g_aload_0 (pc := 0) X dX8_tell_0 ?_
  refine g_aload_0 (pc := 1) X dX8_tell_1 ?_
  refine g_getRf (pc := 2) X dX8_tell_2 fl_X8_9 rfl (by decide) rfl hR rfl ?_
  refine g_iload_1 (pc := 5) X dX8_tell_5 ?_
  refine g_iload_2 (pc := 6) X dX8_tell_6 ?_
  refine g_iload_3 (pc := 7) X dX8_tell_7 ?_
  refine g_iload_4 (pc := 8) X dX8_tell_8 ?_
  refine g_callV_V (pc := 10) X Y dX8_tell_10 miX8_takeFromAll li_X8_77 (s_takeFromAll 43 (by decide) rfl x y z hx hy hz n1 n2 n3 v) rfl (by decide) rfl ⟨_, rfl⟩ rfl ⟨Nat.le_of_ble_eq_true rfl, Nat.le_of_ble_eq_true rfl⟩ (Nat.le_of_ble_eq_true rfl) (Nat.le_of_ble_eq_true rfl) rfl (by exact Nat.le_of_ble_eq_true rfl) (fun σ1 hp => ?_)
  obtain ⟨hO1, w1⟩ := hp
  refine g_aload_0 (pc := 13) X dX8_tell_13 ?_
  refine g_dup (pc := 14) X dX8_tell_14 rfl ?_
  refine g_getI (pc := 15) X dX8_tell_15 rfl (by decide) fl_X8_25 (Or.inl rfl) ?_
  rw [show σ1.1 42 0 = nI T by rw [(hO1.1 42 (by decide)).1]; exact hT]
  refine g_iconst (pc := 18) X dX8_tell_18 kiconst_1 ?_
  first | refine g_iadd_n (pc := 19) X dX8_tell_19 ?_ | refine g_iadd (pc := 19) X dX8_tell_19 ?_
  refine g_putI (pc := 20) X dX8_tell_20 fl_X8_25 rfl (by decide) rfl rfl ?_
  refine g_aload_0 (pc := 23) X dX8_tell_23 ?_
  refine g_dup (pc := 24) X dX8_tell_24 rfl ?_
  refine g_getL (pc := 25) X dX8_tell_25 rfl (by decide) fl_X8_35 rfl ?_
  refine g_iload_4 (pc := 28) X dX8_tell_28 ?_
  refine g_i2l (pc := 30) X dX8_tell_30 ?_
  refine g_ladd (pc := 31) X dX8_tell_31 ?_
  refine g_putL (pc := 32) X dX8_tell_32 fl_X8_35 rfl (by decide) rfl rfl ?_
  refine g_return (pc := 35) X Y dX8_tell_35 (Nat.le_of_ble_eq_true rfl) (Nat.le_of_ble_eq_true rfl) ⟨rfl, ((hO1.mono (by simp)).i (by simp)).l (by simp), fun j => ?_, ?_, fun j hj => ?_, ?_, fun j hj => ?_⟩
  · rw [sL_get1, sI_get, if_neg (by simp)]; exact w1 j
  · rw [sL_get1, sI_get, if_pos ⟨rfl, rfl⟩]
  · rw [sL_get1, sI_get, if_neg (by simp [hj]), (hO1.1 42 (by decide)).1]
  · rw [sL_get, if_pos ⟨rfl, rfl⟩, sI_get2, (hO1.1 42 (by decide)).2]
  · rw [sL_get, if_neg (by simp [hj]), sI_get2, (hO1.1 42 (by decide)).2]
set_option maxHeartbeats 4000000 in
theorem s_change0 {o : gOm} {l : Launch} {σ : gSt} {b : Bool} (hR : σ.2.2 = gRf b) (v : Int32) : Sp o l mX3_change 1 0 0 [.ref (ad o 30), .int (nI 0), .int v] 116 116 σ (pI (fun x σ1 => x = σ.1 30 5 ∧ σ1 = sI σ 30 5 v)) := by
  refine Sp.of (ls0 := [some (.ref (ad o 30)), some (.int (nI 0)), some (.int v), none]) miX3_change rfl (Nat.le_of_ble_eq_true rfl) rfl (fun γ hγ hnm X Y => ?_)
  subst hγ
  have X : gX o γ cX3_change 4 RX3 := X
  refine g_iload_1 (pc := 0) X dX3_change_0 ?_
  refine g_if_ne (pc := 1) X dX3_change_1 (tgt := 11) (by decide) (fun h1 => ?_) (fun h1 => ?_)
  · exact absurd rfl h1
  · refine g_aload_0 (pc := 4) X dX3_change_4 ?_
    refine g_getI (pc := 5) X dX3_change_5 rfl (by decide) fl_X3_30 (Or.inl rfl) ?_
    refine g_goto (pc := 8) X dX3_change_8 (tgt := 27) (by decide) ?_
    refine g_istore_3 (pc := 27) X dX3_change_27 (by decide) rfl ?_
    refine g_iload_1 (pc := 28) X dX3_change_28 ?_
    refine g_if_ne (pc := 29) X dX3_change_29 (tgt := 40) (by decide) (fun h29 => ?_) (fun h29 => ?_)
    · exact absurd rfl h29
    · refine g_aload_0 (pc := 32) X dX3_change_32 ?_
      refine g_iload_2 (pc := 33) X dX3_change_33 ?_
      refine g_putI (pc := 34) X dX3_change_34 fl_X3_30 rfl (by decide) rfl rfl ?_
      refine g_goto (pc := 37) X dX3_change_37 (tgt := 58) (by decide) ?_
      refine g_iload_3 (pc := 58) X dX3_change_58 ?_
      exact g_ireturn (pc := 59) X Y dX3_change_59 (Nat.le_of_ble_eq_true rfl) (Nat.le_of_ble_eq_true rfl) (⟨_, rfl, rfl, rfl⟩)
set_option maxHeartbeats 4000000 in
theorem s_setLikeness {o : gOm} {l : Launch} {σ : gSt} {b : Bool} (hR : σ.2.2 = gRf b) (a c : Nat) (v : Int32) (ha : a < 16) (hc : c < 16) : Sp o l mX1_setLikeness 1 0 0 [.ref (ad o 1), .int (nI a), .int (nI c), .int v] 116 116 σ (pI (fun x σ1 => x = σ.1 3 (a * 16 + c) ∧ Off [3] σ σ1 ∧ ∀ j, σ1.1 3 j = if j = a * 16 + c ∨ j = c * 16 + a then v else σ.1 3 j)) := by
  refine Sp.of (ls0 := [some (.ref (ad o 1)), some (.int (nI a)), some (.int (nI c)), some (.int v), none]) miX1_setLikeness rfl (Nat.le_of_ble_eq_true rfl) rfl (fun γ hγ hnm X Y => ?_)
  subst hγ
  have X : gX o γ cX1_setLikeness 5 RX1 := X
  refine g_aload_0 (pc := 0) X dX1_setLikeness_0 ?_
  refine g_getRf (pc := 1) X dX1_setLikeness_1 fl_X1_15 rfl (by decide) rfl hR rfl ?_
  refine g_iload_1 (pc := 4) X dX1_setLikeness_4 ?_
  refine g_bipush (pc := 5) X dX1_setLikeness_5 kbipush_16 ?_
  first | refine g_imul_n (pc := 7) X dX1_setLikeness_7 ?_ | refine g_imul (pc := 7) X dX1_setLikeness_7 ?_
  refine g_iload_2 (pc := 8) X dX1_setLikeness_8 ?_
  first | refine g_iadd_n (pc := 9) X dX1_setLikeness_9 ?_ | refine g_iadd (pc := 9) X dX1_setLikeness_9 ?_
  refine g_iaload_n (pc := 10) X dX1_setLikeness_10 rfl (by decide) (rfl) (by omega) ?_
  refine g_istore_4 (pc := 11) X dX1_setLikeness_11 (by decide) rfl ?_
  refine g_aload_0 (pc := 13) X dX1_setLikeness_13 ?_
  refine g_getRf (pc := 14) X dX1_setLikeness_14 fl_X1_15 rfl (by decide) rfl hR rfl ?_
  refine g_iload_1 (pc := 17) X dX1_setLikeness_17 ?_
  refine g_bipush (pc := 18) X dX1_setLikeness_18 kbipush_16 ?_
  first | refine g_imul_n (pc := 20) X dX1_setLikeness_20 ?_ | refine g_imul (pc := 20) X dX1_setLikeness_20 ?_
  refine g_iload_2 (pc := 21) X dX1_setLikeness_21 ?_
  first | refine g_iadd_n (pc := 22) X dX1_setLikeness_22 ?_ | refine g_iadd (pc := 22) X dX1_setLikeness_22 ?_
  refine g_iload_3 (pc := 23) X dX1_setLikeness_23 ?_
  refine g_iastore_n (pc := 24) X dX1_setLikeness_24 rfl (by decide) (rfl) (by omega) ?_
  refine g_aload_0 (pc := 25) X dX1_setLikeness_25 ?_
  refine g_getRf (pc := 26) X dX1_setLikeness_26 fl_X1_15 rfl (by decide) rfl hR rfl ?_
  refine g_iload_2 (pc := 29) X dX1_setLikeness_29 ?_
  refine g_bipush (pc := 30) X dX1_setLikeness_30 kbipush_16 ?_
  first | refine g_imul_n (pc := 32) X dX1_setLikeness_32 ?_ | refine g_imul (pc := 32) X dX1_setLikeness_32 ?_
  refine g_iload_1 (pc := 33) X dX1_setLikeness_33 ?_
  first | refine g_iadd_n (pc := 34) X dX1_setLikeness_34 ?_ | refine g_iadd (pc := 34) X dX1_setLikeness_34 ?_
  refine g_iload_3 (pc := 35) X dX1_setLikeness_35 ?_
  refine g_iastore_n (pc := 36) X dX1_setLikeness_36 rfl (by decide) (rfl) (by omega) ?_
  refine g_iload_4 (pc := 37) X dX1_setLikeness_37 ?_
  exact g_ireturn (pc := 39) X Y dX1_setLikeness_39 (Nat.le_of_ble_eq_true rfl) (Nat.le_of_ble_eq_true rfl) (⟨_, rfl, rfl, (Off.rf.i (by simp)).i (by simp), fun j => by rw [sI_get, sI_get]; by_cases e1 : j = c * 16 + a; simp [e1]; by_cases e2 : j = a * 16 + c <;> simp [e1, e2]⟩)
