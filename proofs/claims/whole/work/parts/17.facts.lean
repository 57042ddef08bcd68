/-! what is known of the entries, as the class keeps it; the facts of a pair, in the reference's numbers -/
def fct (like : Nat → Int32) (bk nm td yr : Nat → Nat) (fa : Nat → Int32) (a c w : Nat) : Int32 := match w with
  | 1 => if nm a = nm c then nI 100 else like (nm a * 16 + nm c)
  | 2 => absI (nI (yr a) - nI (yr c))
  | 3 => zI (decide (td a = td c))
  | 4 => zI (decide (bk a = bk c))
  | 5 => zI (decide (¬ fa a = -1) && decide (¬ fa c = -1) && decide (fa a = fa c))
  | _ => zI (decide (¬ fa a = -1) && decide (¬ fa c = -1) && decide (¬ fa a = fa c))
def entAt (σ : gSt) (N : Nat) (bk nm td yr : Nat → Nat) (fa : Nat → Int32) : Prop := σ.1 1 0 = nI N ∧ N ≤ 30 ∧ ∀ i, i < N → σ.1 2 (i * 5) = nI (bk i) ∧ σ.1 2 (i * 5 + 1) = nI (nm i) ∧ σ.1 2 (i * 5 + 2) = nI (td i) ∧ σ.1 2 (i * 5 + 3) = nI (yr i) ∧ σ.1 2 (i * 5 + 4) = fa i ∧ bk i < 8 ∧ nm i < 16 ∧ td i < 8 ∧ yr i < 200
theorem entAt.off {σ σ1 : gSt} {N : Nat} {bk nm td yr : Nat → Nat} {fa : Nat → Int32} {ks : List Nat} (h : entAt σ N bk nm td yr fa) (hO : Off ks σ σ1) (h1 : 1 ∉ ks) (h2 : 2 ∉ ks) : entAt σ1 N bk nm td yr fa := by
  unfold entAt
  rw [(hO.1 1 h1).1, (hO.1 2 h2).1]
  exact h
set_option maxHeartbeats 4000000 in
theorem s_compare {o : gOm} {l : Launch} {σ : gSt} {b : Bool} (hR : σ.2.2 = gRf b) {N : Nat} {bk nm td yr : Nat → Nat} {fa : Nat → Int32} (hE : entAt σ N bk nm td yr fa) (a c : Nat) (ha : a < N) (hc : c < N) : Sp o l mX1_compare 3 0 0 [.ref (ad o 1), .int (nI a), .int (nI c), .ref (ad o 29)] 116 116 σ (pV (fun σ1 => Off [29] σ σ1 ∧ ∀ w, w < 6 → σ1.1 29 w = fct (σ.1 3) bk nm td yr fa a c (w + 1))) := by
  refine Sp.of (ls0 := [some (.ref (ad o 1)), some (.int (nI a)), some (.int (nI c)), some (.ref (ad o 29)), none, none, none]) miX1_compare rfl (Nat.le_of_ble_eq_true rfl) rfl (fun γ hγ hnm X Y => ?_)
  subst hγ
  have X : gX o γ cX1_compare 7 RX1 := X
  have hN := hE.2.1
  have ea := hE.2.2 a ha
  have ec := hE.2.2 c hc
  refine g_aload_0 (pc := 0) X dX1_compare_0 ?_
  refine g_iload_1 (pc := 1) X dX1_compare_1 ?_
  refine g_iconst (pc := 2) X dX1_compare_2 kiconst_4 ?_
  refine g_callV_I (pc := 3) X Y dX1_compare_3 miX1_trait li_X1_22 (s_trait (by exact hR) a 4 (by omega) (by decide)) rfl (by decide) rfl ⟨_, rfl⟩ rfl ⟨Nat.le_of_ble_eq_true rfl, Nat.le_of_ble_eq_true rfl⟩ (Nat.le_of_ble_eq_true rfl) (Nat.le_of_ble_eq_true rfl) rfl (by exact Nat.le_of_ble_eq_true rfl) (fun x9 σ1 hp => ?_)
  obtain ⟨rfl, rfl⟩ := hp
  simp only [sI_get, Nat.reduceEqDiff, false_and, if_false, Nat.add_zero, Nat.reduceAdd, ea.2.2.2.2.1]
  refine g_istore_4 (pc := 6) X dX1_compare_6 (by decide) rfl ?_
  refine g_aload_0 (pc := 8) X dX1_compare_8 ?_
  refine g_iload_2 (pc := 9) X dX1_compare_9 ?_
  refine g_iconst (pc := 10) X dX1_compare_10 kiconst_4 ?_
  refine g_callV_I (pc := 11) X Y dX1_compare_11 miX1_trait li_X1_22 (s_trait (by exact hR) c 4 (by omega) (by decide)) rfl (by decide) rfl ⟨_, rfl⟩ rfl ⟨Nat.le_of_ble_eq_true rfl, Nat.le_of_ble_eq_true rfl⟩ (Nat.le_of_ble_eq_true rfl) (Nat.le_of_ble_eq_true rfl) rfl (by exact Nat.le_of_ble_eq_true rfl) (fun x9 σ1 hp => ?_)
  obtain ⟨rfl, rfl⟩ := hp
  simp only [sI_get, Nat.reduceEqDiff, false_and, if_false, Nat.add_zero, Nat.reduceAdd, ec.2.2.2.2.1]
  refine g_istore_5 (pc := 14) X dX1_compare_14 (by decide) rfl ?_
  refine g_iload_4 (pc := 16) X dX1_compare_16 ?_
  refine g_iconst (pc := 18) X dX1_compare_18 kiconst_m1 ?_
  apply g_val (v := .int (zI (decide (¬ fa a = -1) && decide (¬ fa c = -1)))) (pcJ := 33)
  · intro T9
    refine g_icmp_eq (pc := 19) X dX1_compare_19 (tgt := 32) (by decide) (fun h19 => ?_) (fun h19 => ?_)
    · refine g_iconst (pc := 32) X dX1_compare_32 kiconst_0 ?_
      exact T9 _ (by simp_all [zI])
    · refine g_iload_5 (pc := 22) X dX1_compare_22 ?_
      refine g_iconst (pc := 24) X dX1_compare_24 kiconst_m1 ?_
      refine g_icmp_eq (pc := 25) X dX1_compare_25 (tgt := 32) (by decide) (fun h25 => ?_) (fun h25 => ?_)
      · refine g_iconst (pc := 32) X dX1_compare_32 kiconst_0 ?_
        exact T9 _ (by simp_all [zI])
      · refine g_iconst (pc := 28) X dX1_compare_28 kiconst_1 ?_
        refine g_goto (pc := 29) X dX1_compare_29 (tgt := 33) (by decide) ?_
        exact T9 _ (by simp_all [zI])
  · refine g_istore_6 (pc := 33) X dX1_compare_33 (by decide) rfl ?_
    refine g_aload_3 (pc := 35) X dX1_compare_35 ?_
    refine g_iconst (pc := 36) X dX1_compare_36 kiconst_0 ?_
    refine g_aload_0 (pc := 37) X dX1_compare_37 ?_
    refine g_iload_1 (pc := 38) X dX1_compare_38 ?_
    refine g_iload_2 (pc := 39) X dX1_compare_39 ?_
    refine g_callV_I (pc := 40) X Y dX1_compare_40 miX1_likeOf li_X1_32 (s_likeOf (by exact hR) a c (nm a) (nm c) (by omega) (by omega) ea.2.1 ec.2.1 ea.2.2.2.2.2.2.1 ec.2.2.2.2.2.2.1) rfl (by decide) rfl ⟨_, rfl⟩ rfl ⟨Nat.le_of_ble_eq_true rfl, Nat.le_of_ble_eq_true rfl⟩ (Nat.le_of_ble_eq_true rfl) (Nat.le_of_ble_eq_true rfl) rfl (by exact Nat.le_of_ble_eq_true rfl) (fun x9 σ1 hp => ?_)
    obtain ⟨rfl, rfl⟩ := hp
    refine g_iastore_n (pc := 43) X dX1_compare_43 rfl (by decide) (rfl) (by omega) ?_
    refine g_aload_3 (pc := 44) X dX1_compare_44 ?_
    refine g_iconst (pc := 45) X dX1_compare_45 kiconst_1 ?_
    refine g_aload_0 (pc := 46) X dX1_compare_46 ?_
    refine g_iload_1 (pc := 47) X dX1_compare_47 ?_
    refine g_iload_2 (pc := 48) X dX1_compare_48 ?_
    refine g_callV_I (pc := 49) X Y dX1_compare_49 miX1_yearsBetween li_X1_35 (s_years (by exact hR) a c (by omega) (by omega)) rfl (by decide) rfl ⟨_, rfl⟩ rfl ⟨Nat.le_of_ble_eq_true rfl, Nat.le_of_ble_eq_true rfl⟩ (Nat.le_of_ble_eq_true rfl) (Nat.le_of_ble_eq_true rfl) rfl (by exact Nat.le_of_ble_eq_true rfl) (fun x9 σ1 hp => ?_)
    obtain ⟨rfl, rfl⟩ := hp
    simp only [sI_get, Nat.reduceEqDiff, false_and, if_false, Nat.add_zero, Nat.reduceAdd, ea.2.2.2.1, ec.2.2.2.1]
    refine g_iastore_n (pc := 52) X dX1_compare_52 rfl (by decide) (rfl) (by omega) ?_
    refine g_aload_3 (pc := 53) X dX1_compare_53 ?_
    refine g_iconst (pc := 54) X dX1_compare_54 kiconst_2 ?_
    refine g_aload_0 (pc := 55) X dX1_compare_55 ?_
    refine g_iload_1 (pc := 56) X dX1_compare_56 ?_
    refine g_iconst (pc := 57) X dX1_compare_57 kiconst_2 ?_
    refine g_callV_I (pc := 58) X Y dX1_compare_58 miX1_trait li_X1_22 (s_trait (by exact hR) a 2 (by omega) (by decide)) rfl (by decide) rfl ⟨_, rfl⟩ rfl ⟨Nat.le_of_ble_eq_true rfl, Nat.le_of_ble_eq_true rfl⟩ (Nat.le_of_ble_eq_true rfl) (Nat.le_of_ble_eq_true rfl) rfl (by exact Nat.le_of_ble_eq_true rfl) (fun x9 σ1 hp => ?_)
    obtain ⟨rfl, rfl⟩ := hp
    simp only [sI_get, Nat.reduceEqDiff, false_and, if_false, Nat.add_zero, Nat.reduceAdd, ea.2.2.1]
    refine g_aload_0 (pc := 61) X dX1_compare_61 ?_
    refine g_iload_2 (pc := 62) X dX1_compare_62 ?_
    refine g_iconst (pc := 63) X dX1_compare_63 kiconst_2 ?_
    refine g_callV_I (pc := 64) X Y dX1_compare_64 miX1_trait li_X1_22 (s_trait (by exact hR) c 2 (by omega) (by decide)) rfl (by decide) rfl ⟨_, rfl⟩ rfl ⟨Nat.le_of_ble_eq_true rfl, Nat.le_of_ble_eq_true rfl⟩ (Nat.le_of_ble_eq_true rfl) (Nat.le_of_ble_eq_true rfl) rfl (by exact Nat.le_of_ble_eq_true rfl) (fun x9 σ1 hp => ?_)
    obtain ⟨rfl, rfl⟩ := hp
    simp only [sI_get, Nat.reduceEqDiff, false_and, if_false, Nat.add_zero, Nat.reduceAdd, ec.2.2.1]
    apply g_val (v := .int (zI (decide (td a = td c)))) (pcJ := 75)
    · intro T9
      first | refine g_icmp_ne_n (pc := 67) X dX1_compare_67 (tgt := 74) (by decide) (by omega) (by omega) (fun h67 => ?_) (fun h67 => ?_) | refine g_icmp_ne (pc := 67) X dX1_compare_67 (tgt := 74) (by decide) (fun h67 => ?_) (fun h67 => ?_)
      · refine g_iconst (pc := 74) X dX1_compare_74 kiconst_0 ?_
        exact T9 _ (by simp_all [zI])
      · refine g_iconst (pc := 70) X dX1_compare_70 kiconst_1 ?_
        refine g_goto (pc := 71) X dX1_compare_71 (tgt := 75) (by decide) ?_
        exact T9 _ (by simp_all [zI])
    · refine g_iastore_n (pc := 75) X dX1_compare_75 rfl (by decide) (rfl) (by omega) ?_
      refine g_aload_3 (pc := 76) X dX1_compare_76 ?_
      refine g_iconst (pc := 77) X dX1_compare_77 kiconst_3 ?_
      refine g_aload_0 (pc := 78) X dX1_compare_78 ?_
      refine g_iload_1 (pc := 79) X dX1_compare_79 ?_
      refine g_iload_2 (pc := 80) X dX1_compare_80 ?_
      refine g_callV_I (pc := 81) X Y dX1_compare_81 miX1_sameBook li_X1_38 (s_sameBook (by exact hR) a c (by omega) (by omega)) rfl (by decide) rfl ⟨_, rfl⟩ rfl ⟨Nat.le_of_ble_eq_true rfl, Nat.le_of_ble_eq_true rfl⟩ (Nat.le_of_ble_eq_true rfl) (Nat.le_of_ble_eq_true rfl) rfl (by exact Nat.le_of_ble_eq_true rfl) (fun x9 σ1 hp => ?_)
      obtain ⟨rfl, rfl⟩ := hp
      have hbk : (σ.1 2 (a * 5) = σ.1 2 (c * 5)) = (bk a = bk c) := by rw [ea.1, ec.1]; exact propext (nI_eq (by omega) (by omega))
      simp only [sI_get, Nat.reduceEqDiff, false_and, if_false, Nat.add_zero, Nat.reduceAdd, hbk]
      apply g_val (v := .int (zI (decide (bk a = bk c)))) (pcJ := 92)
      · intro T9
        first | refine g_if_eq_z (pc := 84) X dX1_compare_84 (tgt := 91) (by decide) (fun h84 => ?_) (fun h84 => ?_) | refine g_if_eq (pc := 84) X dX1_compare_84 (tgt := 91) (by decide) (fun h84 => ?_) (fun h84 => ?_)
        · refine g_iconst (pc := 91) X dX1_compare_91 kiconst_0 ?_
          exact T9 _ (by simp_all [zI])
        · refine g_iconst (pc := 87) X dX1_compare_87 kiconst_1 ?_
          refine g_goto (pc := 88) X dX1_compare_88 (tgt := 92) (by decide) ?_
          exact T9 _ (by simp_all [zI])
      · refine g_iastore_n (pc := 92) X dX1_compare_92 rfl (by decide) (rfl) (by omega) ?_
        refine g_aload_3 (pc := 93) X dX1_compare_93 ?_
        refine g_iconst (pc := 94) X dX1_compare_94 kiconst_4 ?_
        refine g_iload_6 (pc := 95) X dX1_compare_95 ?_
        apply g_val (v := .int (zI (decide (¬ fa a = -1) && decide (¬ fa c = -1) && decide (fa a = fa c)))) (pcJ := 112)
        · intro T9
          first | refine g_if_eq_z (pc := 97) X dX1_compare_97 (tgt := 111) (by decide) (fun h97 => ?_) (fun h97 => ?_) | refine g_if_eq (pc := 97) X dX1_compare_97 (tgt := 111) (by decide) (fun h97 => ?_) (fun h97 => ?_)
          · refine g_iconst (pc := 111) X dX1_compare_111 kiconst_0 ?_
            exact T9 _ (by first | (simp_all [zI]; done) | (rw [h97]; rfl))
          · refine g_iload_4 (pc := 100) X dX1_compare_100 ?_
            refine g_iload_5 (pc := 102) X dX1_compare_102 ?_
            refine g_icmp_ne (pc := 104) X dX1_compare_104 (tgt := 111) (by decide) (fun h104 => ?_) (fun h104 => ?_)
            · refine g_iconst (pc := 111) X dX1_compare_111 kiconst_0 ?_
              exact T9 _ (by first | (simp_all [zI]; done) | (rw [h97]; rfl))
            · refine g_iconst (pc := 107) X dX1_compare_107 kiconst_1 ?_
              refine g_goto (pc := 108) X dX1_compare_108 (tgt := 112) (by decide) ?_
              exact T9 _ (by first | (simp_all [zI]; done) | (rw [h97]; rfl))
        · refine g_iastore_n (pc := 112) X dX1_compare_112 rfl (by decide) (rfl) (by omega) ?_
          refine g_aload_3 (pc := 113) X dX1_compare_113 ?_
          refine g_iconst (pc := 114) X dX1_compare_114 kiconst_5 ?_
          refine g_iload_6 (pc := 115) X dX1_compare_115 ?_
          apply g_val (v := .int (zI (decide (¬ fa a = -1) && decide (¬ fa c = -1) && decide (¬ fa a = fa c)))) (pcJ := 132)
          · intro T9
            first | refine g_if_eq_z (pc := 117) X dX1_compare_117 (tgt := 131) (by decide) (fun h117 => ?_) (fun h117 => ?_) | refine g_if_eq (pc := 117) X dX1_compare_117 (tgt := 131) (by decide) (fun h117 => ?_) (fun h117 => ?_)
            · refine g_iconst (pc := 131) X dX1_compare_131 kiconst_0 ?_
              exact T9 _ (by first | (simp_all [zI]; done) | (rw [h117]; rfl))
            · refine g_iload_4 (pc := 120) X dX1_compare_120 ?_
              refine g_iload_5 (pc := 122) X dX1_compare_122 ?_
              refine g_icmp_eq (pc := 124) X dX1_compare_124 (tgt := 131) (by decide) (fun h124 => ?_) (fun h124 => ?_)
              · refine g_iconst (pc := 131) X dX1_compare_131 kiconst_0 ?_
                exact T9 _ (by first | (simp_all [zI]; done) | (rw [h117]; rfl))
              · refine g_iconst (pc := 127) X dX1_compare_127 kiconst_1 ?_
                refine g_goto (pc := 128) X dX1_compare_128 (tgt := 132) (by decide) ?_
                exact T9 _ (by first | (simp_all [zI]; done) | (rw [h117]; rfl))
          · refine g_iastore_n (pc := 132) X dX1_compare_132 rfl (by decide) (rfl) (by omega) ?_
            refine g_return (pc := 133) X Y dX1_compare_133 (Nat.le_of_ble_eq_true rfl) (Nat.le_of_ble_eq_true rfl) ⟨rfl, (((((Off.rf.i (by simp)).i (by simp)).i (by simp)).i (by simp)).i (by simp)).i (by simp), fun w hw => ?_⟩
            have hw6 : w = 0 ∨ w = 1 ∨ w = 2 ∨ w = 3 ∨ w = 4 ∨ w = 5 := by omega
            rcases hw6 with rfl | rfl | rfl | rfl | rfl | rfl <;> simp [sI_get, fct]
set_option maxHeartbeats 4000000 in
theorem s_write {o : gOm} {l : Launch} {σ : gSt} {b : Bool} (hR : σ.2.2 = gRf b) (a c : Nat) (v g : Int32) (nv : Bool) (ha : a < 30) (hc : c < 30) : Sp o l mX4_write 2 0 0 [.ref (ad o 16), .int (nI a), .int (nI c), .int v, .int g, .int (zI nv)] 116 116 σ (pV (fun σ1 => Off [24, 25, 26] σ σ1 ∧ (∀ j, σ1.1 24 j = if j = a * 30 + c ∨ j = c * 30 + a then v else σ.1 24 j) ∧ (∀ j, σ1.1 25 j = if j = a * 30 + c ∨ j = c * 30 + a then g else σ.1 25 j) ∧ rowSet (σ.1 26) (σ1.1 26) a c nv)) := by
  refine Sp.of (ls0 := [some (.ref (ad o 16)), some (.int (nI a)), some (.int (nI c)), some (.int v), some (.int g), some (.int (zI nv))]) miX4_write rfl (Nat.le_of_ble_eq_true rfl) rfl (fun γ hγ hnm X Y => ?_)
  subst hγ
  have X : gX o γ cX4_write 6 RX4 := X
  refine g_aload_0 (pc := 0) X dX4_write_0 ?_
  refine g_getRf (pc := 1) X dX4_write_1 fl_X4_18 rfl (by decide) rfl hR rfl ?_
  refine g_iload_1 (pc := 4) X dX4_write_4 ?_
  refine g_bipush (pc := 5) X dX4_write_5 kbipush_30 ?_
  first | refine g_imul_n (pc := 7) X dX4_write_7 ?_ | refine g_imul (pc := 7) X dX4_write_7 ?_
  refine g_iload_2 (pc := 8) X dX4_write_8 ?_
  first | refine g_iadd_n (pc := 9) X dX4_write_9 ?_ | refine g_iadd (pc := 9) X dX4_write_9 ?_
  refine g_iload_3 (pc := 10) X dX4_write_10 ?_
  refine g_iastore_n (pc := 11) X dX4_write_11 rfl (by decide) (rfl) (by omega) ?_
  refine g_aload_0 (pc := 12) X dX4_write_12 ?_
  refine g_getRf (pc := 13) X dX4_write_13 fl_X4_18 rfl (by decide) rfl hR rfl ?_
  refine g_iload_2 (pc := 16) X dX4_write_16 ?_
  refine g_bipush (pc := 17) X dX4_write_17 kbipush_30 ?_
  first | refine g_imul_n (pc := 19) X dX4_write_19 ?_ | refine g_imul (pc := 19) X dX4_write_19 ?_
  refine g_iload_1 (pc := 20) X dX4_write_20 ?_
  first | refine g_iadd_n (pc := 21) X dX4_write_21 ?_ | refine g_iadd (pc := 21) X dX4_write_21 ?_
  refine g_iload_3 (pc := 22) X dX4_write_22 ?_
  refine g_iastore_n (pc := 23) X dX4_write_23 rfl (by decide) (rfl) (by omega) ?_
  refine g_aload_0 (pc := 24) X dX4_write_24 ?_
  refine g_getRf (pc := 25) X dX4_write_25 fl_X4_22 rfl (by decide) rfl hR rfl ?_
  refine g_iload_1 (pc := 28) X dX4_write_28 ?_
  refine g_bipush (pc := 29) X dX4_write_29 kbipush_30 ?_
  first | refine g_imul_n (pc := 31) X dX4_write_31 ?_ | refine g_imul (pc := 31) X dX4_write_31 ?_
  refine g_iload_2 (pc := 32) X dX4_write_32 ?_
  first | refine g_iadd_n (pc := 33) X dX4_write_33 ?_ | refine g_iadd (pc := 33) X dX4_write_33 ?_
  refine g_iload_4 (pc := 34) X dX4_write_34 ?_
  refine g_iastore_n (pc := 36) X dX4_write_36 rfl (by decide) (rfl) (by omega) ?_
  refine g_aload_0 (pc := 37) X dX4_write_37 ?_
  refine g_getRf (pc := 38) X dX4_write_38 fl_X4_22 rfl (by decide) rfl hR rfl ?_
  refine g_iload_2 (pc := 41) X dX4_write_41 ?_
  refine g_bipush (pc := 42) X dX4_write_42 kbipush_30 ?_
  first | refine g_imul_n (pc := 44) X dX4_write_44 ?_ | refine g_imul (pc := 44) X dX4_write_44 ?_
  refine g_iload_1 (pc := 45) X dX4_write_45 ?_
  first | refine g_iadd_n (pc := 46) X dX4_write_46 ?_ | refine g_iadd (pc := 46) X dX4_write_46 ?_
  refine g_iload_4 (pc := 47) X dX4_write_47 ?_
  refine g_iastore_n (pc := 49) X dX4_write_49 rfl (by decide) (rfl) (by omega) ?_
  refine g_aload_0 (pc := 50) X dX4_write_50 ?_
  refine g_getRf (pc := 51) X dX4_write_51 fl_X4_25 rfl (by decide) rfl hR rfl ?_
  refine g_iload_1 (pc := 54) X dX4_write_54 ?_
  refine g_iload_2 (pc := 55) X dX4_write_55 ?_
  refine g_iload_5 (pc := 56) X dX4_write_56 ?_
  refine g_callSN_V (pc := 58) X Y dX4_write_58 miX11_setBit li_X4_58 (s_setBit (k := 26) (len := 30) (by decide) rfl ha hc (by decide)) rfl ⟨Nat.le_of_ble_eq_true rfl, Nat.le_of_ble_eq_true rfl⟩ (Nat.le_of_ble_eq_true rfl) (Nat.le_of_ble_eq_true rfl) rfl (by exact Nat.le_of_ble_eq_true rfl) (fun σ1 hp => ?_)
  obtain ⟨hO, hs⟩ := hp
  refine g_return (pc := 61) X Y dX4_write_61 (Nat.le_of_ble_eq_true rfl) (Nat.le_of_ble_eq_true rfl) ⟨rfl, ((((Off.rf.i (k := 24) (by simp)).i (k := 24) (by simp)).i (k := 25) (by simp)).i (k := 25) (by simp)).trans (hO.mono (by simp)), fun j => ?_, fun j => ?_, ?_⟩
  · rw [(hO.1 24 (by decide)).1]
    simp only [sI_get, Nat.reduceEqDiff, false_and, if_false, true_and]
    by_cases e1 : j = c * 30 + a
    · simp [e1]
    · by_cases e2 : j = a * 30 + c <;> simp [e1, e2]
  · rw [(hO.1 25 (by decide)).1]
    simp only [sI_get, Nat.reduceEqDiff, false_and, if_false, true_and]
    by_cases e1 : j = c * 30 + a
    · simp [e1]
    · by_cases e2 : j = a * 30 + c <;> simp [e1, e2]
  · exact hs
