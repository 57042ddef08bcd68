/-! rules and draft are exchanged -/
def swR (b : Bool) (s : gSt) : gSt := sR (sR s 4 3 (some (kR b))) 16 1 (some (kD b))
theorem gRL_not (b : Bool) : gRL (!b) = ((gRL b).set 4 (((gRL b).getD 4 []).set 3 (some (kR b)))).set 16 (((gRL b).getD 16 []).set 1 (some (kD b))) := by cases b <;> rfl
theorem getD_set_at {α : Type} {l : List α} {i : Nat} {x d : α} (h : i < l.length) : (l.set i x).getD i d = x := by
  rw [List.getD_eq_getElem?_getD, List.getElem?_set_self h]
  rfl
theorem getD_set_ne {α : Type} {l : List α} {i j : Nat} {x d : α} (h : i ≠ j) : (l.set i x).getD j d = l.getD j d := by
  rw [List.getD_eq_getElem?_getD, List.getElem?_set_ne h, ← List.getD_eq_getElem?_getD]
theorem swR_ref {b : Bool} {s : gSt} (hR : s.2.2 = gRf b) : (swR b s).2.2 = gRf (!b) := by
  have l1 : 16 < ((gRL b).set 4 (((gRL b).getD 4 []).set 3 (some (kR b)))).length := by cases b <;> decide
  have l2 : 4 < (gRL b).length := by cases b <;> decide
  have l3 : 3 < ((gRL b).getD 4 []).length := by cases b <;> decide
  have l4 : 1 < ((gRL b).getD 16 []).length := by cases b <;> decide
  funext k j
  have e : s.2.2 k j = ((gRL b).getD k []).getD j none := by rw [hR]; rfl
  unfold swR
  show (if k = 16 then (fun c => if c = 1 then some (kD b) else (if (16 : Nat) = 4 then (fun c => if c = 3 then some (kR b) else s.2.2 4 c) else s.2.2 16) c) else (if k = 4 then (fun c => if c = 3 then some (kR b) else s.2.2 4 c) else s.2.2 k)) j = ((gRL (!b)).getD k []).getD j none
  rw [gRL_not]
  by_cases h16 : k = 16
  · subst h16
    rw [if_pos rfl, getD_set_at l1]
    by_cases h1 : j = 1
    · subst h1
      rw [getD_set_at l4]
      rfl
    · rw [getD_set_ne (Ne.symm h1)]
      show (if j = 1 then some (kD b) else s.2.2 16 j) = _
      rw [if_neg h1, e]
  · rw [if_neg h16, getD_set_ne (Ne.symm h16)]
    by_cases h4 : k = 4
    · subst h4
      rw [if_pos rfl, getD_set_at l2]
      by_cases h3 : j = 3
      · subst h3
        rw [getD_set_at l3]
        rfl
      · rw [getD_set_ne (Ne.symm h3)]
        show (if j = 3 then some (kR b) else s.2.2 4 j) = _
        rw [if_neg h3, e]
    · rw [if_neg h4, getD_set_ne (Ne.symm h4), e]
def W_X11_rules (b : Bool) (p0 : Int32) (Q : Int32 → gSt → Prop) (QX : String → gSt → Prop) (σ : gSt) : Prop := W_X11_isWithin p0 (nI 0) (σ.1 4 0) (fun x1 => W_X11_refuseUnless x1 (W_X7_read b p0 (fun x2 s3 => ((x2 = 0 → (Q ((s3.1 4 1) - nI 10) s3)) ∧ (¬ x2 = 0 → (WSV mX4_judgeFrom 7 (fun o => [.ref (ad o 16), .int (nI 0)]) (fun s7 => WSV mX8_wipe 2 (fun o => [.ref (ad o 42)]) (fun s8 => Q (s8.1 (kD b) 0) s8) s7) (swR b s3))))) σ) QX σ) σ
set_option maxHeartbeats 4000000 in
theorem t_X11_rules {o : gOm} {l : Launch} {b : Bool} {σ : gSt} (hst : l.stackTraces = false) (hR : σ.2.2 = gRf b) {p0 : Int32} {Q : Int32 → gSt → Prop} {QX : String → gSt → Prop} (h : W_X11_rules b p0 Q QX σ) : SpX o l mX11_rules 126 1 6 [.ref (ad o 0), .int p0] 116 σ (pI (fun x s => (∃ c, s.2.2 = gRf c) ∧ Q x s)) (fun E s => s.2.2 = gRf b ∧ QX E s) := by
  cases b
  all_goals
    unfold W_X11_rules at h
    refine SpX.of (ls0 := [some (.ref (ad o 0)), some (.int p0), none]) hst miX11_rules rfl (Nat.le_of_ble_eq_true rfl) rfl (fun γ hγ X Y T => ?_)
    subst hγ
    have X : gX o γ cX11_rules 3 RX11 := X
    refine g_iload_1 (pc := 0) X dX11_rules_0 ?_
    refine g_iconst (pc := 1) X dX11_rules_1 kiconst_0 ?_
    refine g_aload_0 (pc := 2) X dX11_rules_2 ?_
    refine g_getRf (pc := 3) X dX11_rules_3 fl_X11_21 rfl (by decide) rfl hR rfl ?_
    refine g_getI (pc := 6) X dX11_rules_6 rfl (by decide) fl_X11_150 (Or.inl rfl) ?_
    refine g_callS_I (pc := 9) X Y dX11_rules_9 miX11_isWithin li_X11_100 (t_X11_isWithin hR h) rfl ⟨Nat.le_of_ble_eq_true rfl, Nat.le_of_ble_eq_true rfl⟩ (Nat.le_of_ble_eq_true rfl) (Nat.le_of_ble_eq_true rfl) rfl (by exact Nat.le_of_ble_eq_true rfl) (fun x1 σ9 hp => ?_)
    obtain ⟨rfl, h⟩ := hp
    refine g_callSX_V (pc := 12) X Y dX11_rules_12 miX11_refuseUnless li_X11_104 (t_X11_refuseUnless hst hR h) rfl ⟨Nat.le_of_ble_eq_true rfl, Nat.le_of_ble_eq_true rfl⟩ ⟨Nat.le_of_ble_eq_true rfl, Nat.le_of_ble_eq_true rfl⟩ (by exact Nat.le_of_ble_eq_true rfl) rfl (fun E σ9 hp => g_out X T hp (Nat.le_of_ble_eq_true rfl) (Nat.le_of_ble_eq_true rfl)) (fun σ9 hp => ?_)
    obtain ⟨rfl, h⟩ := hp
    refine g_aload_0 (pc := 15) X dX11_rules_15 ?_
    refine g_getRf (pc := 16) X dX11_rules_16 fl_X11_21 rfl (by decide) rfl hR rfl ?_
    refine g_iload_1 (pc := 19) X dX11_rules_19 ?_
    refine g_callV_I (pc := 20) X Y dX11_rules_20 miX7_read li_X11_156 (t_X7_read hR h) rfl (by decide) rfl ⟨_, rfl⟩ rfl ⟨Nat.le_of_ble_eq_true rfl, Nat.le_of_ble_eq_true rfl⟩ (Nat.le_of_ble_eq_true rfl) (Nat.le_of_ble_eq_true rfl) rfl (by exact Nat.le_of_ble_eq_true rfl) (fun x2 s3 hp => ?_)
    obtain ⟨hR3, h⟩ := hp
    refine g_if_ne (pc := 23) X dX11_rules_23 (tgt := 37) (by decide) (fun q1 => ?_) (fun q1 => ?_)
    · replace h := h.2 q1
      refine g_aload_0 (pc := 37) X dX11_rules_37 ?_
      refine g_getRf (pc := 38) X dX11_rules_38 fl_X11_21 rfl (by decide) rfl hR3 rfl ?_
      refine g_getRf (pc := 41) X dX11_rules_41 fl_X11_163 rfl (by decide) rfl hR3 rfl ?_
      refine g_astore_2 (pc := 44) X dX11_rules_44 (by decide) rfl ?_
      refine g_aload_0 (pc := 45) X dX11_rules_45 ?_
      refine g_getRf (pc := 46) X dX11_rules_46 fl_X11_21 rfl (by decide) rfl hR3 rfl ?_
      refine g_aload_0 (pc := 49) X dX11_rules_49 ?_
      refine g_getRf (pc := 50) X dX11_rules_50 fl_X11_30 rfl (by decide) rfl hR3 rfl ?_
      refine g_getRf (pc := 53) X dX11_rules_53 fl_X11_167 rfl (by decide) rfl hR3 rfl ?_
      refine g_putR (pc := 56) X dX11_rules_56 fl_X11_163 rfl (by decide) rfl rfl ?_
      refine g_aload_0 (pc := 59) X dX11_rules_59 ?_
      refine g_getR (pc := 60) X dX11_rules_60 rfl (by decide) fl_X11_30 rfl (t := 16) (by show s3.2.2 0 2 = some 16; rw [hR3]; rfl) ?_
      refine g_aload_2 (pc := 63) X dX11_rules_63 ?_
      refine g_putR (pc := 64) X dX11_rules_64 fl_X11_167 rfl (by decide) rfl rfl ?_
      have hR5 := swR_ref hR3
      unfold swR at hR5 h
      refine g_aload_0 (pc := 67) X dX11_rules_67 ?_
      refine g_getRf (pc := 68) X dX11_rules_68 fl_X11_30 rfl (by decide) rfl hR5 rfl ?_
      refine g_iconst (pc := 71) X dX11_rules_71 kiconst_0 ?_
      refine g_callV_V (pc := 72) X Y dX11_rules_72 miX4_judgeFrom li_X11_116 (t_WSV hR5 h) rfl (by decide) rfl ⟨_, rfl⟩ rfl ⟨Nat.le_of_ble_eq_true rfl, Nat.le_of_ble_eq_true rfl⟩ (Nat.le_of_ble_eq_true rfl) (Nat.le_of_ble_eq_true rfl) rfl (by exact Nat.le_of_ble_eq_true rfl) (fun s7 hp => ?_)
      obtain ⟨hR7, h⟩ := hp
      refine g_aload_0 (pc := 75) X dX11_rules_75 ?_
      refine g_getRf (pc := 76) X dX11_rules_76 fl_X11_66 rfl (by decide) rfl hR7 rfl ?_
      refine g_callV_V (pc := 79) X Y dX11_rules_79 miX8_wipe li_X11_123 (t_WSV hR7 h) rfl (by decide) rfl ⟨_, rfl⟩ rfl ⟨Nat.le_of_ble_eq_true rfl, Nat.le_of_ble_eq_true rfl⟩ (Nat.le_of_ble_eq_true rfl) (Nat.le_of_ble_eq_true rfl) rfl (by exact Nat.le_of_ble_eq_true rfl) (fun s8 hp => ?_)
      obtain ⟨hR8, h⟩ := hp
      refine g_aload_2 (pc := 82) X dX11_rules_82 ?_
      refine g_getI (pc := 83) X dX11_rules_83 rfl (by decide) fl_X11_170 (Or.inl rfl) ?_
      exact g_ireturn (pc := 86) X Y dX11_rules_86 (Nat.le_of_ble_eq_true rfl) (Nat.le_of_ble_eq_true rfl) ⟨_, rfl, ⟨_, hR8⟩, h⟩
    · replace h := h.1 (by simpa using q1)
      refine g_aload_0 (pc := 26) X dX11_rules_26 ?_
      refine g_getRf (pc := 27) X dX11_rules_27 fl_X11_21 rfl (by decide) rfl hR3 rfl ?_
      refine g_getI (pc := 30) X dX11_rules_30 rfl (by decide) fl_X11_160 (Or.inl rfl) ?_
      refine g_bipush (pc := 33) X dX11_rules_33 kbipush_10 ?_
      refine g_isub (pc := 35) X dX11_rules_35 ?_
      exact g_ireturn (pc := 36) X Y dX11_rules_36 (Nat.le_of_ble_eq_true rfl) (Nat.le_of_ble_eq_true rfl) ⟨_, rfl, ⟨_, hR3⟩, h⟩
