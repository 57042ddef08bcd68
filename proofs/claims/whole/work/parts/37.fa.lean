def W_X11_isWithin (p0 : Int32) (p1 : Int32) (p2 : Int32) (Q : Int32 → Prop) (σ : gSt) : Prop := ((p0 < p1 → (Q (nI 0))) ∧ (¬ p0 < p1 → (((p2 < p0 → (Q (nI 0))) ∧ (¬ p2 < p0 → (Q (nI 1)))))))
set_option maxHeartbeats 4000000 in
theorem t_X11_isWithin {o : gOm} {l : Launch} {b : Bool}   {σ : gSt} (hR : σ.2.2 = gRf b) {p0 : Int32} {p1 : Int32} {p2 : Int32} {Q : Int32 → Prop} (h : W_X11_isWithin p0 p1 p2 Q σ) : Sp o l mX11_isWithin 1 0 0 [.int p0, .int p1, .int p2] 116 116 σ (pI (fun x s => σ = s ∧ Q x)) := by
  unfold W_X11_isWithin at h
  refine Sp.of (ls0 := [some (.int p0), some (.int p1), some (.int p2)]) miX11_isWithin rfl (Nat.le_of_ble_eq_true rfl) rfl (fun γ hγ hnm X Y => ?_)
  subst hγ
  have X : gX o γ cX11_isWithin 3 RX11 := X
  refine g_iload_0 (pc := 0) X dX11_isWithin_0 ?_
  refine g_iload_1 (pc := 1) X dX11_isWithin_1 ?_
  refine g_icmp_lt (pc := 2) X dX11_isWithin_2 (tgt := 14) (by decide) (fun q1 => ?_) (fun q1 => ?_)
  · replace h := h.1 q1
    refine g_iconst (pc := 14) X dX11_isWithin_14 kiconst_0 ?_
    exact g_zreturn (pc := 15) X Y dX11_isWithin_15 (by first | exact Or.inl rfl | exact Or.inr rfl) (Nat.le_of_ble_eq_true rfl) (Nat.le_of_ble_eq_true rfl) ⟨_, rfl, rfl, h⟩
  · replace h := h.2 q1
    refine g_iload_0 (pc := 5) X dX11_isWithin_5 ?_
    refine g_iload_2 (pc := 6) X dX11_isWithin_6 ?_
    refine g_icmp_gt (pc := 7) X dX11_isWithin_7 (tgt := 14) (by decide) (fun q2 => ?_) (fun q2 => ?_)
    · replace h := h.1 q2
      refine g_iconst (pc := 14) X dX11_isWithin_14 kiconst_0 ?_
      exact g_zreturn (pc := 15) X Y dX11_isWithin_15 (by first | exact Or.inl rfl | exact Or.inr rfl) (Nat.le_of_ble_eq_true rfl) (Nat.le_of_ble_eq_true rfl) ⟨_, rfl, rfl, h⟩
    · replace h := h.2 q2
      refine g_iconst (pc := 10) X dX11_isWithin_10 kiconst_1 ?_
      refine g_goto (pc := 11) X dX11_isWithin_11 (tgt := 15) (by decide) ?_
      exact g_zreturn (pc := 15) X Y dX11_isWithin_15 (by first | exact Or.inl rfl | exact Or.inr rfl) (Nat.le_of_ble_eq_true rfl) (Nat.le_of_ble_eq_true rfl) ⟨_, rfl, rfl, h⟩
def W_X11_refuseUnless (p0 : Int32) (Q : Prop) (QX : String → gSt → Prop) (σ : gSt) : Prop := ((p0 = 0 → (QX iaE σ)) ∧ (¬ p0 = 0 → Q))
set_option maxHeartbeats 4000000 in
theorem t_X11_refuseUnless {o : gOm} {l : Launch} {b : Bool}   {σ : gSt} (hst : l.stackTraces = false) (hR : σ.2.2 = gRf b) {p0 : Int32} {Q : Prop} {QX : String → gSt → Prop} (h : W_X11_refuseUnless p0 Q QX σ) : SpX o l mX11_refuseUnless 6 1 6 [.int p0] 116 σ (pV (fun s => σ = s ∧ Q)) (fun E s => s.2.2 = gRf b ∧ QX E s) := by
  unfold W_X11_refuseUnless at h
  refine SpX.of (ls0 := [some (.int p0)]) hst miX11_refuseUnless rfl (Nat.le_of_ble_eq_true rfl) rfl (fun γ hγ X Y T => ?_)
  subst hγ
  have X : gX o γ cX11_refuseUnless 1 RX11 := X
  refine g_iload_0 (pc := 0) X dX11_refuseUnless_0 ?_
  refine g_if_ne (pc := 1) X dX11_refuseUnless_1 (tgt := 12) (by decide) (fun q1 => ?_) (fun q1 => ?_)
  · replace h := h.2 q1
    exact g_return (pc := 12) X Y dX11_refuseUnless_12 (Nat.le_of_ble_eq_true rfl) (Nat.le_of_ble_eq_true rfl) ⟨rfl, rfl, h⟩
  · replace h := h.1 q1
    exact g_throw (pc := 4) X Y T (cls := iaE) (names := exN2) (by decide) (by decide) kl_X11_380 ini_IllegalArgumentException hat_X11_382 dX11_refuseUnless_4 dX11_refuseUnless_7 dX11_refuseUnless_8 dX11_refuseUnless_11 (by decide) (by decide) (by decide) (Nat.le_of_ble_eq_true rfl) (Nat.le_of_ble_eq_true rfl) ⟨hR, h⟩
def W_X11_entry (b : Bool) (p0 : Int32) (p1 : Int32) (p2 : Int32) (p3 : Int32) (p4 : Int32) (Q : Int32 → gSt → Prop) (QX : String → gSt → Prop) (σ : gSt) : Prop := W_X11_isWithin p0 (nI 0) (nI 7) (fun x1 => W_X11_refuseUnless x1 (W_X11_isWithin p1 (nI 0) (nI 15) (fun x2 => W_X11_refuseUnless x2 (W_X11_isWithin p2 (nI 0) (nI 7) (fun x3 => W_X11_refuseUnless x3 (W_X11_isWithin p3 (nI 0) (nI 199) (fun x4 => W_X11_refuseUnless x4 (W_X11_isWithin p4 ((-1 : Int32)) (nI 15) (fun x5 => W_X11_refuseUnless x5 ((((σ.1 1 0) < (nI 30) → (WSI mX1_add 1 (fun o => [.ref (ad o 1), .int p0, .int p1, .int p2, .int p3, .int p4]) (fun x7 s8 => WSV mX4_judgeFrom 7 (fun o => [.ref (ad o 16), .int x7]) (fun s9 => WSV mX2_welcome 1 (fun o => [.ref (ad o 33)]) (fun s10 => WSV mX8_wipe 2 (fun o => [.ref (ad o 42)]) (fun s11 => Q x7 s11) s10) s9) s8) σ)) ∧ (¬ (σ.1 1 0) < (nI 30) → (Q ((-1 : Int32)) σ)))) QX σ) σ) QX σ) σ) QX σ) σ) QX σ) σ) QX σ) σ
set_option maxHeartbeats 4000000 in
theorem t_X11_entry {o : gOm} {l : Launch} {b : Bool}   {σ : gSt} (hst : l.stackTraces = false) (hR : σ.2.2 = gRf b) {p0 : Int32} {p1 : Int32} {p2 : Int32} {p3 : Int32} {p4 : Int32} {Q : Int32 → gSt → Prop} {QX : String → gSt → Prop} (h : W_X11_entry b p0 p1 p2 p3 p4 Q QX σ) : SpX o l mX11_entry 8 5 30 [.ref (ad o 0), .int p0, .int p1, .int p2, .int p3, .int p4] 116 σ (pI (fun x s => s.2.2 = gRf b ∧ Q x s)) (fun E s => s.2.2 = gRf b ∧ QX E s) := by
  unfold W_X11_entry at h
  refine SpX.of (ls0 := [some (.ref (ad o 0)), some (.int p0), some (.int p1), some (.int p2), some (.int p3), some (.int p4), none]) hst miX11_entry rfl (Nat.le_of_ble_eq_true rfl) rfl (fun γ hγ X Y T => ?_)
  subst hγ
  have X : gX o γ cX11_entry 7 RX11 := X
  refine g_iload_1 (pc := 0) X dX11_entry_0 ?_
  refine g_iconst (pc := 1) X dX11_entry_1 kiconst_0 ?_
  refine g_bipush (pc := 2) X dX11_entry_2 kbipush_7 ?_
  refine g_callS_I (pc := 4) X Y dX11_entry_4 miX11_isWithin li_X11_100 (t_X11_isWithin hR  h) rfl ⟨Nat.le_of_ble_eq_true rfl, Nat.le_of_ble_eq_true rfl⟩ (Nat.le_of_ble_eq_true rfl) (Nat.le_of_ble_eq_true rfl) rfl (by exact Nat.le_of_ble_eq_true rfl) (fun x1 σ9 hp => ?_)
  obtain ⟨rfl, h⟩ := hp
  refine g_callSX_V (pc := 7) X Y dX11_entry_7 miX11_refuseUnless li_X11_104 (t_X11_refuseUnless hst hR  h) rfl ⟨Nat.le_of_ble_eq_true rfl, Nat.le_of_ble_eq_true rfl⟩ ⟨Nat.le_of_ble_eq_true rfl, Nat.le_of_ble_eq_true rfl⟩ (by exact Nat.le_of_ble_eq_true rfl) rfl (fun E σ9 hp => g_out X T hp (Nat.le_of_ble_eq_true rfl) (Nat.le_of_ble_eq_true rfl)) (fun σ9 hp => ?_)
  obtain ⟨rfl, h⟩ := hp
  refine g_iload_2 (pc := 10) X dX11_entry_10 ?_
  refine g_iconst (pc := 11) X dX11_entry_11 kiconst_0 ?_
  refine g_bipush (pc := 12) X dX11_entry_12 kbipush_15 ?_
  refine g_callS_I (pc := 14) X Y dX11_entry_14 miX11_isWithin li_X11_100 (t_X11_isWithin hR  h) rfl ⟨Nat.le_of_ble_eq_true rfl, Nat.le_of_ble_eq_true rfl⟩ (Nat.le_of_ble_eq_true rfl) (Nat.le_of_ble_eq_true rfl) rfl (by exact Nat.le_of_ble_eq_true rfl) (fun x2 σ9 hp => ?_)
  obtain ⟨rfl, h⟩ := hp
  refine g_callSX_V (pc := 17) X Y dX11_entry_17 miX11_refuseUnless li_X11_104 (t_X11_refuseUnless hst hR  h) rfl ⟨Nat.le_of_ble_eq_true rfl, Nat.le_of_ble_eq_true rfl⟩ ⟨Nat.le_of_ble_eq_true rfl, Nat.le_of_ble_eq_true rfl⟩ (by exact Nat.le_of_ble_eq_true rfl) rfl (fun E σ9 hp => g_out X T hp (Nat.le_of_ble_eq_true rfl) (Nat.le_of_ble_eq_true rfl)) (fun σ9 hp => ?_)
  obtain ⟨rfl, h⟩ := hp
  refine g_iload_3 (pc := 20) X dX11_entry_20 ?_
  refine g_iconst (pc := 21) X dX11_entry_21 kiconst_0 ?_
  refine g_bipush (pc := 22) X dX11_entry_22 kbipush_7 ?_
  refine g_callS_I (pc := 24) X Y dX11_entry_24 miX11_isWithin li_X11_100 (t_X11_isWithin hR  h) rfl ⟨Nat.le_of_ble_eq_true rfl, Nat.le_of_ble_eq_true rfl⟩ (Nat.le_of_ble_eq_true rfl) (Nat.le_of_ble_eq_true rfl) rfl (by exact Nat.le_of_ble_eq_true rfl) (fun x3 σ9 hp => ?_)
  obtain ⟨rfl, h⟩ := hp
  refine g_callSX_V (pc := 27) X Y dX11_entry_27 miX11_refuseUnless li_X11_104 (t_X11_refuseUnless hst hR  h) rfl ⟨Nat.le_of_ble_eq_true rfl, Nat.le_of_ble_eq_true rfl⟩ ⟨Nat.le_of_ble_eq_true rfl, Nat.le_of_ble_eq_true rfl⟩ (by exact Nat.le_of_ble_eq_true rfl) rfl (fun E σ9 hp => g_out X T hp (Nat.le_of_ble_eq_true rfl) (Nat.le_of_ble_eq_true rfl)) (fun σ9 hp => ?_)
  obtain ⟨rfl, h⟩ := hp
  refine g_iload_4 (pc := 30) X dX11_entry_30 ?_
  refine g_iconst (pc := 32) X dX11_entry_32 kiconst_0 ?_
  refine g_sipush (pc := 33) X dX11_entry_33 ksipush_199 ?_
  refine g_callS_I (pc := 36) X Y dX11_entry_36 miX11_isWithin li_X11_100 (t_X11_isWithin hR  h) rfl ⟨Nat.le_of_ble_eq_true rfl, Nat.le_of_ble_eq_true rfl⟩ (Nat.le_of_ble_eq_true rfl) (Nat.le_of_ble_eq_true rfl) rfl (by exact Nat.le_of_ble_eq_true rfl) (fun x4 σ9 hp => ?_)
  obtain ⟨rfl, h⟩ := hp
  refine g_callSX_V (pc := 39) X Y dX11_entry_39 miX11_refuseUnless li_X11_104 (t_X11_refuseUnless hst hR  h) rfl ⟨Nat.le_of_ble_eq_true rfl, Nat.le_of_ble_eq_true rfl⟩ ⟨Nat.le_of_ble_eq_true rfl, Nat.le_of_ble_eq_true rfl⟩ (by exact Nat.le_of_ble_eq_true rfl) rfl (fun E σ9 hp => g_out X T hp (Nat.le_of_ble_eq_true rfl) (Nat.le_of_ble_eq_true rfl)) (fun σ9 hp => ?_)
  obtain ⟨rfl, h⟩ := hp
  refine g_iload_5 (pc := 42) X dX11_entry_42 ?_
  refine g_iconst (pc := 44) X dX11_entry_44 kiconst_m1 ?_
  refine g_bipush (pc := 45) X dX11_entry_45 kbipush_15 ?_
  refine g_callS_I (pc := 47) X Y dX11_entry_47 miX11_isWithin li_X11_100 (t_X11_isWithin hR  h) rfl ⟨Nat.le_of_ble_eq_true rfl, Nat.le_of_ble_eq_true rfl⟩ (Nat.le_of_ble_eq_true rfl) (Nat.le_of_ble_eq_true rfl) rfl (by exact Nat.le_of_ble_eq_true rfl) (fun x5 σ9 hp => ?_)
  obtain ⟨rfl, h⟩ := hp
  refine g_callSX_V (pc := 50) X Y dX11_entry_50 miX11_refuseUnless li_X11_104 (t_X11_refuseUnless hst hR  h) rfl ⟨Nat.le_of_ble_eq_true rfl, Nat.le_of_ble_eq_true rfl⟩ ⟨Nat.le_of_ble_eq_true rfl, Nat.le_of_ble_eq_true rfl⟩ (by exact Nat.le_of_ble_eq_true rfl) rfl (fun E σ9 hp => g_out X T hp (Nat.le_of_ble_eq_true rfl) (Nat.le_of_ble_eq_true rfl)) (fun σ9 hp => ?_)
  obtain ⟨rfl, h⟩ := hp
  refine g_aload_0 (pc := 53) X dX11_entry_53 ?_
  refine g_getRf (pc := 54) X dX11_entry_54 fl_X11_12 rfl (by decide) rfl hR rfl ?_
  refine g_getI (pc := 57) X dX11_entry_57 rfl (by decide) fl_X11_108 (Or.inl rfl) ?_
  refine g_bipush (pc := 60) X dX11_entry_60 kbipush_30 ?_
  refine g_icmp_lt (pc := 62) X dX11_entry_62 (tgt := 67) (by decide) (fun q6 => ?_) (fun q6 => ?_)
  · replace h := h.1 q6
    refine g_aload_0 (pc := 67) X dX11_entry_67 ?_
    refine g_getRf (pc := 68) X dX11_entry_68 fl_X11_12 rfl (by decide) rfl hR rfl ?_
    refine g_iload_1 (pc := 71) X dX11_entry_71 ?_
    refine g_iload_2 (pc := 72) X dX11_entry_72 ?_
    refine g_iload_3 (pc := 73) X dX11_entry_73 ?_
    refine g_iload_4 (pc := 74) X dX11_entry_74 ?_
    refine g_iload_5 (pc := 76) X dX11_entry_76 ?_
    refine g_callV_I (pc := 78) X Y dX11_entry_78 miX1_add li_X11_112 (t_WSI hR  h) rfl (by decide) rfl ⟨_, rfl⟩ rfl ⟨Nat.le_of_ble_eq_true rfl, Nat.le_of_ble_eq_true rfl⟩ (Nat.le_of_ble_eq_true rfl) (Nat.le_of_ble_eq_true rfl) rfl (by exact Nat.le_of_ble_eq_true rfl) (fun x7 s8 hp => ?_)
    obtain ⟨hR, h⟩ := hp
    refine g_istore_6 (pc := 81) X dX11_entry_81 (by decide) rfl ?_
    refine g_aload_0 (pc := 83) X dX11_entry_83 ?_
    refine g_getRf (pc := 84) X dX11_entry_84 fl_X11_30 rfl (by decide) rfl hR rfl ?_
    refine g_iload_6 (pc := 87) X dX11_entry_87 ?_
    refine g_callV_V (pc := 89) X Y dX11_entry_89 miX4_judgeFrom li_X11_116 (t_WSV hR  h) rfl (by decide) rfl ⟨_, rfl⟩ rfl ⟨Nat.le_of_ble_eq_true rfl, Nat.le_of_ble_eq_true rfl⟩ (Nat.le_of_ble_eq_true rfl) (Nat.le_of_ble_eq_true rfl) rfl (by exact Nat.le_of_ble_eq_true rfl) (fun s9 hp => ?_)
    obtain ⟨hR, h⟩ := hp
    refine g_aload_0 (pc := 92) X dX11_entry_92 ?_
    refine g_getRf (pc := 93) X dX11_entry_93 fl_X11_48 rfl (by decide) rfl hR rfl ?_
    refine g_callV_V (pc := 96) X Y dX11_entry_96 miX2_welcome li_X11_120 (t_WSV hR  h) rfl (by decide) rfl ⟨_, rfl⟩ rfl ⟨Nat.le_of_ble_eq_true rfl, Nat.le_of_ble_eq_true rfl⟩ (Nat.le_of_ble_eq_true rfl) (Nat.le_of_ble_eq_true rfl) rfl (by exact Nat.le_of_ble_eq_true rfl) (fun s10 hp => ?_)
    obtain ⟨hR, h⟩ := hp
    refine g_aload_0 (pc := 99) X dX11_entry_99 ?_
    refine g_getRf (pc := 100) X dX11_entry_100 fl_X11_66 rfl (by decide) rfl hR rfl ?_
    refine g_callV_V (pc := 103) X Y dX11_entry_103 miX8_wipe li_X11_123 (t_WSV hR  h) rfl (by decide) rfl ⟨_, rfl⟩ rfl ⟨Nat.le_of_ble_eq_true rfl, Nat.le_of_ble_eq_true rfl⟩ (Nat.le_of_ble_eq_true rfl) (Nat.le_of_ble_eq_true rfl) rfl (by exact Nat.le_of_ble_eq_true rfl) (fun s11 hp => ?_)
    obtain ⟨hR, h⟩ := hp
    refine g_iload_6 (pc := 106) X dX11_entry_106 ?_
    exact g_ireturn (pc := 108) X Y dX11_entry_108 (Nat.le_of_ble_eq_true rfl) (Nat.le_of_ble_eq_true rfl) ⟨_, rfl, hR, h⟩
  · replace h := h.2 q6
    refine g_iconst (pc := 65) X dX11_entry_65 kiconst_m1 ?_
    exact g_ireturn (pc := 66) X Y dX11_entry_66 (Nat.le_of_ble_eq_true rfl) (Nat.le_of_ble_eq_true rfl) ⟨_, rfl, hR, h⟩
def W_X11_needEntry (p0 : Int32) (Q : Prop) (QX : String → gSt → Prop) (σ : gSt) : Prop := ∀ J1 : Prop, ((QX nsE σ) → J1) → ((p0 < 0 → J1) ∧ (¬ p0 < 0 → (((p0 < (σ.1 1 0) → Q) ∧ (¬ p0 < (σ.1 1 0) → J1)))))
set_option maxHeartbeats 4000000 in
theorem t_X11_needEntry {o : gOm} {l : Launch} {b : Bool}   {σ : gSt} (hst : l.stackTraces = false) (hR : σ.2.2 = gRf b) {p0 : Int32} {Q : Prop} {QX : String → gSt → Prop} (h : W_X11_needEntry p0 Q QX σ) : SpX o l mX11_needEntry 6 1 6 [.ref (ad o 0), .int p0] 116 σ (pV (fun s => σ = s ∧ Q)) (fun E s => s.2.2 = gRf b ∧ QX E s) := by
  unfold W_X11_needEntry at h
  refine SpX.of (ls0 := [some (.ref (ad o 0)), some (.int p0)]) hst miX11_needEntry rfl (Nat.le_of_ble_eq_true rfl) rfl (fun γ hγ X Y T => ?_)
  subst hγ
  have X : gX o γ cX11_needEntry 2 RX11 := X
  refine g_iload_1 (pc := 0) X dX11_needEntry_0 ?_
  replace h := h (G o γ 0 0 116 σ 15 [none, none] []) (by
      intro  h
      exact g_throw (pc := 15) X Y T (cls := nsE) (names := exN2) (by decide) (by decide) kl_X11_383 ini_NoSuchElementException hat_X11_385 dX11_needEntry_15 dX11_needEntry_18 dX11_needEntry_19 dX11_needEntry_22 (by decide) (by decide) (by decide) (Nat.le_of_ble_eq_true rfl) (Nat.le_of_ble_eq_true rfl) ⟨hR, h⟩)
  refine g_if_lt (pc := 1) X dX11_needEntry_1 (tgt := 15) (by decide) (fun q2 => ?_) (fun q2 => ?_)
  · replace h := h.1 q2
    exact g_drop (by simp [lsub]) (h)
  · replace h := h.2 q2
    refine g_iload_1 (pc := 4) X dX11_needEntry_4 ?_
    refine g_aload_0 (pc := 5) X dX11_needEntry_5 ?_
    refine g_getRf (pc := 6) X dX11_needEntry_6 fl_X11_12 rfl (by decide) rfl hR rfl ?_
    refine g_getI (pc := 9) X dX11_needEntry_9 rfl (by decide) fl_X11_108 (Or.inl rfl) ?_
    refine g_icmp_lt (pc := 12) X dX11_needEntry_12 (tgt := 23) (by decide) (fun q3 => ?_) (fun q3 => ?_)
    · replace h := h.1 q3
      exact g_return (pc := 23) X Y dX11_needEntry_23 (Nat.le_of_ble_eq_true rfl) (Nat.le_of_ble_eq_true rfl) ⟨rfl, rfl, h⟩
    · replace h := h.2 q3
      exact g_drop (by simp [lsub]) (h)
def W_X11_membersOfPart (p0 : Int32) (Q : Int32 → gSt → Prop) (σ : gSt) : Prop := WPI mX1_everyone 1 (fun o => [.ref (ad o 1)]) (fun x1 => W_X6_find x1 (fun x2 s3 => W_X6_membersWith p0 (fun x4 => Q x4 s3) s3) σ) σ
set_option maxHeartbeats 4000000 in
theorem t_X11_membersOfPart {o : gOm} {l : Launch} {b : Bool}   {σ : gSt} (hR : σ.2.2 = gRf b) {p0 : Int32} {Q : Int32 → gSt → Prop} (h : W_X11_membersOfPart p0 Q σ) : Sp o l mX11_membersOfPart 4 0 0 [.ref (ad o 0), .int p0] 116 116 σ (pI (fun x s => s.2.2 = gRf b ∧ Q x s)) := by
  unfold W_X11_membersOfPart at h
  refine Sp.of (ls0 := [some (.ref (ad o 0)), some (.int p0)]) miX11_membersOfPart rfl (Nat.le_of_ble_eq_true rfl) rfl (fun γ hγ hnm X Y => ?_)
  subst hγ
  have X : gX o γ cX11_membersOfPart 2 RX11 := X
  refine g_aload_0 (pc := 0) X dX11_membersOfPart_0 ?_
  refine g_getRf (pc := 1) X dX11_membersOfPart_1 fl_X11_73 rfl (by decide) rfl hR rfl ?_
  refine g_aload_0 (pc := 4) X dX11_membersOfPart_4 ?_
  refine g_getRf (pc := 5) X dX11_membersOfPart_5 fl_X11_12 rfl (by decide) rfl hR rfl ?_
  refine g_callV_I (pc := 8) X Y dX11_membersOfPart_8 miX1_everyone li_X11_319 (t_WPI hR  h) rfl (by decide) rfl ⟨_, rfl⟩ rfl ⟨Nat.le_of_ble_eq_true rfl, Nat.le_of_ble_eq_true rfl⟩ (Nat.le_of_ble_eq_true rfl) (Nat.le_of_ble_eq_true rfl) rfl (by exact Nat.le_of_ble_eq_true rfl) (fun x1 σ9 hp => ?_)
  obtain ⟨rfl, h⟩ := hp
  refine g_callV_I (pc := 11) X Y dX11_membersOfPart_11 miX6_find li_X11_374 (t_X6_find hR  h) rfl (by decide) rfl ⟨_, rfl⟩ rfl ⟨Nat.le_of_ble_eq_true rfl, Nat.le_of_ble_eq_true rfl⟩ (Nat.le_of_ble_eq_true rfl) (Nat.le_of_ble_eq_true rfl) rfl (by exact Nat.le_of_ble_eq_true rfl) (fun x2 s3 hp => ?_)
  obtain ⟨hR, h⟩ := hp
  refine g_pop (pc := 14) X dX11_membersOfPart_14 rfl ?_
  refine g_aload_0 (pc := 15) X dX11_membersOfPart_15 ?_
  refine g_getRf (pc := 16) X dX11_membersOfPart_16 fl_X11_73 rfl (by decide) rfl hR rfl ?_
  refine g_iload_1 (pc := 19) X dX11_membersOfPart_19 ?_
  refine g_callV_I (pc := 20) X Y dX11_membersOfPart_20 miX6_membersWith li_X11_386 (t_X6_membersWith hR  h) rfl (by decide) rfl ⟨_, rfl⟩ rfl ⟨Nat.le_of_ble_eq_true rfl, Nat.le_of_ble_eq_true rfl⟩ (Nat.le_of_ble_eq_true rfl) (Nat.le_of_ble_eq_true rfl) rfl (by exact Nat.le_of_ble_eq_true rfl) (fun x4 σ9 hp => ?_)
  obtain ⟨rfl, h⟩ := hp
  exact g_ireturn (pc := 23) X Y dX11_membersOfPart_23 (Nat.le_of_ble_eq_true rfl) (Nat.le_of_ble_eq_true rfl) ⟨_, rfl, hR, h⟩
def W_X11_of (p0 : Int32) (p1 : Int32) (Q : Int32 → gSt → Prop) (QX : String → gSt → Prop) (σ : gSt) : Prop := W_X11_needEntry p0 (W_X11_isWithin p1 (nI 0) (nI 7) (fun x1 => W_X11_refuseUnless x1 ((((nI 5) ≤ p1 → (((p1 = (nI 5) → (rI σ 34 30 p0 (fun x9 => Q x9 σ))) ∧ (¬ p1 = (nI 5) → (W_X11_membersOfPart p0 (fun x4 s5 => ((p1 = (nI 6) → (W_J6_numberOfTrailingZeros_0f7a4 x4 (fun x8 => Q x8 s5) s5)) ∧ (¬ p1 = (nI 6) → (W_J6_bitCount_0f7a4 x4 (fun x7 => Q x7 s5) s5)))) σ))))) ∧ (¬ (nI 5) ≤ p1 → (WPI mX1_trait 1 (fun o => [.ref (ad o 1), .int p0, .int p1]) (fun x10 => Q x10 σ) σ)))) QX σ) σ) QX σ
set_option maxHeartbeats 4000000 in
theorem t_X11_of {o : gOm} {l : Launch} {b : Bool}   {σ : gSt} (hst : l.stackTraces = false) (hR : σ.2.2 = gRf b) {p0 : Int32} {p1 : Int32} {Q : Int32 → gSt → Prop} {QX : String → gSt → Prop} (h : W_X11_of p0 p1 Q QX σ) : SpX o l mX11_of 7 2 12 [.ref (ad o 0), .int p0, .int p1] 116 σ (pI (fun x s => s.2.2 = gRf b ∧ Q x s)) (fun E s => s.2.2 = gRf b ∧ QX E s) := by
  unfold W_X11_of at h
  refine SpX.of (ls0 := [some (.ref (ad o 0)), some (.int p0), some (.int p1), none]) hst miX11_of rfl (Nat.le_of_ble_eq_true rfl) rfl (fun γ hγ X Y T => ?_)
  subst hγ
  have X : gX o γ cX11_of 4 RX11 := X
  refine g_aload_0 (pc := 0) X dX11_of_0 ?_
  refine g_iload_1 (pc := 1) X dX11_of_1 ?_
  refine g_callVX_V (pc := 2) X Y dX11_of_2 miX11_needEntry li_X11_126 (t_X11_needEntry hst hR  h) rfl (by decide) rfl ⟨_, rfl⟩ rfl ⟨Nat.le_of_ble_eq_true rfl, Nat.le_of_ble_eq_true rfl⟩ ⟨Nat.le_of_ble_eq_true rfl, Nat.le_of_ble_eq_true rfl⟩ (by exact Nat.le_of_ble_eq_true rfl) rfl (fun E σ9 hp => g_out X T hp (Nat.le_of_ble_eq_true rfl) (Nat.le_of_ble_eq_true rfl)) (fun σ9 hp => ?_)
  obtain ⟨rfl, h⟩ := hp
  refine g_iload_2 (pc := 5) X dX11_of_5 ?_
  refine g_iconst (pc := 6) X dX11_of_6 kiconst_0 ?_
  refine g_bipush (pc := 7) X dX11_of_7 kbipush_7 ?_
  refine g_callS_I (pc := 9) X Y dX11_of_9 miX11_isWithin li_X11_100 (t_X11_isWithin hR  h) rfl ⟨Nat.le_of_ble_eq_true rfl, Nat.le_of_ble_eq_true rfl⟩ (Nat.le_of_ble_eq_true rfl) (Nat.le_of_ble_eq_true rfl) rfl (by exact Nat.le_of_ble_eq_true rfl) (fun x1 σ9 hp => ?_)
  obtain ⟨rfl, h⟩ := hp
  refine g_callSX_V (pc := 12) X Y dX11_of_12 miX11_refuseUnless li_X11_104 (t_X11_refuseUnless hst hR  h) rfl ⟨Nat.le_of_ble_eq_true rfl, Nat.le_of_ble_eq_true rfl⟩ ⟨Nat.le_of_ble_eq_true rfl, Nat.le_of_ble_eq_true rfl⟩ (by exact Nat.le_of_ble_eq_true rfl) rfl (fun E σ9 hp => g_out X T hp (Nat.le_of_ble_eq_true rfl) (Nat.le_of_ble_eq_true rfl)) (fun σ9 hp => ?_)
  obtain ⟨rfl, h⟩ := hp
  refine g_iload_2 (pc := 15) X dX11_of_15 ?_
  refine g_iconst (pc := 16) X dX11_of_16 kiconst_5 ?_
  refine g_icmp_ge (pc := 17) X dX11_of_17 (tgt := 30) (by decide) (fun q2 => ?_) (fun q2 => ?_)
  · replace h := h.1 q2
    refine g_iload_2 (pc := 30) X dX11_of_30 ?_
    refine g_iconst (pc := 31) X dX11_of_31 kiconst_5 ?_
    refine g_icmp_ne (pc := 32) X dX11_of_32 (tgt := 45) (by decide) (fun q3 => ?_) (fun q3 => ?_)
    · replace h := h.2 q3
      refine g_aload_0 (pc := 45) X dX11_of_45 ?_
      refine g_iload_1 (pc := 46) X dX11_of_46 ?_
      refine g_callV_I (pc := 47) X Y dX11_of_47 miX11_membersOfPart li_X11_136 (t_X11_membersOfPart hR  h) rfl (by decide) rfl ⟨_, rfl⟩ rfl ⟨Nat.le_of_ble_eq_true rfl, Nat.le_of_ble_eq_true rfl⟩ (Nat.le_of_ble_eq_true rfl) (Nat.le_of_ble_eq_true rfl) rfl (by exact Nat.le_of_ble_eq_true rfl) (fun x4 s5 hp => ?_)
      obtain ⟨hR, h⟩ := hp
      refine g_istore_3 (pc := 50) X dX11_of_50 (by decide) rfl ?_
      refine g_iload_2 (pc := 51) X dX11_of_51 ?_
      refine g_bipush (pc := 52) X dX11_of_52 kbipush_6 ?_
      refine g_icmp_ne (pc := 54) X dX11_of_54 (tgt := 64) (by decide) (fun q6 => ?_) (fun q6 => ?_)
      · replace h := h.2 q6
        refine g_iload_3 (pc := 64) X dX11_of_64 ?_
        refine g_callS_I (pc := 65) X Y dX11_of_65 miJ6_bitCount_0f7a4 li_X11_143 (t_J6_bitCount_0f7a4 hR  h) rfl ⟨Nat.le_of_ble_eq_true rfl, Nat.le_of_ble_eq_true rfl⟩ (Nat.le_of_ble_eq_true rfl) (Nat.le_of_ble_eq_true rfl) rfl (by exact Nat.le_of_ble_eq_true rfl) (fun x7 σ9 hp => ?_)
        obtain ⟨rfl, h⟩ := hp
        exact g_ireturn (pc := 68) X Y dX11_of_68 (Nat.le_of_ble_eq_true rfl) (Nat.le_of_ble_eq_true rfl) ⟨_, rfl, hR, h⟩
      · replace h := h.1 q6
        refine g_iload_3 (pc := 57) X dX11_of_57 ?_
        refine g_callS_I (pc := 58) X Y dX11_of_58 miJ6_numberOfTrailingZeros_0f7a4 li_X11_140 (t_J6_numberOfTrailingZeros_0f7a4 hR  h) rfl ⟨Nat.le_of_ble_eq_true rfl, Nat.le_of_ble_eq_true rfl⟩ (Nat.le_of_ble_eq_true rfl) (Nat.le_of_ble_eq_true rfl) rfl (by exact Nat.le_of_ble_eq_true rfl) (fun x8 σ9 hp => ?_)
        obtain ⟨rfl, h⟩ := hp
        refine g_goto (pc := 61) X dX11_of_61 (tgt := 68) (by decide) ?_
        exact g_ireturn (pc := 68) X Y dX11_of_68 (Nat.le_of_ble_eq_true rfl) (Nat.le_of_ble_eq_true rfl) ⟨_, rfl, hR, h⟩
    · replace h := h.1 q3
      refine g_aload_0 (pc := 35) X dX11_of_35 ?_
      refine g_getRf (pc := 36) X dX11_of_36 fl_X11_48 rfl (by decide) rfl hR rfl ?_
      refine g_getRf (pc := 39) X dX11_of_39 fl_X11_133 rfl (by decide) rfl hR rfl ?_
      refine g_iload_1 (pc := 42) X dX11_of_42 ?_
      refine g_iaload_w (pc := 43) X dX11_of_43 rfl (by decide) h (fun x9 h => ?_)
      exact g_ireturn (pc := 44) X Y dX11_of_44 (Nat.le_of_ble_eq_true rfl) (Nat.le_of_ble_eq_true rfl) ⟨_, rfl, hR, h⟩
  · replace h := h.2 q2
    refine g_aload_0 (pc := 20) X dX11_of_20 ?_
    refine g_getRf (pc := 21) X dX11_of_21 fl_X11_12 rfl (by decide) rfl hR rfl ?_
    refine g_iload_1 (pc := 24) X dX11_of_24 ?_
    refine g_iload_2 (pc := 25) X dX11_of_25 ?_
    refine g_callV_I (pc := 26) X Y dX11_of_26 miX1_trait li_X11_129 (t_WPI hR  h) rfl (by decide) rfl ⟨_, rfl⟩ rfl ⟨Nat.le_of_ble_eq_true rfl, Nat.le_of_ble_eq_true rfl⟩ (Nat.le_of_ble_eq_true rfl) (Nat.le_of_ble_eq_true rfl) rfl (by exact Nat.le_of_ble_eq_true rfl) (fun x10 σ9 hp => ?_)
    obtain ⟨rfl, h⟩ := hp
    exact g_ireturn (pc := 29) X Y dX11_of_29 (Nat.le_of_ble_eq_true rfl) (Nat.le_of_ble_eq_true rfl) ⟨_, rfl, hR, h⟩
def W_X11_like (b : Bool) (p0 : Int32) (p1 : Int32) (p2 : Int32) (Q : Int32 → gSt → Prop) (QX : String → gSt → Prop) (σ : gSt) : Prop := W_X11_isWithin p0 (nI 0) (nI 15) (fun x1 => W_X11_refuseUnless x1 (W_X11_isWithin p1 (nI 0) (nI 15) (fun x2 => W_X11_refuseUnless x2 (W_X11_isWithin p2 (nI 0) (nI 100) (fun x3 => W_X11_refuseUnless x3 (((p0 = p1 → (Q ((-1 : Int32)) σ)) ∧ (¬ p0 = p1 → (WSI mX1_setLikeness 1 (fun o => [.ref (ad o 1), .int p0, .int p1, .int p2]) (fun x5 s6 => WSV mX4_judgeFrom 7 (fun o => [.ref (ad o 16), .int (nI 0)]) (fun s7 => WSV mX8_wipe 2 (fun o => [.ref (ad o 42)]) (fun s8 => Q x5 s8) s7) s6) σ)))) QX σ) σ) QX σ) σ) QX σ) σ
set_option maxHeartbeats 4000000 in
theorem t_X11_like {o : gOm} {l : Launch} {b : Bool}   {σ : gSt} (hst : l.stackTraces = false) (hR : σ.2.2 = gRf b) {p0 : Int32} {p1 : Int32} {p2 : Int32} {Q : Int32 → gSt → Prop} {QX : String → gSt → Prop} (h : W_X11_like b p0 p1 p2 Q QX σ) : SpX o l mX11_like 8 3 18 [.ref (ad o 0), .int p0, .int p1, .int p2] 116 σ (pI (fun x s => s.2.2 = gRf b ∧ Q x s)) (fun E s => s.2.2 = gRf b ∧ QX E s) := by
  unfold W_X11_like at h
  refine SpX.of (ls0 := [some (.ref (ad o 0)), some (.int p0), some (.int p1), some (.int p2), none]) hst miX11_like rfl (Nat.le_of_ble_eq_true rfl) rfl (fun γ hγ X Y T => ?_)
  subst hγ
  have X : gX o γ cX11_like 5 RX11 := X
  refine g_iload_1 (pc := 0) X dX11_like_0 ?_
  refine g_iconst (pc := 1) X dX11_like_1 kiconst_0 ?_
  refine g_bipush (pc := 2) X dX11_like_2 kbipush_15 ?_
  refine g_callS_I (pc := 4) X Y dX11_like_4 miX11_isWithin li_X11_100 (t_X11_isWithin hR  h) rfl ⟨Nat.le_of_ble_eq_true rfl, Nat.le_of_ble_eq_true rfl⟩ (Nat.le_of_ble_eq_true rfl) (Nat.le_of_ble_eq_true rfl) rfl (by exact Nat.le_of_ble_eq_true rfl) (fun x1 σ9 hp => ?_)
  obtain ⟨rfl, h⟩ := hp
  refine g_callSX_V (pc := 7) X Y dX11_like_7 miX11_refuseUnless li_X11_104 (t_X11_refuseUnless hst hR  h) rfl ⟨Nat.le_of_ble_eq_true rfl, Nat.le_of_ble_eq_true rfl⟩ ⟨Nat.le_of_ble_eq_true rfl, Nat.le_of_ble_eq_true rfl⟩ (by exact Nat.le_of_ble_eq_true rfl) rfl (fun E σ9 hp => g_out X T hp (Nat.le_of_ble_eq_true rfl) (Nat.le_of_ble_eq_true rfl)) (fun σ9 hp => ?_)
  obtain ⟨rfl, h⟩ := hp
  refine g_iload_2 (pc := 10) X dX11_like_10 ?_
  refine g_iconst (pc := 11) X dX11_like_11 kiconst_0 ?_
  refine g_bipush (pc := 12) X dX11_like_12 kbipush_15 ?_
  refine g_callS_I (pc := 14) X Y dX11_like_14 miX11_isWithin li_X11_100 (t_X11_isWithin hR  h) rfl ⟨Nat.le_of_ble_eq_true rfl, Nat.le_of_ble_eq_true rfl⟩ (Nat.le_of_ble_eq_true rfl) (Nat.le_of_ble_eq_true rfl) rfl (by exact Nat.le_of_ble_eq_true rfl) (fun x2 σ9 hp => ?_)
  obtain ⟨rfl, h⟩ := hp
  refine g_callSX_V (pc := 17) X Y dX11_like_17 miX11_refuseUnless li_X11_104 (t_X11_refuseUnless hst hR  h) rfl ⟨Nat.le_of_ble_eq_true rfl, Nat.le_of_ble_eq_true rfl⟩ ⟨Nat.le_of_ble_eq_true rfl, Nat.le_of_ble_eq_true rfl⟩ (by exact Nat.le_of_ble_eq_true rfl) rfl (fun E σ9 hp => g_out X T hp (Nat.le_of_ble_eq_true rfl) (Nat.le_of_ble_eq_true rfl)) (fun σ9 hp => ?_)
  obtain ⟨rfl, h⟩ := hp
  refine g_iload_3 (pc := 20) X dX11_like_20 ?_
  refine g_iconst (pc := 21) X dX11_like_21 kiconst_0 ?_
  refine g_bipush (pc := 22) X dX11_like_22 kbipush_100 ?_
  refine g_callS_I (pc := 24) X Y dX11_like_24 miX11_isWithin li_X11_100 (t_X11_isWithin hR  h) rfl ⟨Nat.le_of_ble_eq_true rfl, Nat.le_of_ble_eq_true rfl⟩ (Nat.le_of_ble_eq_true rfl) (Nat.le_of_ble_eq_true rfl) rfl (by exact Nat.le_of_ble_eq_true rfl) (fun x3 σ9 hp => ?_)
  obtain ⟨rfl, h⟩ := hp
  refine g_callSX_V (pc := 27) X Y dX11_like_27 miX11_refuseUnless li_X11_104 (t_X11_refuseUnless hst hR  h) rfl ⟨Nat.le_of_ble_eq_true rfl, Nat.le_of_ble_eq_true rfl⟩ ⟨Nat.le_of_ble_eq_true rfl, Nat.le_of_ble_eq_true rfl⟩ (by exact Nat.le_of_ble_eq_true rfl) rfl (fun E σ9 hp => g_out X T hp (Nat.le_of_ble_eq_true rfl) (Nat.le_of_ble_eq_true rfl)) (fun σ9 hp => ?_)
  obtain ⟨rfl, h⟩ := hp
  refine g_iload_1 (pc := 30) X dX11_like_30 ?_
  refine g_iload_2 (pc := 31) X dX11_like_31 ?_
  refine g_icmp_ne (pc := 32) X dX11_like_32 (tgt := 37) (by decide) (fun q4 => ?_) (fun q4 => ?_)
  · replace h := h.2 q4
    refine g_aload_0 (pc := 37) X dX11_like_37 ?_
    refine g_getRf (pc := 38) X dX11_like_38 fl_X11_12 rfl (by decide) rfl hR rfl ?_
    refine g_iload_1 (pc := 41) X dX11_like_41 ?_
    refine g_iload_2 (pc := 42) X dX11_like_42 ?_
    refine g_iload_3 (pc := 43) X dX11_like_43 ?_
    refine g_callV_I (pc := 44) X Y dX11_like_44 miX1_setLikeness li_X11_146 (t_WSI hR  h) rfl (by decide) rfl ⟨_, rfl⟩ rfl ⟨Nat.le_of_ble_eq_true rfl, Nat.le_of_ble_eq_true rfl⟩ (Nat.le_of_ble_eq_true rfl) (Nat.le_of_ble_eq_true rfl) rfl (by exact Nat.le_of_ble_eq_true rfl) (fun x5 s6 hp => ?_)
    obtain ⟨hR, h⟩ := hp
    refine g_istore_4 (pc := 47) X dX11_like_47 (by decide) rfl ?_
    refine g_aload_0 (pc := 49) X dX11_like_49 ?_
    refine g_getRf (pc := 50) X dX11_like_50 fl_X11_30 rfl (by decide) rfl hR rfl ?_
    refine g_iconst (pc := 53) X dX11_like_53 kiconst_0 ?_
    refine g_callV_V (pc := 54) X Y dX11_like_54 miX4_judgeFrom li_X11_116 (t_WSV hR  h) rfl (by decide) rfl ⟨_, rfl⟩ rfl ⟨Nat.le_of_ble_eq_true rfl, Nat.le_of_ble_eq_true rfl⟩ (Nat.le_of_ble_eq_true rfl) (Nat.le_of_ble_eq_true rfl) rfl (by exact Nat.le_of_ble_eq_true rfl) (fun s7 hp => ?_)
    obtain ⟨hR, h⟩ := hp
    refine g_aload_0 (pc := 57) X dX11_like_57 ?_
    refine g_getRf (pc := 58) X dX11_like_58 fl_X11_66 rfl (by decide) rfl hR rfl ?_
    refine g_callV_V (pc := 61) X Y dX11_like_61 miX8_wipe li_X11_123 (t_WSV hR  h) rfl (by decide) rfl ⟨_, rfl⟩ rfl ⟨Nat.le_of_ble_eq_true rfl, Nat.le_of_ble_eq_true rfl⟩ (Nat.le_of_ble_eq_true rfl) (Nat.le_of_ble_eq_true rfl) rfl (by exact Nat.le_of_ble_eq_true rfl) (fun s8 hp => ?_)
    obtain ⟨hR, h⟩ := hp
    refine g_iload_4 (pc := 64) X dX11_like_64 ?_
    exact g_ireturn (pc := 66) X Y dX11_like_66 (Nat.le_of_ble_eq_true rfl) (Nat.le_of_ble_eq_true rfl) ⟨_, rfl, hR, h⟩
  · replace h := h.1 q4
    refine g_iconst (pc := 35) X dX11_like_35 kiconst_m1 ?_
    exact g_ireturn (pc := 36) X Y dX11_like_36 (Nat.le_of_ble_eq_true rfl) (Nat.le_of_ble_eq_true rfl) ⟨_, rfl, hR, h⟩
def W_X11_feed (p0 : Int32) (p1 : Int32) (p2 : Int32) (p3 : Int32) (p4 : Int32) (Q : Int32 → gSt → Prop) (σ : gSt) : Prop := ((((σ.1 4 0) + (nI 20)) ≤ (nI 400) → (W_X7_takeIn p0 (fun s2 => W_X7_takeIn p1 (fun s3 => W_X7_takeIn p2 (fun s4 => W_X7_takeIn p3 (fun s5 => W_X7_takeIn p4 (fun s6 => Q (s6.1 4 0) s6) s5) s4) s3) s2) σ)) ∧ (¬ ((σ.1 4 0) + (nI 20)) ≤ (nI 400) → (Q ((-1 : Int32)) σ)))
set_option maxHeartbeats 4000000 in
theorem t_X11_feed {o : gOm} {l : Launch} {b : Bool}   {σ : gSt} (hR : σ.2.2 = gRf b) {p0 : Int32} {p1 : Int32} {p2 : Int32} {p3 : Int32} {p4 : Int32} {Q : Int32 → gSt → Prop} (h : W_X11_feed p0 p1 p2 p3 p4 Q σ) : Sp o l mX11_feed 2 0 0 [.ref (ad o 0), .int p0, .int p1, .int p2, .int p3, .int p4] 116 116 σ (pI (fun x s => s.2.2 = gRf b ∧ Q x s)) := by
  unfold W_X11_feed at h
  refine Sp.of (ls0 := [some (.ref (ad o 0)), some (.int p0), some (.int p1), some (.int p2), some (.int p3), some (.int p4)]) miX11_feed rfl (Nat.le_of_ble_eq_true rfl) rfl (fun γ hγ hnm X Y => ?_)
  subst hγ
  have X : gX o γ cX11_feed 6 RX11 := X
  refine g_aload_0 (pc := 0) X dX11_feed_0 ?_
  refine g_getRf (pc := 1) X dX11_feed_1 fl_X11_21 rfl (by decide) rfl hR rfl ?_
  refine g_getI (pc := 4) X dX11_feed_4 rfl (by decide) fl_X11_150 (Or.inl rfl) ?_
  refine g_bipush (pc := 7) X dX11_feed_7 kbipush_20 ?_
  refine g_iadd (pc := 9) X dX11_feed_9 ?_
  refine g_sipush (pc := 10) X dX11_feed_10 ksipush_400 ?_
  refine g_icmp_le (pc := 13) X dX11_feed_13 (tgt := 18) (by decide) (fun q1 => ?_) (fun q1 => ?_)
  · replace h := h.1 q1
    refine g_aload_0 (pc := 18) X dX11_feed_18 ?_
    refine g_getRf (pc := 19) X dX11_feed_19 fl_X11_21 rfl (by decide) rfl hR rfl ?_
    refine g_iload_1 (pc := 22) X dX11_feed_22 ?_
    refine g_callV_V (pc := 23) X Y dX11_feed_23 miX7_takeIn li_X11_153 (t_X7_takeIn hR  h) rfl (by decide) rfl ⟨_, rfl⟩ rfl ⟨Nat.le_of_ble_eq_true rfl, Nat.le_of_ble_eq_true rfl⟩ (Nat.le_of_ble_eq_true rfl) (Nat.le_of_ble_eq_true rfl) rfl (by exact Nat.le_of_ble_eq_true rfl) (fun s2 hp => ?_)
    obtain ⟨hR, h⟩ := hp
    refine g_aload_0 (pc := 26) X dX11_feed_26 ?_
    refine g_getRf (pc := 27) X dX11_feed_27 fl_X11_21 rfl (by decide) rfl hR rfl ?_
    refine g_iload_2 (pc := 30) X dX11_feed_30 ?_
    refine g_callV_V (pc := 31) X Y dX11_feed_31 miX7_takeIn li_X11_153 (t_X7_takeIn hR  h) rfl (by decide) rfl ⟨_, rfl⟩ rfl ⟨Nat.le_of_ble_eq_true rfl, Nat.le_of_ble_eq_true rfl⟩ (Nat.le_of_ble_eq_true rfl) (Nat.le_of_ble_eq_true rfl) rfl (by exact Nat.le_of_ble_eq_true rfl) (fun s3 hp => ?_)
    obtain ⟨hR, h⟩ := hp
    refine g_aload_0 (pc := 34) X dX11_feed_34 ?_
    refine g_getRf (pc := 35) X dX11_feed_35 fl_X11_21 rfl (by decide) rfl hR rfl ?_
    refine g_iload_3 (pc := 38) X dX11_feed_38 ?_
    refine g_callV_V (pc := 39) X Y dX11_feed_39 miX7_takeIn li_X11_153 (t_X7_takeIn hR  h) rfl (by decide) rfl ⟨_, rfl⟩ rfl ⟨Nat.le_of_ble_eq_true rfl, Nat.le_of_ble_eq_true rfl⟩ (Nat.le_of_ble_eq_true rfl) (Nat.le_of_ble_eq_true rfl) rfl (by exact Nat.le_of_ble_eq_true rfl) (fun s4 hp => ?_)
    obtain ⟨hR, h⟩ := hp
    refine g_aload_0 (pc := 42) X dX11_feed_42 ?_
    refine g_getRf (pc := 43) X dX11_feed_43 fl_X11_21 rfl (by decide) rfl hR rfl ?_
    refine g_iload_4 (pc := 46) X dX11_feed_46 ?_
    refine g_callV_V (pc := 48) X Y dX11_feed_48 miX7_takeIn li_X11_153 (t_X7_takeIn hR  h) rfl (by decide) rfl ⟨_, rfl⟩ rfl ⟨Nat.le_of_ble_eq_true rfl, Nat.le_of_ble_eq_true rfl⟩ (Nat.le_of_ble_eq_true rfl) (Nat.le_of_ble_eq_true rfl) rfl (by exact Nat.le_of_ble_eq_true rfl) (fun s5 hp => ?_)
    obtain ⟨hR, h⟩ := hp
    refine g_aload_0 (pc := 51) X dX11_feed_51 ?_
    refine g_getRf (pc := 52) X dX11_feed_52 fl_X11_21 rfl (by decide) rfl hR rfl ?_
    refine g_iload_5 (pc := 55) X dX11_feed_55 ?_
    refine g_callV_V (pc := 57) X Y dX11_feed_57 miX7_takeIn li_X11_153 (t_X7_takeIn hR  h) rfl (by decide) rfl ⟨_, rfl⟩ rfl ⟨Nat.le_of_ble_eq_true rfl, Nat.le_of_ble_eq_true rfl⟩ (Nat.le_of_ble_eq_true rfl) (Nat.le_of_ble_eq_true rfl) rfl (by exact Nat.le_of_ble_eq_true rfl) (fun s6 hp => ?_)
    obtain ⟨hR, h⟩ := hp
    refine g_aload_0 (pc := 60) X dX11_feed_60 ?_
    refine g_getRf (pc := 61) X dX11_feed_61 fl_X11_21 rfl (by decide) rfl hR rfl ?_
    refine g_getI (pc := 64) X dX11_feed_64 rfl (by decide) fl_X11_150 (Or.inl rfl) ?_
    exact g_ireturn (pc := 67) X Y dX11_feed_67 (Nat.le_of_ble_eq_true rfl) (Nat.le_of_ble_eq_true rfl) ⟨_, rfl, hR, h⟩
  · replace h := h.2 q1
    refine g_iconst (pc := 16) X dX11_feed_16 kiconst_m1 ?_
    exact g_ireturn (pc := 17) X Y dX11_feed_17 (Nat.le_of_ble_eq_true rfl) (Nat.le_of_ble_eq_true rfl) ⟨_, rfl, hR, h⟩
def W_X11_fault  (Q : Int32 → Prop) (σ : gSt) : Prop := Q (σ.1 4 2)
set_option maxHeartbeats 4000000 in
theorem t_X11_fault {o : gOm} {l : Launch} {b : Bool}   {σ : gSt} (hR : σ.2.2 = gRf b)  {Q : Int32 → Prop} (h : W_X11_fault  Q σ) : Sp o l mX11_fault 1 0 0 [.ref (ad o 0)] 116 116 σ (pI (fun x s => σ = s ∧ Q x)) := by
  unfold W_X11_fault at h
  refine Sp.of (ls0 := [some (.ref (ad o 0))]) miX11_fault rfl (Nat.le_of_ble_eq_true rfl) rfl (fun γ hγ hnm X Y => ?_)
  subst hγ
  have X : gX o γ cX11_fault 1 RX11 := X
  refine g_aload_0 (pc := 0) X dX11_fault_0 ?_
  refine g_getRf (pc := 1) X dX11_fault_1 fl_X11_21 rfl (by decide) rfl hR rfl ?_
  refine g_getI (pc := 4) X dX11_fault_4 rfl (by decide) fl_X11_175 (Or.inl rfl) ?_
  exact g_ireturn (pc := 7) X Y dX11_fault_7 (Nat.le_of_ble_eq_true rfl) (Nat.le_of_ble_eq_true rfl) ⟨_, rfl, rfl, h⟩
def W_X11_needPair (p0 : Int32) (p1 : Int32) (Q : Prop) (QX : String → gSt → Prop) (σ : gSt) : Prop := W_X11_needEntry p0 (W_X11_needEntry p1 (∀ J2 : Int32 → Prop, (∀ x1, (W_X11_refuseUnless x1 (Q) QX σ) → J2 x1) → ((p0 = p1 → (J2 (nI 0))) ∧ (¬ p0 = p1 → (J2 (nI 1))))) QX σ) QX σ
set_option maxHeartbeats 4000000 in
theorem t_X11_needPair {o : gOm} {l : Launch} {b : Bool}   {σ : gSt} (hst : l.stackTraces = false) (hR : σ.2.2 = gRf b) {p0 : Int32} {p1 : Int32} {Q : Prop} {QX : String → gSt → Prop} (h : W_X11_needPair p0 p1 Q QX σ) : SpX o l mX11_needPair 7 3 18 [.ref (ad o 0), .int p0, .int p1] 116 σ (pV (fun s => σ = s ∧ Q)) (fun E s => s.2.2 = gRf b ∧ QX E s) := by
  unfold W_X11_needPair at h
  refine SpX.of (ls0 := [some (.ref (ad o 0)), some (.int p0), some (.int p1)]) hst miX11_needPair rfl (Nat.le_of_ble_eq_true rfl) rfl (fun γ hγ X Y T => ?_)
  subst hγ
  have X : gX o γ cX11_needPair 3 RX11 := X
  refine g_aload_0 (pc := 0) X dX11_needPair_0 ?_
  refine g_iload_1 (pc := 1) X dX11_needPair_1 ?_
  refine g_callVX_V (pc := 2) X Y dX11_needPair_2 miX11_needEntry li_X11_126 (t_X11_needEntry hst hR  h) rfl (by decide) rfl ⟨_, rfl⟩ rfl ⟨Nat.le_of_ble_eq_true rfl, Nat.le_of_ble_eq_true rfl⟩ ⟨Nat.le_of_ble_eq_true rfl, Nat.le_of_ble_eq_true rfl⟩ (by exact Nat.le_of_ble_eq_true rfl) rfl (fun E σ9 hp => g_out X T hp (Nat.le_of_ble_eq_true rfl) (Nat.le_of_ble_eq_true rfl)) (fun σ9 hp => ?_)
  obtain ⟨rfl, h⟩ := hp
  refine g_aload_0 (pc := 5) X dX11_needPair_5 ?_
  refine g_iload_2 (pc := 6) X dX11_needPair_6 ?_
  refine g_callVX_V (pc := 7) X Y dX11_needPair_7 miX11_needEntry li_X11_126 (t_X11_needEntry hst hR  h) rfl (by decide) rfl ⟨_, rfl⟩ rfl ⟨Nat.le_of_ble_eq_true rfl, Nat.le_of_ble_eq_true rfl⟩ ⟨Nat.le_of_ble_eq_true rfl, Nat.le_of_ble_eq_true rfl⟩ (by exact Nat.le_of_ble_eq_true rfl) rfl (fun E σ9 hp => g_out X T hp (Nat.le_of_ble_eq_true rfl) (Nat.le_of_ble_eq_true rfl)) (fun σ9 hp => ?_)
  obtain ⟨rfl, h⟩ := hp
  refine g_iload_1 (pc := 10) X dX11_needPair_10 ?_
  refine g_iload_2 (pc := 11) X dX11_needPair_11 ?_
  replace h := h (fun x1 => G o γ 2 12 116 σ 20 [none, none, none] [.int x1]) (by
      intro x1 h
      refine g_callSX_V (pc := 20) X Y dX11_needPair_20 miX11_refuseUnless li_X11_104 (t_X11_refuseUnless hst hR  h) rfl ⟨Nat.le_of_ble_eq_true rfl, Nat.le_of_ble_eq_true rfl⟩ ⟨Nat.le_of_ble_eq_true rfl, Nat.le_of_ble_eq_true rfl⟩ (by exact Nat.le_of_ble_eq_true rfl) rfl (fun E σ9 hp => g_out X T hp (Nat.le_of_ble_eq_true rfl) (Nat.le_of_ble_eq_true rfl)) (fun σ9 hp => ?_)
      obtain ⟨rfl, h⟩ := hp
      exact g_return (pc := 23) X Y dX11_needPair_23 (Nat.le_of_ble_eq_true rfl) (Nat.le_of_ble_eq_true rfl) ⟨rfl, rfl, h⟩)
  refine g_icmp_eq (pc := 12) X dX11_needPair_12 (tgt := 19) (by decide) (fun q3 => ?_) (fun q3 => ?_)
  · replace h := h.1 q3
    refine g_iconst (pc := 19) X dX11_needPair_19 kiconst_0 ?_
    exact g_drop (by simp [lsub]) (h)
  · replace h := h.2 q3
    refine g_iconst (pc := 15) X dX11_needPair_15 kiconst_1 ?_
    refine g_goto (pc := 16) X dX11_needPair_16 (tgt := 20) (by decide) ?_
    exact g_drop (by simp [lsub]) (h)
def W_X11_weight (p0 : Int32) (p1 : Int32) (Q : Int32 → Prop) (QX : String → gSt → Prop) (σ : gSt) : Prop := W_X11_needPair p0 p1 (WPI mX4_isNever 1 (fun o => [.ref (ad o 16), .int p0, .int p1]) (fun x1 => ((x1 = 0 → (WPI mX4_pull 1 (fun o => [.ref (ad o 16), .int p0, .int p1]) (fun x3 => Q x3) σ)) ∧ (¬ x1 = 0 → (Q ((-2147483648 : Int32)))))) σ) QX σ
set_option maxHeartbeats 4000000 in
theorem t_X11_weight {o : gOm} {l : Launch} {b : Bool}   {σ : gSt} (hst : l.stackTraces = false) (hR : σ.2.2 = gRf b) {p0 : Int32} {p1 : Int32} {Q : Int32 → Prop} {QX : String → gSt → Prop} (h : W_X11_weight p0 p1 Q QX σ) : SpX o l mX11_weight 8 3 18 [.ref (ad o 0), .int p0, .int p1] 116 σ (pI (fun x s => σ = s ∧ Q x)) (fun E s => s.2.2 = gRf b ∧ QX E s) := by
  unfold W_X11_weight at h
  refine SpX.of (ls0 := [some (.ref (ad o 0)), some (.int p0), some (.int p1)]) hst miX11_weight rfl (Nat.le_of_ble_eq_true rfl) rfl (fun γ hγ X Y T => ?_)
  subst hγ
  have X : gX o γ cX11_weight 3 RX11 := X
  refine g_aload_0 (pc := 0) X dX11_weight_0 ?_
  refine g_iload_1 (pc := 1) X dX11_weight_1 ?_
  refine g_iload_2 (pc := 2) X dX11_weight_2 ?_
  refine g_callVX_V (pc := 3) X Y dX11_weight_3 miX11_needPair li_X11_178 (t_X11_needPair hst hR  h) rfl (by decide) rfl ⟨_, rfl⟩ rfl ⟨Nat.le_of_ble_eq_true rfl, Nat.le_of_ble_eq_true rfl⟩ ⟨Nat.le_of_ble_eq_true rfl, Nat.le_of_ble_eq_true rfl⟩ (by exact Nat.le_of_ble_eq_true rfl) rfl (fun E σ9 hp => g_out X T hp (Nat.le_of_ble_eq_true rfl) (Nat.le_of_ble_eq_true rfl)) (fun σ9 hp => ?_)
  obtain ⟨rfl, h⟩ := hp
  refine g_aload_0 (pc := 6) X dX11_weight_6 ?_
  refine g_getRf (pc := 7) X dX11_weight_7 fl_X11_30 rfl (by decide) rfl hR rfl ?_
  refine g_iload_1 (pc := 10) X dX11_weight_10 ?_
  refine g_iload_2 (pc := 11) X dX11_weight_11 ?_
  refine g_callV_I (pc := 12) X Y dX11_weight_12 miX4_isNever li_X11_182 (t_WPI hR  h) rfl (by decide) rfl ⟨_, rfl⟩ rfl ⟨Nat.le_of_ble_eq_true rfl, Nat.le_of_ble_eq_true rfl⟩ (Nat.le_of_ble_eq_true rfl) (Nat.le_of_ble_eq_true rfl) rfl (by exact Nat.le_of_ble_eq_true rfl) (fun x1 σ9 hp => ?_)
  obtain ⟨rfl, h⟩ := hp
  refine g_if_eq (pc := 15) X dX11_weight_15 (tgt := 23) (by decide) (fun q2 => ?_) (fun q2 => ?_)
  · replace h := h.1 q2
    refine g_aload_0 (pc := 23) X dX11_weight_23 ?_
    refine g_getRf (pc := 24) X dX11_weight_24 fl_X11_30 rfl (by decide) rfl hR rfl ?_
    refine g_iload_1 (pc := 27) X dX11_weight_27 ?_
    refine g_iload_2 (pc := 28) X dX11_weight_28 ?_
    refine g_callV_I (pc := 29) X Y dX11_weight_29 miX4_pull li_X11_187 (t_WPI hR  h) rfl (by decide) rfl ⟨_, rfl⟩ rfl ⟨Nat.le_of_ble_eq_true rfl, Nat.le_of_ble_eq_true rfl⟩ (Nat.le_of_ble_eq_true rfl) (Nat.le_of_ble_eq_true rfl) rfl (by exact Nat.le_of_ble_eq_true rfl) (fun x3 σ9 hp => ?_)
    obtain ⟨rfl, h⟩ := hp
    exact g_ireturn (pc := 32) X Y dX11_weight_32 (Nat.le_of_ble_eq_true rfl) (Nat.le_of_ble_eq_true rfl) ⟨_, rfl, rfl, h⟩
  · replace h := h.2 q2
    refine g_ldc (pc := 18) X dX11_weight_18 ct_X11_186 ?_
    refine g_goto (pc := 20) X dX11_weight_20 (tgt := 32) (by decide) ?_
    exact g_ireturn (pc := 32) X Y dX11_weight_32 (Nat.le_of_ble_eq_true rfl) (Nat.le_of_ble_eq_true rfl) ⟨_, rfl, rfl, h⟩
def W_X11_why (p0 : Int32) (p1 : Int32) (Q : Int32 → Prop) (QX : String → gSt → Prop) (σ : gSt) : Prop := W_X11_needPair p0 p1 (WPI mX4_isByHand 1 (fun o => [.ref (ad o 16), .int p0, .int p1]) (fun x1 => ((x1 = 0 → (WPI mX4_reasons 1 (fun o => [.ref (ad o 16), .int p0, .int p1]) (fun x3 => Q x3) σ)) ∧ (¬ x1 = 0 → (Q ((-1 : Int32)))))) σ) QX σ
set_option maxHeartbeats 4000000 in
theorem t_X11_why {o : gOm} {l : Launch} {b : Bool}   {σ : gSt} (hst : l.stackTraces = false) (hR : σ.2.2 = gRf b) {p0 : Int32} {p1 : Int32} {Q : Int32 → Prop} {QX : String → gSt → Prop} (h : W_X11_why p0 p1 Q QX σ) : SpX o l mX11_why 8 3 18 [.ref (ad o 0), .int p0, .int p1] 116 σ (pI (fun x s => σ = s ∧ Q x)) (fun E s => s.2.2 = gRf b ∧ QX E s) := by
  unfold W_X11_why at h
  refine SpX.of (ls0 := [some (.ref (ad o 0)), some (.int p0), some (.int p1)]) hst miX11_why rfl (Nat.le_of_ble_eq_true rfl) rfl (fun γ hγ X Y T => ?_)
  subst hγ
  have X : gX o γ cX11_why 3 RX11 := X
  refine g_aload_0 (pc := 0) X dX11_why_0 ?_
  refine g_iload_1 (pc := 1) X dX11_why_1 ?_
  refine g_iload_2 (pc := 2) X dX11_why_2 ?_
  refine g_callVX_V (pc := 3) X Y dX11_why_3 miX11_needPair li_X11_178 (t_X11_needPair hst hR  h) rfl (by decide) rfl ⟨_, rfl⟩ rfl ⟨Nat.le_of_ble_eq_true rfl, Nat.le_of_ble_eq_true rfl⟩ ⟨Nat.le_of_ble_eq_true rfl, Nat.le_of_ble_eq_true rfl⟩ (by exact Nat.le_of_ble_eq_true rfl) rfl (fun E σ9 hp => g_out X T hp (Nat.le_of_ble_eq_true rfl) (Nat.le_of_ble_eq_true rfl)) (fun σ9 hp => ?_)
  obtain ⟨rfl, h⟩ := hp
  refine g_aload_0 (pc := 6) X dX11_why_6 ?_
  refine g_getRf (pc := 7) X dX11_why_7 fl_X11_30 rfl (by decide) rfl hR rfl ?_
  refine g_iload_1 (pc := 10) X dX11_why_10 ?_
  refine g_iload_2 (pc := 11) X dX11_why_11 ?_
  refine g_callV_I (pc := 12) X Y dX11_why_12 miX4_isByHand li_X11_190 (t_WPI hR  h) rfl (by decide) rfl ⟨_, rfl⟩ rfl ⟨Nat.le_of_ble_eq_true rfl, Nat.le_of_ble_eq_true rfl⟩ (Nat.le_of_ble_eq_true rfl) (Nat.le_of_ble_eq_true rfl) rfl (by exact Nat.le_of_ble_eq_true rfl) (fun x1 σ9 hp => ?_)
  obtain ⟨rfl, h⟩ := hp
  refine g_if_eq (pc := 15) X dX11_why_15 (tgt := 22) (by decide) (fun q2 => ?_) (fun q2 => ?_)
  · replace h := h.1 q2
    refine g_aload_0 (pc := 22) X dX11_why_22 ?_
    refine g_getRf (pc := 23) X dX11_why_23 fl_X11_30 rfl (by decide) rfl hR rfl ?_
    refine g_iload_1 (pc := 26) X dX11_why_26 ?_
    refine g_iload_2 (pc := 27) X dX11_why_27 ?_
    refine g_callV_I (pc := 28) X Y dX11_why_28 miX4_reasons li_X11_193 (t_WPI hR  h) rfl (by decide) rfl ⟨_, rfl⟩ rfl ⟨Nat.le_of_ble_eq_true rfl, Nat.le_of_ble_eq_true rfl⟩ (Nat.le_of_ble_eq_true rfl) (Nat.le_of_ble_eq_true rfl) rfl (by exact Nat.le_of_ble_eq_true rfl) (fun x3 σ9 hp => ?_)
    obtain ⟨rfl, h⟩ := hp
    exact g_ireturn (pc := 31) X Y dX11_why_31 (Nat.le_of_ble_eq_true rfl) (Nat.le_of_ble_eq_true rfl) ⟨_, rfl, rfl, h⟩
  · replace h := h.2 q2
    refine g_iconst (pc := 18) X dX11_why_18 kiconst_m1 ?_
    refine g_goto (pc := 19) X dX11_why_19 (tgt := 31) (by decide) ?_
    exact g_ireturn (pc := 31) X Y dX11_why_31 (Nat.le_of_ble_eq_true rfl) (Nat.le_of_ble_eq_true rfl) ⟨_, rfl, rfl, h⟩
def W_X11_weigh (p0 : Int32) (p1 : Int32) (p2 : Int32) (Q : Int32 → gSt → Prop) (QX : String → gSt → Prop) (σ : gSt) : Prop := W_X11_needPair p0 p1 (∀ J2 : Int32 → Prop, (∀ x1, (W_X11_refuseUnless x1 (WPI mX4_isByHand 1 (fun o => [.ref (ad o 16), .int p0, .int p1]) (fun x3 => ∀ J5 : Int32 → Prop, (∀ x4, (∀ J6 : Prop, ((WSV mX4_tellByHand 3 (fun o => [.ref (ad o 16), .int p0, .int p1, .int p2]) (fun s7 => WSV mX8_wipe 2 (fun o => [.ref (ad o 42)]) (fun s8 => ((x4 = 0 → (Q (nI 0) s8)) ∧ (¬ x4 = 0 → (Q (nI 1) s8)))) s7) σ) → J6) → ((x4 = 0 → J6) ∧ (¬ x4 = 0 → ((((σ.1 16 2) < (nI 60) → J6) ∧ (¬ (σ.1 16 2) < (nI 60) → (Q ((-1 : Int32)) σ))))))) → J5 x4) → ((x3 = 0 → (J5 (nI 1))) ∧ (¬ x3 = 0 → (J5 (nI 0))))) σ) QX σ) → J2 x1) → ∀ J13 : Prop, ((J2 (nI 1)) → J13) → ((p2 = ((-2147483648 : Int32)) → J13) ∧ (¬ p2 = ((-2147483648 : Int32)) → (W_X11_isWithin p2 ((-10000 : Int32)) (nI 10000) (fun x15 => ((x15 = 0 → (J2 (nI 0))) ∧ (¬ x15 = 0 → J13))) σ)))) QX σ
set_option maxHeartbeats 4000000 in
theorem t_X11_weigh {o : gOm} {l : Launch} {b : Bool}   {σ : gSt} (hst : l.stackTraces = false) (hR : σ.2.2 = gRf b) {p0 : Int32} {p1 : Int32} {p2 : Int32} {Q : Int32 → gSt → Prop} {QX : String → gSt → Prop} (h : W_X11_weigh p0 p1 p2 Q QX σ) : SpX o l mX11_weigh 8 4 24 [.ref (ad o 0), .int p0, .int p1, .int p2] 116 σ (pI (fun x s => s.2.2 = gRf b ∧ Q x s)) (fun E s => s.2.2 = gRf b ∧ QX E s) := by
  unfold W_X11_weigh at h
  refine SpX.of (ls0 := [some (.ref (ad o 0)), some (.int p0), some (.int p1), some (.int p2), none]) hst miX11_weigh rfl (Nat.le_of_ble_eq_true rfl) rfl (fun γ hγ X Y T => ?_)
  subst hγ
  have X : gX o γ cX11_weigh 5 RX11 := X
  refine g_aload_0 (pc := 0) X dX11_weigh_0 ?_
  refine g_iload_1 (pc := 1) X dX11_weigh_1 ?_
  refine g_iload_2 (pc := 2) X dX11_weigh_2 ?_
  refine g_callVX_V (pc := 3) X Y dX11_weigh_3 miX11_needPair li_X11_178 (t_X11_needPair hst hR  h) rfl (by decide) rfl ⟨_, rfl⟩ rfl ⟨Nat.le_of_ble_eq_true rfl, Nat.le_of_ble_eq_true rfl⟩ ⟨Nat.le_of_ble_eq_true rfl, Nat.le_of_ble_eq_true rfl⟩ (by exact Nat.le_of_ble_eq_true rfl) rfl (fun E σ9 hp => g_out X T hp (Nat.le_of_ble_eq_true rfl) (Nat.le_of_ble_eq_true rfl)) (fun σ9 hp => ?_)
  obtain ⟨rfl, h⟩ := hp
  refine g_iload_3 (pc := 6) X dX11_weigh_6 ?_
  refine g_ldc (pc := 7) X dX11_weigh_7 ct_X11_186 ?_
  replace h := h (fun x1 => G o γ 3 18 116 σ 30 [some (.ref (ad o 0)), some (.int p0), some (.int p1), some (.int p2), none] [.int x1]) (by
      intro x1 h
      refine g_callSX_V (pc := 30) X Y dX11_weigh_30 miX11_refuseUnless li_X11_104 (t_X11_refuseUnless hst hR  h) rfl ⟨Nat.le_of_ble_eq_true rfl, Nat.le_of_ble_eq_true rfl⟩ ⟨Nat.le_of_ble_eq_true rfl, Nat.le_of_ble_eq_true rfl⟩ (by exact Nat.le_of_ble_eq_true rfl) rfl (fun E σ9 hp => g_out X T hp (Nat.le_of_ble_eq_true rfl) (Nat.le_of_ble_eq_true rfl)) (fun σ9 hp => ?_)
      obtain ⟨rfl, h⟩ := hp
      refine g_aload_0 (pc := 33) X dX11_weigh_33 ?_
      refine g_getRf (pc := 34) X dX11_weigh_34 fl_X11_30 rfl (by decide) rfl hR rfl ?_
      refine g_iload_1 (pc := 37) X dX11_weigh_37 ?_
      refine g_iload_2 (pc := 38) X dX11_weigh_38 ?_
      refine g_callV_I (pc := 39) X Y dX11_weigh_39 miX4_isByHand li_X11_190 (t_WPI hR  h) rfl (by decide) rfl ⟨_, rfl⟩ rfl ⟨Nat.le_of_ble_eq_true rfl, Nat.le_of_ble_eq_true rfl⟩ (Nat.le_of_ble_eq_true rfl) (Nat.le_of_ble_eq_true rfl) rfl (by exact Nat.le_of_ble_eq_true rfl) (fun x3 σ9 hp => ?_)
      obtain ⟨rfl, h⟩ := hp
      replace h := h (fun x4 => G o γ 4 24 116 σ 50 [some (.ref (ad o 0)), some (.int p0), some (.int p1), some (.int p2), none] [.int x4]) (by
          intro x4 h
          refine g_istore_4 (pc := 50) X dX11_weigh_50 (by decide) rfl ?_
          refine g_iload_4 (pc := 52) X dX11_weigh_52 ?_
          replace h := h (G o γ 4 24 116 σ 71 [some (.ref (ad o 0)), some (.int p0), some (.int p1), some (.int p2), some (.int x4)] []) (by
              intro  h
              refine g_aload_0 (pc := 71) X dX11_weigh_71 ?_
              refine g_getRf (pc := 72) X dX11_weigh_72 fl_X11_30 rfl (by decide) rfl hR rfl ?_
              refine g_iload_1 (pc := 75) X dX11_weigh_75 ?_
              refine g_iload_2 (pc := 76) X dX11_weigh_76 ?_
              refine g_iload_3 (pc := 77) X dX11_weigh_77 ?_
              refine g_callV_V (pc := 78) X Y dX11_weigh_78 miX4_tellByHand li_X11_199 (t_WSV hR  h) rfl (by decide) rfl ⟨_, rfl⟩ rfl ⟨Nat.le_of_ble_eq_true rfl, Nat.le_of_ble_eq_true rfl⟩ (Nat.le_of_ble_eq_true rfl) (Nat.le_of_ble_eq_true rfl) rfl (by exact Nat.le_of_ble_eq_true rfl) (fun s7 hp => ?_)
              obtain ⟨hR, h⟩ := hp
              refine g_aload_0 (pc := 81) X dX11_weigh_81 ?_
              refine g_getRf (pc := 82) X dX11_weigh_82 fl_X11_66 rfl (by decide) rfl hR rfl ?_
              refine g_callV_V (pc := 85) X Y dX11_weigh_85 miX8_wipe li_X11_123 (t_WSV hR  h) rfl (by decide) rfl ⟨_, rfl⟩ rfl ⟨Nat.le_of_ble_eq_true rfl, Nat.le_of_ble_eq_true rfl⟩ (Nat.le_of_ble_eq_true rfl) (Nat.le_of_ble_eq_true rfl) rfl (by exact Nat.le_of_ble_eq_true rfl) (fun s8 hp => ?_)
              obtain ⟨hR, h⟩ := hp
              refine g_iload_4 (pc := 88) X dX11_weigh_88 ?_
              refine g_if_eq (pc := 90) X dX11_weigh_90 (tgt := 97) (by decide) (fun q9 => ?_) (fun q9 => ?_)
              · replace h := h.1 q9
                refine g_iconst (pc := 97) X dX11_weigh_97 kiconst_0 ?_
                exact g_ireturn (pc := 98) X Y dX11_weigh_98 (Nat.le_of_ble_eq_true rfl) (Nat.le_of_ble_eq_true rfl) ⟨_, rfl, hR, h⟩
              · replace h := h.2 q9
                refine g_iconst (pc := 93) X dX11_weigh_93 kiconst_1 ?_
                refine g_goto (pc := 94) X dX11_weigh_94 (tgt := 98) (by decide) ?_
                exact g_ireturn (pc := 98) X Y dX11_weigh_98 (Nat.le_of_ble_eq_true rfl) (Nat.le_of_ble_eq_true rfl) ⟨_, rfl, hR, h⟩)
          refine g_if_eq (pc := 54) X dX11_weigh_54 (tgt := 71) (by decide) (fun q10 => ?_) (fun q10 => ?_)
          · replace h := h.1 q10
            exact h
          · replace h := h.2 q10
            refine g_aload_0 (pc := 57) X dX11_weigh_57 ?_
            refine g_getRf (pc := 58) X dX11_weigh_58 fl_X11_30 rfl (by decide) rfl hR rfl ?_
            refine g_getI (pc := 61) X dX11_weigh_61 rfl (by decide) fl_X11_196 (Or.inl rfl) ?_
            refine g_bipush (pc := 64) X dX11_weigh_64 kbipush_60 ?_
            refine g_icmp_lt (pc := 66) X dX11_weigh_66 (tgt := 71) (by decide) (fun q11 => ?_) (fun q11 => ?_)
            · replace h := h.1 q11
              exact h
            · replace h := h.2 q11
              refine g_iconst (pc := 69) X dX11_weigh_69 kiconst_m1 ?_
              exact g_ireturn (pc := 70) X Y dX11_weigh_70 (Nat.le_of_ble_eq_true rfl) (Nat.le_of_ble_eq_true rfl) ⟨_, rfl, hR, h⟩)
      refine g_if_ne (pc := 42) X dX11_weigh_42 (tgt := 49) (by decide) (fun q12 => ?_) (fun q12 => ?_)
      · replace h := h.2 q12
        refine g_iconst (pc := 49) X dX11_weigh_49 kiconst_0 ?_
        exact h
      · replace h := h.1 q12
        refine g_iconst (pc := 45) X dX11_weigh_45 kiconst_1 ?_
        refine g_goto (pc := 46) X dX11_weigh_46 (tgt := 50) (by decide) ?_
        exact h)
  replace h := h (G o γ 3 18 116 σ 25 [some (.ref (ad o 0)), some (.int p0), some (.int p1), some (.int p2), none] []) (by
      intro  h
      refine g_iconst (pc := 25) X dX11_weigh_25 kiconst_1 ?_
      refine g_goto (pc := 26) X dX11_weigh_26 (tgt := 30) (by decide) ?_
      exact h)
  refine g_icmp_eq (pc := 9) X dX11_weigh_9 (tgt := 25) (by decide) (fun q14 => ?_) (fun q14 => ?_)
  · replace h := h.1 q14
    exact h
  · replace h := h.2 q14
    refine g_iload_3 (pc := 12) X dX11_weigh_12 ?_
    refine g_sipush (pc := 13) X dX11_weigh_13 ksipush_m10000 ?_
    refine g_sipush (pc := 16) X dX11_weigh_16 ksipush_10000 ?_
    refine g_callS_I (pc := 19) X Y dX11_weigh_19 miX11_isWithin li_X11_100 (t_X11_isWithin hR  h) rfl ⟨Nat.le_of_ble_eq_true rfl, Nat.le_of_ble_eq_true rfl⟩ (Nat.le_of_ble_eq_true rfl) (Nat.le_of_ble_eq_true rfl) rfl (by exact Nat.le_of_ble_eq_true rfl) (fun x15 σ9 hp => ?_)
    obtain ⟨rfl, h⟩ := hp
    refine g_if_eq (pc := 22) X dX11_weigh_22 (tgt := 29) (by decide) (fun q16 => ?_) (fun q16 => ?_)
    · replace h := h.1 q16
      refine g_iconst (pc := 29) X dX11_weigh_29 kiconst_0 ?_
      exact h
    · replace h := h.2 q16
      exact h
def W_X11_forget (b : Bool) (p0 : Int32) (p1 : Int32) (Q : Int32 → gSt → Prop) (QX : String → gSt → Prop) (σ : gSt) : Prop := W_X11_needPair p0 p1 (WPI mX4_isByHand 1 (fun o => [.ref (ad o 16), .int p0, .int p1]) (fun x1 => ((x1 = 0 → (Q (nI 0) σ)) ∧ (¬ x1 = 0 → (WSV mX4_forgetByHand 7 (fun o => [.ref (ad o 16), .int p0, .int p1]) (fun s3 => WSV mX8_wipe 2 (fun o => [.ref (ad o 42)]) (fun s4 => Q (nI 1) s4) s3) σ)))) σ) QX σ
set_option maxHeartbeats 4000000 in
theorem t_X11_forget {o : gOm} {l : Launch} {b : Bool}   {σ : gSt} (hst : l.stackTraces = false) (hR : σ.2.2 = gRf b) {p0 : Int32} {p1 : Int32} {Q : Int32 → gSt → Prop} {QX : String → gSt → Prop} (h : W_X11_forget b p0 p1 Q QX σ) : SpX o l mX11_forget 8 3 18 [.ref (ad o 0), .int p0, .int p1] 116 σ (pI (fun x s => s.2.2 = gRf b ∧ Q x s)) (fun E s => s.2.2 = gRf b ∧ QX E s) := by
  unfold W_X11_forget at h
  refine SpX.of (ls0 := [some (.ref (ad o 0)), some (.int p0), some (.int p1)]) hst miX11_forget rfl (Nat.le_of_ble_eq_true rfl) rfl (fun γ hγ X Y T => ?_)
  subst hγ
  have X : gX o γ cX11_forget 3 RX11 := X
  refine g_aload_0 (pc := 0) X dX11_forget_0 ?_
  refine g_iload_1 (pc := 1) X dX11_forget_1 ?_
  refine g_iload_2 (pc := 2) X dX11_forget_2 ?_
  refine g_callVX_V (pc := 3) X Y dX11_forget_3 miX11_needPair li_X11_178 (t_X11_needPair hst hR  h) rfl (by decide) rfl ⟨_, rfl⟩ rfl ⟨Nat.le_of_ble_eq_true rfl, Nat.le_of_ble_eq_true rfl⟩ ⟨Nat.le_of_ble_eq_true rfl, Nat.le_of_ble_eq_true rfl⟩ (by exact Nat.le_of_ble_eq_true rfl) rfl (fun E σ9 hp => g_out X T hp (Nat.le_of_ble_eq_true rfl) (Nat.le_of_ble_eq_true rfl)) (fun σ9 hp => ?_)
  obtain ⟨rfl, h⟩ := hp
  refine g_aload_0 (pc := 6) X dX11_forget_6 ?_
  refine g_getRf (pc := 7) X dX11_forget_7 fl_X11_30 rfl (by decide) rfl hR rfl ?_
  refine g_iload_1 (pc := 10) X dX11_forget_10 ?_
  refine g_iload_2 (pc := 11) X dX11_forget_11 ?_
  refine g_callV_I (pc := 12) X Y dX11_forget_12 miX4_isByHand li_X11_190 (t_WPI hR  h) rfl (by decide) rfl ⟨_, rfl⟩ rfl ⟨Nat.le_of_ble_eq_true rfl, Nat.le_of_ble_eq_true rfl⟩ (Nat.le_of_ble_eq_true rfl) (Nat.le_of_ble_eq_true rfl) rfl (by exact Nat.le_of_ble_eq_true rfl) (fun x1 σ9 hp => ?_)
  obtain ⟨rfl, h⟩ := hp
  refine g_if_ne (pc := 15) X dX11_forget_15 (tgt := 20) (by decide) (fun q2 => ?_) (fun q2 => ?_)
  · replace h := h.2 q2
    refine g_aload_0 (pc := 20) X dX11_forget_20 ?_
    refine g_getRf (pc := 21) X dX11_forget_21 fl_X11_30 rfl (by decide) rfl hR rfl ?_
    refine g_iload_1 (pc := 24) X dX11_forget_24 ?_
    refine g_iload_2 (pc := 25) X dX11_forget_25 ?_
    refine g_callV_V (pc := 26) X Y dX11_forget_26 miX4_forgetByHand li_X11_203 (t_WSV hR  h) rfl (by decide) rfl ⟨_, rfl⟩ rfl ⟨Nat.le_of_ble_eq_true rfl, Nat.le_of_ble_eq_true rfl⟩ (Nat.le_of_ble_eq_true rfl) (Nat.le_of_ble_eq_true rfl) rfl (by exact Nat.le_of_ble_eq_true rfl) (fun s3 hp => ?_)
    obtain ⟨hR, h⟩ := hp
    refine g_aload_0 (pc := 29) X dX11_forget_29 ?_
    refine g_getRf (pc := 30) X dX11_forget_30 fl_X11_66 rfl (by decide) rfl hR rfl ?_
    refine g_callV_V (pc := 33) X Y dX11_forget_33 miX8_wipe li_X11_123 (t_WSV hR  h) rfl (by decide) rfl ⟨_, rfl⟩ rfl ⟨Nat.le_of_ble_eq_true rfl, Nat.le_of_ble_eq_true rfl⟩ (Nat.le_of_ble_eq_true rfl) (Nat.le_of_ble_eq_true rfl) rfl (by exact Nat.le_of_ble_eq_true rfl) (fun s4 hp => ?_)
    obtain ⟨hR, h⟩ := hp
    refine g_iconst (pc := 36) X dX11_forget_36 kiconst_1 ?_
    exact g_ireturn (pc := 37) X Y dX11_forget_37 (Nat.le_of_ble_eq_true rfl) (Nat.le_of_ble_eq_true rfl) ⟨_, rfl, hR, h⟩
  · replace h := h.1 q2
    refine g_iconst (pc := 18) X dX11_forget_18 kiconst_0 ?_
    exact g_ireturn (pc := 19) X Y dX11_forget_19 (Nat.le_of_ble_eq_true rfl) (Nat.le_of_ble_eq_true rfl) ⟨_, rfl, hR, h⟩
def W_X11_law (p0 : Int32) (p1 : Int32) (Q : Int32 → gSt → Prop) (QX : String → gSt → Prop) (σ : gSt) : Prop := W_X11_isWithin p0 (nI 0) (nI 2) (fun x1 => W_X11_refuseUnless x1 (∀ J3 : Int32 → Prop, (∀ x2, (∀ J5 : Int32 → Prop, (∀ x4, (W_X11_isWithin p1 x2 x4 (fun x6 => W_X11_refuseUnless x6 (WSI mX3_change 1 (fun o => [.ref (ad o 30), .int p0, .int p1]) (fun x7 s8 => Q x7 s8) σ) QX σ) σ) → J5 x4) → ((p0 = 0 → (J5 (nI 30))) ∧ (¬ p0 = 0 → (((p0 = (nI 1) → (J5 (nI 1))) ∧ (¬ p0 = (nI 1) → (J5 (nI 199)))))))) → J3 x2) → ((p0 = (nI 2) → (J3 ((-1 : Int32)))) ∧ (¬ p0 = (nI 2) → (J3 (nI 0))))) QX σ) σ
set_option maxHeartbeats 4000000 in
theorem t_X11_law {o : gOm} {l : Launch} {b : Bool}   {σ : gSt} (hst : l.stackTraces = false) (hR : σ.2.2 = gRf b) {p0 : Int32} {p1 : Int32} {Q : Int32 → gSt → Prop} {QX : String → gSt → Prop} (h : W_X11_law p0 p1 Q QX σ) : SpX o l mX11_law 7 2 12 [.ref (ad o 0), .int p0, .int p1] 116 σ (pI (fun x s => s.2.2 = gRf b ∧ Q x s)) (fun E s => s.2.2 = gRf b ∧ QX E s) := by
  unfold W_X11_law at h
  refine SpX.of (ls0 := [some (.ref (ad o 0)), some (.int p0), some (.int p1), none, none]) hst miX11_law rfl (Nat.le_of_ble_eq_true rfl) rfl (fun γ hγ X Y T => ?_)
  subst hγ
  have X : gX o γ cX11_law 5 RX11 := X
  refine g_iload_1 (pc := 0) X dX11_law_0 ?_
  refine g_iconst (pc := 1) X dX11_law_1 kiconst_0 ?_
  refine g_iconst (pc := 2) X dX11_law_2 kiconst_2 ?_
  refine g_callS_I (pc := 3) X Y dX11_law_3 miX11_isWithin li_X11_100 (t_X11_isWithin hR  h) rfl ⟨Nat.le_of_ble_eq_true rfl, Nat.le_of_ble_eq_true rfl⟩ (Nat.le_of_ble_eq_true rfl) (Nat.le_of_ble_eq_true rfl) rfl (by exact Nat.le_of_ble_eq_true rfl) (fun x1 σ9 hp => ?_)
  obtain ⟨rfl, h⟩ := hp
  refine g_callSX_V (pc := 6) X Y dX11_law_6 miX11_refuseUnless li_X11_104 (t_X11_refuseUnless hst hR  h) rfl ⟨Nat.le_of_ble_eq_true rfl, Nat.le_of_ble_eq_true rfl⟩ ⟨Nat.le_of_ble_eq_true rfl, Nat.le_of_ble_eq_true rfl⟩ (by exact Nat.le_of_ble_eq_true rfl) rfl (fun E σ9 hp => g_out X T hp (Nat.le_of_ble_eq_true rfl) (Nat.le_of_ble_eq_true rfl)) (fun σ9 hp => ?_)
  obtain ⟨rfl, h⟩ := hp
  refine g_iload_1 (pc := 9) X dX11_law_9 ?_
  refine g_iconst (pc := 10) X dX11_law_10 kiconst_2 ?_
  replace h := h (fun x2 => G o γ 1 6 116 σ 19 [some (.ref (ad o 0)), some (.int p0), some (.int p1), none, none] [.int x2]) (by
      intro x2 h
      refine g_istore_3 (pc := 19) X dX11_law_19 (by decide) rfl ?_
      refine g_iload_1 (pc := 20) X dX11_law_20 ?_
      replace h := h (fun x4 => G o γ 1 6 116 σ 41 [some (.ref (ad o 0)), some (.int p0), some (.int p1), some (.int x2), none] [.int x4]) (by
          intro x4 h
          refine g_istore_4 (pc := 41) X dX11_law_41 (by decide) rfl ?_
          refine g_iload_2 (pc := 43) X dX11_law_43 ?_
          refine g_iload_3 (pc := 44) X dX11_law_44 ?_
          refine g_iload_4 (pc := 45) X dX11_law_45 ?_
          refine g_callS_I (pc := 47) X Y dX11_law_47 miX11_isWithin li_X11_100 (t_X11_isWithin hR  h) rfl ⟨Nat.le_of_ble_eq_true rfl, Nat.le_of_ble_eq_true rfl⟩ (Nat.le_of_ble_eq_true rfl) (Nat.le_of_ble_eq_true rfl) rfl (by exact Nat.le_of_ble_eq_true rfl) (fun x6 σ9 hp => ?_)
          obtain ⟨rfl, h⟩ := hp
          refine g_callSX_V (pc := 50) X Y dX11_law_50 miX11_refuseUnless li_X11_104 (t_X11_refuseUnless hst hR  h) rfl ⟨Nat.le_of_ble_eq_true rfl, Nat.le_of_ble_eq_true rfl⟩ ⟨Nat.le_of_ble_eq_true rfl, Nat.le_of_ble_eq_true rfl⟩ (by exact Nat.le_of_ble_eq_true rfl) rfl (fun E σ9 hp => g_out X T hp (Nat.le_of_ble_eq_true rfl) (Nat.le_of_ble_eq_true rfl)) (fun σ9 hp => ?_)
          obtain ⟨rfl, h⟩ := hp
          refine g_aload_0 (pc := 53) X dX11_law_53 ?_
          refine g_getRf (pc := 54) X dX11_law_54 fl_X11_39 rfl (by decide) rfl hR rfl ?_
          refine g_iload_1 (pc := 57) X dX11_law_57 ?_
          refine g_iload_2 (pc := 58) X dX11_law_58 ?_
          refine g_callV_I (pc := 59) X Y dX11_law_59 miX3_change li_X11_206 (t_WSI hR  h) rfl (by decide) rfl ⟨_, rfl⟩ rfl ⟨Nat.le_of_ble_eq_true rfl, Nat.le_of_ble_eq_true rfl⟩ (Nat.le_of_ble_eq_true rfl) (Nat.le_of_ble_eq_true rfl) rfl (by exact Nat.le_of_ble_eq_true rfl) (fun x7 s8 hp => ?_)
          obtain ⟨hR, h⟩ := hp
          exact g_ireturn (pc := 62) X Y dX11_law_62 (Nat.le_of_ble_eq_true rfl) (Nat.le_of_ble_eq_true rfl) ⟨_, rfl, hR, h⟩)
      refine g_if_ne (pc := 21) X dX11_law_21 (tgt := 29) (by decide) (fun q9 => ?_) (fun q9 => ?_)
      · replace h := h.2 q9
        refine g_iload_1 (pc := 29) X dX11_law_29 ?_
        refine g_iconst (pc := 30) X dX11_law_30 kiconst_1 ?_
        refine g_icmp_ne (pc := 31) X dX11_law_31 (tgt := 38) (by decide) (fun q10 => ?_) (fun q10 => ?_)
        · replace h := h.2 q10
          refine g_sipush (pc := 38) X dX11_law_38 ksipush_199 ?_
          exact h
        · replace h := h.1 q10
          refine g_iconst (pc := 34) X dX11_law_34 kiconst_1 ?_
          refine g_goto (pc := 35) X dX11_law_35 (tgt := 41) (by decide) ?_
          exact h
      · replace h := h.1 q9
        refine g_bipush (pc := 24) X dX11_law_24 kbipush_30 ?_
        refine g_goto (pc := 26) X dX11_law_26 (tgt := 41) (by decide) ?_
        exact h)
  refine g_icmp_ne (pc := 11) X dX11_law_11 (tgt := 18) (by decide) (fun q11 => ?_) (fun q11 => ?_)
  · replace h := h.2 q11
    refine g_iconst (pc := 18) X dX11_law_18 kiconst_0 ?_
    exact h
  · replace h := h.1 q11
    refine g_iconst (pc := 14) X dX11_law_14 kiconst_m1 ?_
    refine g_goto (pc := 15) X dX11_law_15 (tgt := 19) (by decide) ?_
    exact h
def W_X11_fix (p0 : Int32) (p1 : Int32) (p2 : Int32) (Q : Int32 → gSt → Prop) (QX : String → gSt → Prop) (σ : gSt) : Prop := W_X11_needPair p0 p1 (WPI mX3_isFixed 1 (fun o => [.ref (ad o 30), .int p0, .int p1]) (fun x1 => ((x1 = 0 → ((((σ.1 30 2) < (nI 20) → (WSV mX3_bind 2 (fun o => [.ref (ad o 30), .int p0, .int p1, .int p2]) (fun s4 => Q (s4.1 30 2) s4) σ)) ∧ (¬ (σ.1 30 2) < (nI 20) → (Q ((-1 : Int32)) σ))))) ∧ (¬ x1 = 0 → (Q (nI 0) σ)))) σ) QX σ
set_option maxHeartbeats 4000000 in
theorem t_X11_fix {o : gOm} {l : Launch} {b : Bool}   {σ : gSt} (hst : l.stackTraces = false) (hR : σ.2.2 = gRf b) {p0 : Int32} {p1 : Int32} {p2 : Int32} {Q : Int32 → gSt → Prop} {QX : String → gSt → Prop} (h : W_X11_fix p0 p1 p2 Q QX σ) : SpX o l mX11_fix 8 3 18 [.ref (ad o 0), .int p0, .int p1, .int p2] 116 σ (pI (fun x s => s.2.2 = gRf b ∧ Q x s)) (fun E s => s.2.2 = gRf b ∧ QX E s) := by
  unfold W_X11_fix at h
  refine SpX.of (ls0 := [some (.ref (ad o 0)), some (.int p0), some (.int p1), some (.int p2)]) hst miX11_fix rfl (Nat.le_of_ble_eq_true rfl) rfl (fun γ hγ X Y T => ?_)
  subst hγ
  have X : gX o γ cX11_fix 4 RX11 := X
  refine g_aload_0 (pc := 0) X dX11_fix_0 ?_
  refine g_iload_1 (pc := 1) X dX11_fix_1 ?_
  refine g_iload_2 (pc := 2) X dX11_fix_2 ?_
  refine g_callVX_V (pc := 3) X Y dX11_fix_3 miX11_needPair li_X11_178 (t_X11_needPair hst hR  h) rfl (by decide) rfl ⟨_, rfl⟩ rfl ⟨Nat.le_of_ble_eq_true rfl, Nat.le_of_ble_eq_true rfl⟩ ⟨Nat.le_of_ble_eq_true rfl, Nat.le_of_ble_eq_true rfl⟩ (by exact Nat.le_of_ble_eq_true rfl) rfl (fun E σ9 hp => g_out X T hp (Nat.le_of_ble_eq_true rfl) (Nat.le_of_ble_eq_true rfl)) (fun σ9 hp => ?_)
  obtain ⟨rfl, h⟩ := hp
  refine g_aload_0 (pc := 6) X dX11_fix_6 ?_
  refine g_getRf (pc := 7) X dX11_fix_7 fl_X11_39 rfl (by decide) rfl hR rfl ?_
  refine g_iload_1 (pc := 10) X dX11_fix_10 ?_
  refine g_iload_2 (pc := 11) X dX11_fix_11 ?_
  refine g_callV_I (pc := 12) X Y dX11_fix_12 miX3_isFixed li_X11_209 (t_WPI hR  h) rfl (by decide) rfl ⟨_, rfl⟩ rfl ⟨Nat.le_of_ble_eq_true rfl, Nat.le_of_ble_eq_true rfl⟩ (Nat.le_of_ble_eq_true rfl) (Nat.le_of_ble_eq_true rfl) rfl (by exact Nat.le_of_ble_eq_true rfl) (fun x1 σ9 hp => ?_)
  obtain ⟨rfl, h⟩ := hp
  refine g_if_eq (pc := 15) X dX11_fix_15 (tgt := 20) (by decide) (fun q2 => ?_) (fun q2 => ?_)
  · replace h := h.1 q2
    refine g_aload_0 (pc := 20) X dX11_fix_20 ?_
    refine g_getRf (pc := 21) X dX11_fix_21 fl_X11_39 rfl (by decide) rfl hR rfl ?_
    refine g_getI (pc := 24) X dX11_fix_24 rfl (by decide) fl_X11_212 (Or.inl rfl) ?_
    refine g_bipush (pc := 27) X dX11_fix_27 kbipush_20 ?_
    refine g_icmp_lt (pc := 29) X dX11_fix_29 (tgt := 34) (by decide) (fun q3 => ?_) (fun q3 => ?_)
    · replace h := h.1 q3
      refine g_aload_0 (pc := 34) X dX11_fix_34 ?_
      refine g_getRf (pc := 35) X dX11_fix_35 fl_X11_39 rfl (by decide) rfl hR rfl ?_
      refine g_iload_1 (pc := 38) X dX11_fix_38 ?_
      refine g_iload_2 (pc := 39) X dX11_fix_39 ?_
      refine g_iload_3 (pc := 40) X dX11_fix_40 ?_
      refine g_callV_V (pc := 41) X Y dX11_fix_41 miX3_bind li_X11_215 (t_WSV hR  h) rfl (by decide) rfl ⟨_, rfl⟩ rfl ⟨Nat.le_of_ble_eq_true rfl, Nat.le_of_ble_eq_true rfl⟩ (Nat.le_of_ble_eq_true rfl) (Nat.le_of_ble_eq_true rfl) rfl (by exact Nat.le_of_ble_eq_true rfl) (fun s4 hp => ?_)
      obtain ⟨hR, h⟩ := hp
      refine g_aload_0 (pc := 44) X dX11_fix_44 ?_
      refine g_getRf (pc := 45) X dX11_fix_45 fl_X11_39 rfl (by decide) rfl hR rfl ?_
      refine g_getI (pc := 48) X dX11_fix_48 rfl (by decide) fl_X11_212 (Or.inl rfl) ?_
      exact g_ireturn (pc := 51) X Y dX11_fix_51 (Nat.le_of_ble_eq_true rfl) (Nat.le_of_ble_eq_true rfl) ⟨_, rfl, hR, h⟩
    · replace h := h.2 q3
      refine g_iconst (pc := 32) X dX11_fix_32 kiconst_m1 ?_
      exact g_ireturn (pc := 33) X Y dX11_fix_33 (Nat.le_of_ble_eq_true rfl) (Nat.le_of_ble_eq_true rfl) ⟨_, rfl, hR, h⟩
  · replace h := h.2 q2
    refine g_iconst (pc := 18) X dX11_fix_18 kiconst_0 ?_
    exact g_ireturn (pc := 19) X Y dX11_fix_19 (Nat.le_of_ble_eq_true rfl) (Nat.le_of_ble_eq_true rfl) ⟨_, rfl, hR, h⟩
def W_X11_loose (p0 : Int32) (p1 : Int32) (Q : Int32 → gSt → Prop) (QX : String → gSt → Prop) (σ : gSt) : Prop := W_X11_needPair p0 p1 (WPI mX3_isFixed 1 (fun o => [.ref (ad o 30), .int p0, .int p1]) (fun x1 => ((x1 = 0 → (Q (nI 0) σ)) ∧ (¬ x1 = 0 → (WSV mX3_unbind 2 (fun o => [.ref (ad o 30), .int p0, .int p1]) (fun s3 => Q (nI 1) s3) σ)))) σ) QX σ
set_option maxHeartbeats 4000000 in
theorem t_X11_loose {o : gOm} {l : Launch} {b : Bool}   {σ : gSt} (hst : l.stackTraces = false) (hR : σ.2.2 = gRf b) {p0 : Int32} {p1 : Int32} {Q : Int32 → gSt → Prop} {QX : String → gSt → Prop} (h : W_X11_loose p0 p1 Q QX σ) : SpX o l mX11_loose 8 3 18 [.ref (ad o 0), .int p0, .int p1] 116 σ (pI (fun x s => s.2.2 = gRf b ∧ Q x s)) (fun E s => s.2.2 = gRf b ∧ QX E s) := by
  unfold W_X11_loose at h
  refine SpX.of (ls0 := [some (.ref (ad o 0)), some (.int p0), some (.int p1)]) hst miX11_loose rfl (Nat.le_of_ble_eq_true rfl) rfl (fun γ hγ X Y T => ?_)
  subst hγ
  have X : gX o γ cX11_loose 3 RX11 := X
  refine g_aload_0 (pc := 0) X dX11_loose_0 ?_
  refine g_iload_1 (pc := 1) X dX11_loose_1 ?_
  refine g_iload_2 (pc := 2) X dX11_loose_2 ?_
  refine g_callVX_V (pc := 3) X Y dX11_loose_3 miX11_needPair li_X11_178 (t_X11_needPair hst hR  h) rfl (by decide) rfl ⟨_, rfl⟩ rfl ⟨Nat.le_of_ble_eq_true rfl, Nat.le_of_ble_eq_true rfl⟩ ⟨Nat.le_of_ble_eq_true rfl, Nat.le_of_ble_eq_true rfl⟩ (by exact Nat.le_of_ble_eq_true rfl) rfl (fun E σ9 hp => g_out X T hp (Nat.le_of_ble_eq_true rfl) (Nat.le_of_ble_eq_true rfl)) (fun σ9 hp => ?_)
  obtain ⟨rfl, h⟩ := hp
  refine g_aload_0 (pc := 6) X dX11_loose_6 ?_
  refine g_getRf (pc := 7) X dX11_loose_7 fl_X11_39 rfl (by decide) rfl hR rfl ?_
  refine g_iload_1 (pc := 10) X dX11_loose_10 ?_
  refine g_iload_2 (pc := 11) X dX11_loose_11 ?_
  refine g_callV_I (pc := 12) X Y dX11_loose_12 miX3_isFixed li_X11_209 (t_WPI hR  h) rfl (by decide) rfl ⟨_, rfl⟩ rfl ⟨Nat.le_of_ble_eq_true rfl, Nat.le_of_ble_eq_true rfl⟩ (Nat.le_of_ble_eq_true rfl) (Nat.le_of_ble_eq_true rfl) rfl (by exact Nat.le_of_ble_eq_true rfl) (fun x1 σ9 hp => ?_)
  obtain ⟨rfl, h⟩ := hp
  refine g_if_ne (pc := 15) X dX11_loose_15 (tgt := 20) (by decide) (fun q2 => ?_) (fun q2 => ?_)
  · replace h := h.2 q2
    refine g_aload_0 (pc := 20) X dX11_loose_20 ?_
    refine g_getRf (pc := 21) X dX11_loose_21 fl_X11_39 rfl (by decide) rfl hR rfl ?_
    refine g_iload_1 (pc := 24) X dX11_loose_24 ?_
    refine g_iload_2 (pc := 25) X dX11_loose_25 ?_
    refine g_callV_V (pc := 26) X Y dX11_loose_26 miX3_unbind li_X11_219 (t_WSV hR  h) rfl (by decide) rfl ⟨_, rfl⟩ rfl ⟨Nat.le_of_ble_eq_true rfl, Nat.le_of_ble_eq_true rfl⟩ (Nat.le_of_ble_eq_true rfl) (Nat.le_of_ble_eq_true rfl) rfl (by exact Nat.le_of_ble_eq_true rfl) (fun s3 hp => ?_)
    obtain ⟨hR, h⟩ := hp
    refine g_iconst (pc := 29) X dX11_loose_29 kiconst_1 ?_
    exact g_ireturn (pc := 30) X Y dX11_loose_30 (Nat.le_of_ble_eq_true rfl) (Nat.le_of_ble_eq_true rfl) ⟨_, rfl, hR, h⟩
  · replace h := h.1 q2
    refine g_iconst (pc := 18) X dX11_loose_18 kiconst_0 ?_
    exact g_ireturn (pc := 19) X Y dX11_loose_19 (Nat.le_of_ble_eq_true rfl) (Nat.le_of_ble_eq_true rfl) ⟨_, rfl, hR, h⟩
def W_X11_put (p0 : Int32) (p1 : Int32) (Q : Int32 → gSt → Prop) (QX : String → gSt → Prop) (σ : gSt) : Prop := W_X11_needPair p0 p1 (rI σ 34 30 p1 (fun x1 => WSV mX2_moveTo 3 (fun o => [.ref (ad o 33), .int p0, .int x1]) (fun s2 => rI s2 34 30 p0 (fun x3 => Q x3 s2)) σ)) QX σ
set_option maxHeartbeats 4000000 in
theorem t_X11_put {o : gOm} {l : Launch} {b : Bool}   {σ : gSt} (hst : l.stackTraces = false) (hR : σ.2.2 = gRf b) {p0 : Int32} {p1 : Int32} {Q : Int32 → gSt → Prop} {QX : String → gSt → Prop} (h : W_X11_put p0 p1 Q QX σ) : SpX o l mX11_put 8 3 18 [.ref (ad o 0), .int p0, .int p1] 116 σ (pI (fun x s => s.2.2 = gRf b ∧ Q x s)) (fun E s => s.2.2 = gRf b ∧ QX E s) := by
  unfold W_X11_put at h
  refine SpX.of (ls0 := [some (.ref (ad o 0)), some (.int p0), some (.int p1)]) hst miX11_put rfl (Nat.le_of_ble_eq_true rfl) rfl (fun γ hγ X Y T => ?_)
  subst hγ
  have X : gX o γ cX11_put 3 RX11 := X
  refine g_aload_0 (pc := 0) X dX11_put_0 ?_
  refine g_iload_1 (pc := 1) X dX11_put_1 ?_
  refine g_iload_2 (pc := 2) X dX11_put_2 ?_
  refine g_callVX_V (pc := 3) X Y dX11_put_3 miX11_needPair li_X11_178 (t_X11_needPair hst hR  h) rfl (by decide) rfl ⟨_, rfl⟩ rfl ⟨Nat.le_of_ble_eq_true rfl, Nat.le_of_ble_eq_true rfl⟩ ⟨Nat.le_of_ble_eq_true rfl, Nat.le_of_ble_eq_true rfl⟩ (by exact Nat.le_of_ble_eq_true rfl) rfl (fun E σ9 hp => g_out X T hp (Nat.le_of_ble_eq_true rfl) (Nat.le_of_ble_eq_true rfl)) (fun σ9 hp => ?_)
  obtain ⟨rfl, h⟩ := hp
  refine g_aload_0 (pc := 6) X dX11_put_6 ?_
  refine g_getRf (pc := 7) X dX11_put_7 fl_X11_48 rfl (by decide) rfl hR rfl ?_
  refine g_iload_1 (pc := 10) X dX11_put_10 ?_
  refine g_aload_0 (pc := 11) X dX11_put_11 ?_
  refine g_getRf (pc := 12) X dX11_put_12 fl_X11_48 rfl (by decide) rfl hR rfl ?_
  refine g_getRf (pc := 15) X dX11_put_15 fl_X11_133 rfl (by decide) rfl hR rfl ?_
  refine g_iload_2 (pc := 18) X dX11_put_18 ?_
  refine g_iaload_w (pc := 19) X dX11_put_19 rfl (by decide) h (fun x1 h => ?_)
  refine g_callV_V (pc := 20) X Y dX11_put_20 miX2_moveTo li_X11_222 (t_WSV hR  h) rfl (by decide) rfl ⟨_, rfl⟩ rfl ⟨Nat.le_of_ble_eq_true rfl, Nat.le_of_ble_eq_true rfl⟩ (Nat.le_of_ble_eq_true rfl) (Nat.le_of_ble_eq_true rfl) rfl (by exact Nat.le_of_ble_eq_true rfl) (fun s2 hp => ?_)
  obtain ⟨hR, h⟩ := hp
  refine g_aload_0 (pc := 23) X dX11_put_23 ?_
  refine g_getRf (pc := 24) X dX11_put_24 fl_X11_48 rfl (by decide) rfl hR rfl ?_
  refine g_getRf (pc := 27) X dX11_put_27 fl_X11_133 rfl (by decide) rfl hR rfl ?_
  refine g_iload_1 (pc := 30) X dX11_put_30 ?_
  refine g_iaload_w (pc := 31) X dX11_put_31 rfl (by decide) h (fun x3 h => ?_)
  exact g_ireturn (pc := 32) X Y dX11_put_32 (Nat.le_of_ble_eq_true rfl) (Nat.le_of_ble_eq_true rfl) ⟨_, rfl, hR, h⟩
def W_X11_alone (p0 : Int32) (Q : Int32 → gSt → Prop) (QX : String → gSt → Prop) (σ : gSt) : Prop := W_X11_needEntry p0 (WPI mX2_isAlone 2 (fun o => [.ref (ad o 33), .int p0]) (fun x1 => ((x1 = 0 → (WSV mX2_moveOut 4 (fun o => [.ref (ad o 33), .int p0]) (fun s3 => Q (nI 1) s3) σ)) ∧ (¬ x1 = 0 → (Q (nI 0) σ)))) σ) QX σ
set_option maxHeartbeats 4000000 in
theorem t_X11_alone {o : gOm} {l : Launch} {b : Bool}   {σ : gSt} (hst : l.stackTraces = false) (hR : σ.2.2 = gRf b) {p0 : Int32} {Q : Int32 → gSt → Prop} {QX : String → gSt → Prop} (h : W_X11_alone p0 Q QX σ) : SpX o l mX11_alone 7 1 6 [.ref (ad o 0), .int p0] 116 σ (pI (fun x s => s.2.2 = gRf b ∧ Q x s)) (fun E s => s.2.2 = gRf b ∧ QX E s) := by
  unfold W_X11_alone at h
  refine SpX.of (ls0 := [some (.ref (ad o 0)), some (.int p0)]) hst miX11_alone rfl (Nat.le_of_ble_eq_true rfl) rfl (fun γ hγ X Y T => ?_)
  subst hγ
  have X : gX o γ cX11_alone 2 RX11 := X
  refine g_aload_0 (pc := 0) X dX11_alone_0 ?_
  refine g_iload_1 (pc := 1) X dX11_alone_1 ?_
  refine g_callVX_V (pc := 2) X Y dX11_alone_2 miX11_needEntry li_X11_126 (t_X11_needEntry hst hR  h) rfl (by decide) rfl ⟨_, rfl⟩ rfl ⟨Nat.le_of_ble_eq_true rfl, Nat.le_of_ble_eq_true rfl⟩ ⟨Nat.le_of_ble_eq_true rfl, Nat.le_of_ble_eq_true rfl⟩ (by exact Nat.le_of_ble_eq_true rfl) rfl (fun E σ9 hp => g_out X T hp (Nat.le_of_ble_eq_true rfl) (Nat.le_of_ble_eq_true rfl)) (fun σ9 hp => ?_)
  obtain ⟨rfl, h⟩ := hp
  refine g_aload_0 (pc := 5) X dX11_alone_5 ?_
  refine g_getRf (pc := 6) X dX11_alone_6 fl_X11_48 rfl (by decide) rfl hR rfl ?_
  refine g_iload_1 (pc := 9) X dX11_alone_9 ?_
  refine g_callV_I (pc := 10) X Y dX11_alone_10 miX2_isAlone li_X11_225 (t_WPI hR  h) rfl (by decide) rfl ⟨_, rfl⟩ rfl ⟨Nat.le_of_ble_eq_true rfl, Nat.le_of_ble_eq_true rfl⟩ (Nat.le_of_ble_eq_true rfl) (Nat.le_of_ble_eq_true rfl) rfl (by exact Nat.le_of_ble_eq_true rfl) (fun x1 σ9 hp => ?_)
  obtain ⟨rfl, h⟩ := hp
  refine g_if_eq (pc := 13) X dX11_alone_13 (tgt := 18) (by decide) (fun q2 => ?_) (fun q2 => ?_)
  · replace h := h.1 q2
    refine g_aload_0 (pc := 18) X dX11_alone_18 ?_
    refine g_getRf (pc := 19) X dX11_alone_19 fl_X11_48 rfl (by decide) rfl hR rfl ?_
    refine g_iload_1 (pc := 22) X dX11_alone_22 ?_
    refine g_callV_V (pc := 23) X Y dX11_alone_23 miX2_moveOut li_X11_228 (t_WSV hR  h) rfl (by decide) rfl ⟨_, rfl⟩ rfl ⟨Nat.le_of_ble_eq_true rfl, Nat.le_of_ble_eq_true rfl⟩ (Nat.le_of_ble_eq_true rfl) (Nat.le_of_ble_eq_true rfl) rfl (by exact Nat.le_of_ble_eq_true rfl) (fun s3 hp => ?_)
    obtain ⟨hR, h⟩ := hp
    refine g_iconst (pc := 26) X dX11_alone_26 kiconst_1 ?_
    exact g_zreturn (pc := 27) X Y dX11_alone_27 (by first | exact Or.inl rfl | exact Or.inr rfl) (Nat.le_of_ble_eq_true rfl) (Nat.le_of_ble_eq_true rfl) ⟨_, rfl, hR, h⟩
  · replace h := h.2 q2
    refine g_iconst (pc := 16) X dX11_alone_16 kiconst_0 ?_
    exact g_zreturn (pc := 17) X Y dX11_alone_17 (by first | exact Or.inl rfl | exact Or.inr rfl) (Nat.le_of_ble_eq_true rfl) (Nat.le_of_ble_eq_true rfl) ⟨_, rfl, hR, h⟩
def W_X11_join (p0 : Int32) (p1 : Int32) (Q : Int32 → gSt → Prop) (QX : String → gSt → Prop) (σ : gSt) : Prop := W_X11_needEntry p0 (W_X11_needEntry p1 (rI σ 34 30 p0 (fun x1 => rI σ 34 30 p1 (fun x2 => ((x1 = x2 → (Q ((-1 : Int32)) σ)) ∧ (¬ x1 = x2 → (rI σ 34 30 p0 (fun x4 => rI σ 34 30 p1 (fun x5 => WSV mX2_unite 3 (fun o => [.ref (ad o 33), .int x4, .int x5]) (fun s6 => rI s6 34 30 p0 (fun x7 => Q x7 s6)) σ)))))))) QX σ) QX σ
set_option maxHeartbeats 4000000 in
theorem t_X11_join {o : gOm} {l : Launch} {b : Bool}   {σ : gSt} (hst : l.stackTraces = false) (hR : σ.2.2 = gRf b) {p0 : Int32} {p1 : Int32} {Q : Int32 → gSt → Prop} {QX : String → gSt → Prop} (h : W_X11_join p0 p1 Q QX σ) : SpX o l mX11_join 7 2 12 [.ref (ad o 0), .int p0, .int p1] 116 σ (pI (fun x s => s.2.2 = gRf b ∧ Q x s)) (fun E s => s.2.2 = gRf b ∧ QX E s) := by
  unfold W_X11_join at h
  refine SpX.of (ls0 := [some (.ref (ad o 0)), some (.int p0), some (.int p1)]) hst miX11_join rfl (Nat.le_of_ble_eq_true rfl) rfl (fun γ hγ X Y T => ?_)
  subst hγ
  have X : gX o γ cX11_join 3 RX11 := X
  refine g_aload_0 (pc := 0) X dX11_join_0 ?_
  refine g_iload_1 (pc := 1) X dX11_join_1 ?_
  refine g_callVX_V (pc := 2) X Y dX11_join_2 miX11_needEntry li_X11_126 (t_X11_needEntry hst hR  h) rfl (by decide) rfl ⟨_, rfl⟩ rfl ⟨Nat.le_of_ble_eq_true rfl, Nat.le_of_ble_eq_true rfl⟩ ⟨Nat.le_of_ble_eq_true rfl, Nat.le_of_ble_eq_true rfl⟩ (by exact Nat.le_of_ble_eq_true rfl) rfl (fun E σ9 hp => g_out X T hp (Nat.le_of_ble_eq_true rfl) (Nat.le_of_ble_eq_true rfl)) (fun σ9 hp => ?_)
  obtain ⟨rfl, h⟩ := hp
  refine g_aload_0 (pc := 5) X dX11_join_5 ?_
  refine g_iload_2 (pc := 6) X dX11_join_6 ?_
  refine g_callVX_V (pc := 7) X Y dX11_join_7 miX11_needEntry li_X11_126 (t_X11_needEntry hst hR  h) rfl (by decide) rfl ⟨_, rfl⟩ rfl ⟨Nat.le_of_ble_eq_true rfl, Nat.le_of_ble_eq_true rfl⟩ ⟨Nat.le_of_ble_eq_true rfl, Nat.le_of_ble_eq_true rfl⟩ (by exact Nat.le_of_ble_eq_true rfl) rfl (fun E σ9 hp => g_out X T hp (Nat.le_of_ble_eq_true rfl) (Nat.le_of_ble_eq_true rfl)) (fun σ9 hp => ?_)
  obtain ⟨rfl, h⟩ := hp
  refine g_aload_0 (pc := 10) X dX11_join_10 ?_
  refine g_getRf (pc := 11) X dX11_join_11 fl_X11_48 rfl (by decide) rfl hR rfl ?_
  refine g_getRf (pc := 14) X dX11_join_14 fl_X11_133 rfl (by decide) rfl hR rfl ?_
  refine g_iload_1 (pc := 17) X dX11_join_17 ?_
  refine g_iaload_w (pc := 18) X dX11_join_18 rfl (by decide) h (fun x1 h => ?_)
  refine g_aload_0 (pc := 19) X dX11_join_19 ?_
  refine g_getRf (pc := 20) X dX11_join_20 fl_X11_48 rfl (by decide) rfl hR rfl ?_
  refine g_getRf (pc := 23) X dX11_join_23 fl_X11_133 rfl (by decide) rfl hR rfl ?_
  refine g_iload_2 (pc := 26) X dX11_join_26 ?_
  refine g_iaload_w (pc := 27) X dX11_join_27 rfl (by decide) h (fun x2 h => ?_)
  refine g_icmp_ne (pc := 28) X dX11_join_28 (tgt := 33) (by decide) (fun q3 => ?_) (fun q3 => ?_)
  · replace h := h.2 q3
    refine g_aload_0 (pc := 33) X dX11_join_33 ?_
    refine g_getRf (pc := 34) X dX11_join_34 fl_X11_48 rfl (by decide) rfl hR rfl ?_
    refine g_aload_0 (pc := 37) X dX11_join_37 ?_
    refine g_getRf (pc := 38) X dX11_join_38 fl_X11_48 rfl (by decide) rfl hR rfl ?_
    refine g_getRf (pc := 41) X dX11_join_41 fl_X11_133 rfl (by decide) rfl hR rfl ?_
    refine g_iload_1 (pc := 44) X dX11_join_44 ?_
    refine g_iaload_w (pc := 45) X dX11_join_45 rfl (by decide) h (fun x4 h => ?_)
    refine g_aload_0 (pc := 46) X dX11_join_46 ?_
    refine g_getRf (pc := 47) X dX11_join_47 fl_X11_48 rfl (by decide) rfl hR rfl ?_
    refine g_getRf (pc := 50) X dX11_join_50 fl_X11_133 rfl (by decide) rfl hR rfl ?_
    refine g_iload_2 (pc := 53) X dX11_join_53 ?_
    refine g_iaload_w (pc := 54) X dX11_join_54 rfl (by decide) h (fun x5 h => ?_)
    refine g_callV_V (pc := 55) X Y dX11_join_55 miX2_unite li_X11_231 (t_WSV hR  h) rfl (by decide) rfl ⟨_, rfl⟩ rfl ⟨Nat.le_of_ble_eq_true rfl, Nat.le_of_ble_eq_true rfl⟩ (Nat.le_of_ble_eq_true rfl) (Nat.le_of_ble_eq_true rfl) rfl (by exact Nat.le_of_ble_eq_true rfl) (fun s6 hp => ?_)
    obtain ⟨hR, h⟩ := hp
    refine g_aload_0 (pc := 58) X dX11_join_58 ?_
    refine g_getRf (pc := 59) X dX11_join_59 fl_X11_48 rfl (by decide) rfl hR rfl ?_
    refine g_getRf (pc := 62) X dX11_join_62 fl_X11_133 rfl (by decide) rfl hR rfl ?_
    refine g_iload_1 (pc := 65) X dX11_join_65 ?_
    refine g_iaload_w (pc := 66) X dX11_join_66 rfl (by decide) h (fun x7 h => ?_)
    exact g_ireturn (pc := 67) X Y dX11_join_67 (Nat.le_of_ble_eq_true rfl) (Nat.le_of_ble_eq_true rfl) ⟨_, rfl, hR, h⟩
  · replace h := h.1 q3
    refine g_iconst (pc := 31) X dX11_join_31 kiconst_m1 ?_
    exact g_ireturn (pc := 32) X Y dX11_join_32 (Nat.le_of_ble_eq_true rfl) (Nat.le_of_ble_eq_true rfl) ⟨_, rfl, hR, h⟩
def W_X11_swap (p0 : Int32) (p1 : Int32) (Q : Int32 → gSt → Prop) (QX : String → gSt → Prop) (σ : gSt) : Prop := W_X11_needEntry p0 (W_X11_needEntry p1 (rI σ 34 30 p0 (fun x1 => rI σ 34 30 p1 (fun x2 => ((x1 = x2 → (Q ((-1 : Int32)) σ)) ∧ (¬ x1 = x2 → (WSV mX2_exchange 3 (fun o => [.ref (ad o 33), .int p0, .int p1]) (fun s4 => Q (nI 1) s4) σ)))))) QX σ) QX σ
set_option maxHeartbeats 4000000 in
theorem t_X11_swap {o : gOm} {l : Launch} {b : Bool}   {σ : gSt} (hst : l.stackTraces = false) (hR : σ.2.2 = gRf b) {p0 : Int32} {p1 : Int32} {Q : Int32 → gSt → Prop} {QX : String → gSt → Prop} (h : W_X11_swap p0 p1 Q QX σ) : SpX o l mX11_swap 7 2 12 [.ref (ad o 0), .int p0, .int p1] 116 σ (pI (fun x s => s.2.2 = gRf b ∧ Q x s)) (fun E s => s.2.2 = gRf b ∧ QX E s) := by
  unfold W_X11_swap at h
  refine SpX.of (ls0 := [some (.ref (ad o 0)), some (.int p0), some (.int p1)]) hst miX11_swap rfl (Nat.le_of_ble_eq_true rfl) rfl (fun γ hγ X Y T => ?_)
  subst hγ
  have X : gX o γ cX11_swap 3 RX11 := X
  refine g_aload_0 (pc := 0) X dX11_swap_0 ?_
  refine g_iload_1 (pc := 1) X dX11_swap_1 ?_
  refine g_callVX_V (pc := 2) X Y dX11_swap_2 miX11_needEntry li_X11_126 (t_X11_needEntry hst hR  h) rfl (by decide) rfl ⟨_, rfl⟩ rfl ⟨Nat.le_of_ble_eq_true rfl, Nat.le_of_ble_eq_true rfl⟩ ⟨Nat.le_of_ble_eq_true rfl, Nat.le_of_ble_eq_true rfl⟩ (by exact Nat.le_of_ble_eq_true rfl) rfl (fun E σ9 hp => g_out X T hp (Nat.le_of_ble_eq_true rfl) (Nat.le_of_ble_eq_true rfl)) (fun σ9 hp => ?_)
  obtain ⟨rfl, h⟩ := hp
  refine g_aload_0 (pc := 5) X dX11_swap_5 ?_
  refine g_iload_2 (pc := 6) X dX11_swap_6 ?_
  refine g_callVX_V (pc := 7) X Y dX11_swap_7 miX11_needEntry li_X11_126 (t_X11_needEntry hst hR  h) rfl (by decide) rfl ⟨_, rfl⟩ rfl ⟨Nat.le_of_ble_eq_true rfl, Nat.le_of_ble_eq_true rfl⟩ ⟨Nat.le_of_ble_eq_true rfl, Nat.le_of_ble_eq_true rfl⟩ (by exact Nat.le_of_ble_eq_true rfl) rfl (fun E σ9 hp => g_out X T hp (Nat.le_of_ble_eq_true rfl) (Nat.le_of_ble_eq_true rfl)) (fun σ9 hp => ?_)
  obtain ⟨rfl, h⟩ := hp
  refine g_aload_0 (pc := 10) X dX11_swap_10 ?_
  refine g_getRf (pc := 11) X dX11_swap_11 fl_X11_48 rfl (by decide) rfl hR rfl ?_
  refine g_getRf (pc := 14) X dX11_swap_14 fl_X11_133 rfl (by decide) rfl hR rfl ?_
  refine g_iload_1 (pc := 17) X dX11_swap_17 ?_
  refine g_iaload_w (pc := 18) X dX11_swap_18 rfl (by decide) h (fun x1 h => ?_)
  refine g_aload_0 (pc := 19) X dX11_swap_19 ?_
  refine g_getRf (pc := 20) X dX11_swap_20 fl_X11_48 rfl (by decide) rfl hR rfl ?_
  refine g_getRf (pc := 23) X dX11_swap_23 fl_X11_133 rfl (by decide) rfl hR rfl ?_
  refine g_iload_2 (pc := 26) X dX11_swap_26 ?_
  refine g_iaload_w (pc := 27) X dX11_swap_27 rfl (by decide) h (fun x2 h => ?_)
  refine g_icmp_ne (pc := 28) X dX11_swap_28 (tgt := 33) (by decide) (fun q3 => ?_) (fun q3 => ?_)
  · replace h := h.2 q3
    refine g_aload_0 (pc := 33) X dX11_swap_33 ?_
    refine g_getRf (pc := 34) X dX11_swap_34 fl_X11_48 rfl (by decide) rfl hR rfl ?_
    refine g_iload_1 (pc := 37) X dX11_swap_37 ?_
    refine g_iload_2 (pc := 38) X dX11_swap_38 ?_
    refine g_callV_V (pc := 39) X Y dX11_swap_39 miX2_exchange li_X11_234 (t_WSV hR  h) rfl (by decide) rfl ⟨_, rfl⟩ rfl ⟨Nat.le_of_ble_eq_true rfl, Nat.le_of_ble_eq_true rfl⟩ (Nat.le_of_ble_eq_true rfl) (Nat.le_of_ble_eq_true rfl) rfl (by exact Nat.le_of_ble_eq_true rfl) (fun s4 hp => ?_)
    obtain ⟨hR, h⟩ := hp
    refine g_iconst (pc := 42) X dX11_swap_42 kiconst_1 ?_
    exact g_ireturn (pc := 43) X Y dX11_swap_43 (Nat.le_of_ble_eq_true rfl) (Nat.le_of_ble_eq_true rfl) ⟨_, rfl, hR, h⟩
  · replace h := h.1 q3
    refine g_iconst (pc := 31) X dX11_swap_31 kiconst_m1 ?_
    exact g_ireturn (pc := 32) X Y dX11_swap_32 (Nat.le_of_ble_eq_true rfl) (Nat.le_of_ble_eq_true rfl) ⟨_, rfl, hR, h⟩
def W_X11_cost  (Q : Int64 → Prop) (σ : gSt) : Prop := WPL mX2_price 2 (fun o => [.ref (ad o 33)]) (fun x1 => Q x1) σ
set_option maxHeartbeats 4000000 in
theorem t_X11_cost {o : gOm} {l : Launch} {b : Bool}   {σ : gSt} (hR : σ.2.2 = gRf b)  {Q : Int64 → Prop} (h : W_X11_cost  Q σ) : Sp o l mX11_cost 3 0 0 [.ref (ad o 0)] 116 116 σ (pL (fun x s => σ = s ∧ Q x)) := by
  unfold W_X11_cost at h
  refine Sp.of (ls0 := [some (.ref (ad o 0))]) miX11_cost rfl (Nat.le_of_ble_eq_true rfl) rfl (fun γ hγ hnm X Y => ?_)
  subst hγ
  have X : gX o γ cX11_cost 1 RX11 := X
  refine g_aload_0 (pc := 0) X dX11_cost_0 ?_
  refine g_getRf (pc := 1) X dX11_cost_1 fl_X11_48 rfl (by decide) rfl hR rfl ?_
  refine g_callV_L (pc := 4) X Y dX11_cost_4 miX2_price li_X11_237 (t_WPL hR  h) rfl (by decide) rfl ⟨_, rfl⟩ rfl ⟨Nat.le_of_ble_eq_true rfl, Nat.le_of_ble_eq_true rfl⟩ (Nat.le_of_ble_eq_true rfl) (Nat.le_of_ble_eq_true rfl) rfl (by exact Nat.le_of_ble_eq_true rfl) (fun x1 σ9 hp => ?_)
  obtain ⟨rfl, h⟩ := hp
  exact g_lreturn (pc := 7) X Y dX11_cost_7 (Nat.le_of_ble_eq_true rfl) (Nat.le_of_ble_eq_true rfl) ⟨_, rfl, rfl, h⟩
def W_X11_barred  (Q : Int32 → Prop) (σ : gSt) : Prop := WPI mX2_offender 5 (fun o => [.ref (ad o 33)]) (fun x1 => Q x1) σ
set_option maxHeartbeats 4000000 in
theorem t_X11_barred {o : gOm} {l : Launch} {b : Bool}   {σ : gSt} (hR : σ.2.2 = gRf b)  {Q : Int32 → Prop} (h : W_X11_barred  Q σ) : Sp o l mX11_barred 6 0 0 [.ref (ad o 0)] 116 116 σ (pI (fun x s => σ = s ∧ Q x)) := by
  unfold W_X11_barred at h
  refine Sp.of (ls0 := [some (.ref (ad o 0))]) miX11_barred rfl (Nat.le_of_ble_eq_true rfl) rfl (fun γ hγ hnm X Y => ?_)
  subst hγ
  have X : gX o γ cX11_barred 1 RX11 := X
  refine g_aload_0 (pc := 0) X dX11_barred_0 ?_
  refine g_getRf (pc := 1) X dX11_barred_1 fl_X11_48 rfl (by decide) rfl hR rfl ?_
  refine g_callV_I (pc := 4) X Y dX11_barred_4 miX2_offender li_X11_241 (t_WPI hR  h) rfl (by decide) rfl ⟨_, rfl⟩ rfl ⟨Nat.le_of_ble_eq_true rfl, Nat.le_of_ble_eq_true rfl⟩ (Nat.le_of_ble_eq_true rfl) (Nat.le_of_ble_eq_true rfl) rfl (by exact Nat.le_of_ble_eq_true rfl) (fun x1 σ9 hp => ?_)
  obtain ⟨rfl, h⟩ := hp
  exact g_ireturn (pc := 7) X Y dX11_barred_7 (Nat.le_of_ble_eq_true rfl) (Nat.le_of_ble_eq_true rfl) ⟨_, rfl, rfl, h⟩
def W_X11_better (p0 : Int32) (Q : Int64 → gSt → Prop) (QX : String → gSt → Prop) (σ : gSt) : Prop := W_X11_isWithin p0 (nI 0) (nI 3) (fun x1 => W_X11_refuseUnless x1 (WPI mX2_offender 5 (fun o => [.ref (ad o 33)]) (fun x2 => ((x2 = ((-1 : Int32)) → (W_X0_prepare (fun s4 => W_X0_seek (fun s5 => (((s5.1 38 0) = ((-1 : Int32)) → (Q ((-2147483648 : Int64)) s5)) ∧ (¬ (s5.1 38 0) = ((-1 : Int32)) → (((p0 = 0 → (Q (s5.2.1 38 3) s5)) ∧ (¬ p0 = 0 → (((p0 = (nI 1) → (Q (i2l (s5.1 38 0)) s5)) ∧ (¬ p0 = (nI 1) → (((p0 = (nI 2) → (Q (i2l (s5.1 38 1)) s5)) ∧ (¬ p0 = (nI 2) → (Q (i2l (s5.1 38 2)) s5))))))))))))) s4) σ)) ∧ (¬ x2 = ((-1 : Int32)) → (Q ((-2147483648 : Int64)) σ)))) σ) QX σ) σ
set_option maxHeartbeats 4000000 in
theorem t_X11_better {o : gOm} {l : Launch} {b : Bool}   {σ : gSt} (hst : l.stackTraces = false) (hR : σ.2.2 = gRf b) {p0 : Int32} {Q : Int64 → gSt → Prop} {QX : String → gSt → Prop} (h : W_X11_better p0 Q QX σ) : SpX o l mX11_better 7 1 6 [.ref (ad o 0), .int p0] 116 σ (pL (fun x s => s.2.2 = gRf b ∧ Q x s)) (fun E s => s.2.2 = gRf b ∧ QX E s) := by
  unfold W_X11_better at h
  refine SpX.of (ls0 := [some (.ref (ad o 0)), some (.int p0)]) hst miX11_better rfl (Nat.le_of_ble_eq_true rfl) rfl (fun γ hγ X Y T => ?_)
  subst hγ
  have X : gX o γ cX11_better 2 RX11 := X
  refine g_iload_1 (pc := 0) X dX11_better_0 ?_
  refine g_iconst (pc := 1) X dX11_better_1 kiconst_0 ?_
  refine g_iconst (pc := 2) X dX11_better_2 kiconst_3 ?_
  refine g_callS_I (pc := 3) X Y dX11_better_3 miX11_isWithin li_X11_100 (t_X11_isWithin hR  h) rfl ⟨Nat.le_of_ble_eq_true rfl, Nat.le_of_ble_eq_true rfl⟩ (Nat.le_of_ble_eq_true rfl) (Nat.le_of_ble_eq_true rfl) rfl (by exact Nat.le_of_ble_eq_true rfl) (fun x1 σ9 hp => ?_)
  obtain ⟨rfl, h⟩ := hp
  refine g_callSX_V (pc := 6) X Y dX11_better_6 miX11_refuseUnless li_X11_104 (t_X11_refuseUnless hst hR  h) rfl ⟨Nat.le_of_ble_eq_true rfl, Nat.le_of_ble_eq_true rfl⟩ ⟨Nat.le_of_ble_eq_true rfl, Nat.le_of_ble_eq_true rfl⟩ (by exact Nat.le_of_ble_eq_true rfl) rfl (fun E σ9 hp => g_out X T hp (Nat.le_of_ble_eq_true rfl) (Nat.le_of_ble_eq_true rfl)) (fun σ9 hp => ?_)
  obtain ⟨rfl, h⟩ := hp
  refine g_aload_0 (pc := 9) X dX11_better_9 ?_
  refine g_getRf (pc := 10) X dX11_better_10 fl_X11_48 rfl (by decide) rfl hR rfl ?_
  refine g_callV_I (pc := 13) X Y dX11_better_13 miX2_offender li_X11_241 (t_WPI hR  h) rfl (by decide) rfl ⟨_, rfl⟩ rfl ⟨Nat.le_of_ble_eq_true rfl, Nat.le_of_ble_eq_true rfl⟩ (Nat.le_of_ble_eq_true rfl) (Nat.le_of_ble_eq_true rfl) rfl (by exact Nat.le_of_ble_eq_true rfl) (fun x2 σ9 hp => ?_)
  obtain ⟨rfl, h⟩ := hp
  refine g_iconst (pc := 16) X dX11_better_16 kiconst_m1 ?_
  refine g_icmp_eq (pc := 17) X dX11_better_17 (tgt := 24) (by decide) (fun q3 => ?_) (fun q3 => ?_)
  · replace h := h.1 q3
    refine g_aload_0 (pc := 24) X dX11_better_24 ?_
    refine g_getRf (pc := 25) X dX11_better_25 fl_X11_57 rfl (by decide) rfl hR rfl ?_
    refine g_callV_V (pc := 28) X Y dX11_better_28 miX0_prepare li_X11_247 (t_X0_prepare hR  h) rfl (by decide) rfl ⟨_, rfl⟩ rfl ⟨Nat.le_of_ble_eq_true rfl, Nat.le_of_ble_eq_true rfl⟩ (Nat.le_of_ble_eq_true rfl) (Nat.le_of_ble_eq_true rfl) rfl (by exact Nat.le_of_ble_eq_true rfl) (fun s4 hp => ?_)
    obtain ⟨hR, h⟩ := hp
    refine g_aload_0 (pc := 31) X dX11_better_31 ?_
    refine g_getRf (pc := 32) X dX11_better_32 fl_X11_57 rfl (by decide) rfl hR rfl ?_
    refine g_callV_V (pc := 35) X Y dX11_better_35 miX0_seek li_X11_250 (t_X0_seek hR  h) rfl (by decide) rfl ⟨_, rfl⟩ rfl ⟨Nat.le_of_ble_eq_true rfl, Nat.le_of_ble_eq_true rfl⟩ (Nat.le_of_ble_eq_true rfl) (Nat.le_of_ble_eq_true rfl) rfl (by exact Nat.le_of_ble_eq_true rfl) (fun s5 hp => ?_)
    obtain ⟨hR, h⟩ := hp
    refine g_aload_0 (pc := 38) X dX11_better_38 ?_
    refine g_getRf (pc := 39) X dX11_better_39 fl_X11_57 rfl (by decide) rfl hR rfl ?_
    refine g_getI (pc := 42) X dX11_better_42 rfl (by decide) fl_X11_253 (Or.inl rfl) ?_
    refine g_iconst (pc := 45) X dX11_better_45 kiconst_m1 ?_
    refine g_icmp_ne (pc := 46) X dX11_better_46 (tgt := 53) (by decide) (fun q6 => ?_) (fun q6 => ?_)
    · replace h := h.2 q6
      refine g_iload_1 (pc := 53) X dX11_better_53 ?_
      refine g_if_ne (pc := 54) X dX11_better_54 (tgt := 65) (by decide) (fun q7 => ?_) (fun q7 => ?_)
      · replace h := h.2 q7
        refine g_iload_1 (pc := 65) X dX11_better_65 ?_
        refine g_iconst (pc := 66) X dX11_better_66 kiconst_1 ?_
        refine g_icmp_ne (pc := 67) X dX11_better_67 (tgt := 81) (by decide) (fun q8 => ?_) (fun q8 => ?_)
        · replace h := h.2 q8
          refine g_iload_1 (pc := 81) X dX11_better_81 ?_
          refine g_iconst (pc := 82) X dX11_better_82 kiconst_2 ?_
          refine g_icmp_ne (pc := 83) X dX11_better_83 (tgt := 97) (by decide) (fun q9 => ?_) (fun q9 => ?_)
          · replace h := h.2 q9
            refine g_aload_0 (pc := 97) X dX11_better_97 ?_
            refine g_getRf (pc := 98) X dX11_better_98 fl_X11_57 rfl (by decide) rfl hR rfl ?_
            refine g_getI (pc := 101) X dX11_better_101 rfl (by decide) fl_X11_263 (Or.inl rfl) ?_
            refine g_i2l (pc := 104) X dX11_better_104 ?_
            exact g_lreturn (pc := 105) X Y dX11_better_105 (Nat.le_of_ble_eq_true rfl) (Nat.le_of_ble_eq_true rfl) ⟨_, rfl, hR, h⟩
          · replace h := h.1 q9
            refine g_aload_0 (pc := 86) X dX11_better_86 ?_
            refine g_getRf (pc := 87) X dX11_better_87 fl_X11_57 rfl (by decide) rfl hR rfl ?_
            refine g_getI (pc := 90) X dX11_better_90 rfl (by decide) fl_X11_260 (Or.inl rfl) ?_
            refine g_i2l (pc := 93) X dX11_better_93 ?_
            refine g_goto (pc := 94) X dX11_better_94 (tgt := 105) (by decide) ?_
            exact g_lreturn (pc := 105) X Y dX11_better_105 (Nat.le_of_ble_eq_true rfl) (Nat.le_of_ble_eq_true rfl) ⟨_, rfl, hR, h⟩
        · replace h := h.1 q8
          refine g_aload_0 (pc := 70) X dX11_better_70 ?_
          refine g_getRf (pc := 71) X dX11_better_71 fl_X11_57 rfl (by decide) rfl hR rfl ?_
          refine g_getI (pc := 74) X dX11_better_74 rfl (by decide) fl_X11_253 (Or.inl rfl) ?_
          refine g_i2l (pc := 77) X dX11_better_77 ?_
          refine g_goto (pc := 78) X dX11_better_78 (tgt := 105) (by decide) ?_
          exact g_lreturn (pc := 105) X Y dX11_better_105 (Nat.le_of_ble_eq_true rfl) (Nat.le_of_ble_eq_true rfl) ⟨_, rfl, hR, h⟩
      · replace h := h.1 q7
        refine g_aload_0 (pc := 57) X dX11_better_57 ?_
        refine g_getRf (pc := 58) X dX11_better_58 fl_X11_57 rfl (by decide) rfl hR rfl ?_
        refine g_getL (pc := 61) X dX11_better_61 rfl (by decide) fl_X11_256 rfl ?_
        exact g_lreturn (pc := 64) X Y dX11_better_64 (Nat.le_of_ble_eq_true rfl) (Nat.le_of_ble_eq_true rfl) ⟨_, rfl, hR, h⟩
    · replace h := h.1 q6
      refine g_ldc2 (pc := 49) X dX11_better_49 ct_X11_245 ?_
      exact g_lreturn (pc := 52) X Y dX11_better_52 (Nat.le_of_ble_eq_true rfl) (Nat.le_of_ble_eq_true rfl) ⟨_, rfl, hR, h⟩
  · replace h := h.2 q3
    refine g_ldc2 (pc := 20) X dX11_better_20 ct_X11_245 ?_
    exact g_lreturn (pc := 23) X Y dX11_better_23 (Nat.le_of_ble_eq_true rfl) (Nat.le_of_ble_eq_true rfl) ⟨_, rfl, hR, h⟩
def L_X11_grow_34 (Q : Int32 → gSt → Prop) (QX : String → gSt → Prop) (c5 : Int32) (K : Int32 → gSt → Prop) : Nat → Int32 → Int32 → gSt → Prop
  | 0, _, _, _ => False
  | n34 + 1, v6, v7, s8 => ((c5 ≤ v7 → (K v6 s8)) ∧ (¬ c5 ≤ v7 → (W_X0_seek (fun s12 => (((s12.1 38 0) = ((-1 : Int32)) → (K v6 s12)) ∧ (¬ (s12.1 38 0) = ((-1 : Int32)) → (W_X0_make (fun s14 => L_X11_grow_34 Q QX c5 K n34 (v6 + nI 1) (v7 + nI 1) s14) s12)))) s8)))
def W_X11_grow (p0 : Int32) (Q : Int32 → gSt → Prop) (QX : String → gSt → Prop) (σ : gSt) : Prop := W_X11_isWithin p0 (nI 0) (nI 100) (fun x1 => W_X11_refuseUnless x1 (WPI mX2_offender 5 (fun o => [.ref (ad o 33)]) (fun x2 => ((x2 = ((-1 : Int32)) → (W_X0_prepare (fun s4 => ∃ m34, L_X11_grow_34 Q QX p0 (fun y16 s17 => Q y16 s17) m34 (nI 0) (nI 0) s4) σ)) ∧ (¬ x2 = ((-1 : Int32)) → (Q ((-1 : Int32)) σ)))) σ) QX σ) σ
set_option maxHeartbeats 4000000 in
theorem t_X11_grow {o : gOm} {l : Launch} {b : Bool}   {σ : gSt} (hst : l.stackTraces = false) (hR : σ.2.2 = gRf b) {p0 : Int32} {Q : Int32 → gSt → Prop} {QX : String → gSt → Prop} (h : W_X11_grow p0 Q QX σ) : SpX o l mX11_grow 7 1 6 [.ref (ad o 0), .int p0] 116 σ (pI (fun x s => s.2.2 = gRf b ∧ Q x s)) (fun E s => s.2.2 = gRf b ∧ QX E s) := by
  unfold W_X11_grow at h
  refine SpX.of (ls0 := [some (.ref (ad o 0)), some (.int p0), none, none]) hst miX11_grow rfl (Nat.le_of_ble_eq_true rfl) rfl (fun γ hγ X Y T => ?_)
  subst hγ
  have X : gX o γ cX11_grow 4 RX11 := X
  refine g_iload_1 (pc := 0) X dX11_grow_0 ?_
  refine g_iconst (pc := 1) X dX11_grow_1 kiconst_0 ?_
  refine g_bipush (pc := 2) X dX11_grow_2 kbipush_100 ?_
  refine g_callS_I (pc := 4) X Y dX11_grow_4 miX11_isWithin li_X11_100 (t_X11_isWithin hR  h) rfl ⟨Nat.le_of_ble_eq_true rfl, Nat.le_of_ble_eq_true rfl⟩ (Nat.le_of_ble_eq_true rfl) (Nat.le_of_ble_eq_true rfl) rfl (by exact Nat.le_of_ble_eq_true rfl) (fun x1 σ9 hp => ?_)
  obtain ⟨rfl, h⟩ := hp
  refine g_callSX_V (pc := 7) X Y dX11_grow_7 miX11_refuseUnless li_X11_104 (t_X11_refuseUnless hst hR  h) rfl ⟨Nat.le_of_ble_eq_true rfl, Nat.le_of_ble_eq_true rfl⟩ ⟨Nat.le_of_ble_eq_true rfl, Nat.le_of_ble_eq_true rfl⟩ (by exact Nat.le_of_ble_eq_true rfl) rfl (fun E σ9 hp => g_out X T hp (Nat.le_of_ble_eq_true rfl) (Nat.le_of_ble_eq_true rfl)) (fun σ9 hp => ?_)
  obtain ⟨rfl, h⟩ := hp
  refine g_aload_0 (pc := 10) X dX11_grow_10 ?_
  refine g_getRf (pc := 11) X dX11_grow_11 fl_X11_48 rfl (by decide) rfl hR rfl ?_
  refine g_callV_I (pc := 14) X Y dX11_grow_14 miX2_offender li_X11_241 (t_WPI hR  h) rfl (by decide) rfl ⟨_, rfl⟩ rfl ⟨Nat.le_of_ble_eq_true rfl, Nat.le_of_ble_eq_true rfl⟩ (Nat.le_of_ble_eq_true rfl) (Nat.le_of_ble_eq_true rfl) rfl (by exact Nat.le_of_ble_eq_true rfl) (fun x2 σ9 hp => ?_)
  obtain ⟨rfl, h⟩ := hp
  refine g_iconst (pc := 17) X dX11_grow_17 kiconst_m1 ?_
  refine g_icmp_eq (pc := 18) X dX11_grow_18 (tgt := 23) (by decide) (fun q3 => ?_) (fun q3 => ?_)
  · replace h := h.1 q3
    refine g_aload_0 (pc := 23) X dX11_grow_23 ?_
    refine g_getRf (pc := 24) X dX11_grow_24 fl_X11_57 rfl (by decide) rfl hR rfl ?_
    refine g_callV_V (pc := 27) X Y dX11_grow_27 miX0_prepare li_X11_247 (t_X0_prepare hR  h) rfl (by decide) rfl ⟨_, rfl⟩ rfl ⟨Nat.le_of_ble_eq_true rfl, Nat.le_of_ble_eq_true rfl⟩ (Nat.le_of_ble_eq_true rfl) (Nat.le_of_ble_eq_true rfl) rfl (by exact Nat.le_of_ble_eq_true rfl) (fun s4 hp => ?_)
    obtain ⟨hR, h⟩ := hp
    refine g_iconst (pc := 30) X dX11_grow_30 kiconst_0 ?_
    refine g_istore_2 (pc := 31) X dX11_grow_31 (by decide) rfl ?_
    refine g_iconst (pc := 32) X dX11_grow_32 kiconst_0 ?_
    refine g_istore_3 (pc := 33) X dX11_grow_33 (by decide) rfl ?_
    obtain ⟨n15, h⟩ := h
    have hL : ∀ (c5 : Int32) (K : Int32 → gSt → Prop) (_ : ∀ (y9 : Int32) (s10 : gSt), s10.2.2 = gRf b → K y9 s10 → G o γ 1 6 116 s10 76 [some (.ref (ad o 0)), some (.int c5), some (.int y9), none] []) (n : Nat) (v6 : Int32) (v7 : Int32) (s8 : gSt), s8.2.2 = gRf b → L_X11_grow_34 Q QX c5 K n v6 v7 s8 → G o γ 1 6 116 s8 34 [some (.ref (ad o 0)), some (.int c5), some (.int v6), some (.int v7)] [] := by
      intro c5 K hK n
      induction n with
      | zero => intro v6 v7 s8 hR h; exact False.elim h
      | succ n ih =>
        intro v6 v7 s8 hR h
        rw [L_X11_grow_34] at h
        refine g_iload_3 (pc := 34) X dX11_grow_34 ?_
        refine g_iload_1 (pc := 35) X dX11_grow_35 ?_
        refine g_icmp_ge (pc := 36) X dX11_grow_36 (tgt := 76) (by decide) (fun q11 => ?_) (fun q11 => ?_)
        · replace h := h.1 q11
          exact g_drop (by simp [lsub]) (hK v6 s8 hR h)
        · replace h := h.2 q11
          refine g_aload_0 (pc := 39) X dX11_grow_39 ?_
          refine g_getRf (pc := 40) X dX11_grow_40 fl_X11_57 rfl (by decide) rfl hR rfl ?_
          refine g_callV_V (pc := 43) X Y dX11_grow_43 miX0_seek li_X11_250 (t_X0_seek hR  h) rfl (by decide) rfl ⟨_, rfl⟩ rfl ⟨Nat.le_of_ble_eq_true rfl, Nat.le_of_ble_eq_true rfl⟩ (Nat.le_of_ble_eq_true rfl) (Nat.le_of_ble_eq_true rfl) rfl (by exact Nat.le_of_ble_eq_true rfl) (fun s12 hp => ?_)
          obtain ⟨hR, h⟩ := hp
          refine g_aload_0 (pc := 46) X dX11_grow_46 ?_
          refine g_getRf (pc := 47) X dX11_grow_47 fl_X11_57 rfl (by decide) rfl hR rfl ?_
          refine g_getI (pc := 50) X dX11_grow_50 rfl (by decide) fl_X11_253 (Or.inl rfl) ?_
          refine g_iconst (pc := 53) X dX11_grow_53 kiconst_m1 ?_
          refine g_icmp_ne (pc := 54) X dX11_grow_54 (tgt := 60) (by decide) (fun q13 => ?_) (fun q13 => ?_)
          · replace h := h.2 q13
            refine g_aload_0 (pc := 60) X dX11_grow_60 ?_
            refine g_getRf (pc := 61) X dX11_grow_61 fl_X11_57 rfl (by decide) rfl hR rfl ?_
            refine g_callV_V (pc := 64) X Y dX11_grow_64 miX0_make li_X11_266 (t_X0_make hR  h) rfl (by decide) rfl ⟨_, rfl⟩ rfl ⟨Nat.le_of_ble_eq_true rfl, Nat.le_of_ble_eq_true rfl⟩ (Nat.le_of_ble_eq_true rfl) (Nat.le_of_ble_eq_true rfl) rfl (by exact Nat.le_of_ble_eq_true rfl) (fun s14 hp => ?_)
            obtain ⟨hR, h⟩ := hp
            refine g_iinc_2 (pc := 67) X dX11_grow_67 (v := v6 + nI 1) rfl (by decide) rfl ?_
            refine g_iinc_3 (pc := 70) X dX11_grow_70 (v := v7 + nI 1) rfl (by decide) rfl ?_
            refine g_goto (pc := 73) X dX11_grow_73 (tgt := 34) (by decide) ?_
            exact ih (v6 + nI 1) (v7 + nI 1) s14 hR h
          · replace h := h.1 q13
            refine g_goto (pc := 57) X dX11_grow_57 (tgt := 76) (by decide) ?_
            exact g_drop (by simp [lsub]) (hK v6 s12 hR h)
    refine hL p0 _ (fun y16 s17 hR h => ?_) n15 (nI 0) (nI 0) s4 hR h
    · refine g_iload_2 (pc := 76) X dX11_grow_76 ?_
      exact g_ireturn (pc := 77) X Y dX11_grow_77 (Nat.le_of_ble_eq_true rfl) (Nat.le_of_ble_eq_true rfl) ⟨_, rfl, hR, h⟩
  · replace h := h.2 q3
    refine g_iconst (pc := 21) X dX11_grow_21 kiconst_m1 ?_
    exact g_ireturn (pc := 22) X Y dX11_grow_22 (Nat.le_of_ble_eq_true rfl) (Nat.le_of_ble_eq_true rfl) ⟨_, rfl, hR, h⟩
def W_X11_bound  (Q : Int64 → gSt → Prop) (σ : gSt) : Prop := W_X8_pack ((-1 : Int32)) (fun s1 => Q (s1.2.1 42 2) s1) σ
set_option maxHeartbeats 4000000 in
theorem t_X11_bound {o : gOm} {l : Launch} {b : Bool}   {σ : gSt} (hR : σ.2.2 = gRf b)  {Q : Int64 → gSt → Prop} (h : W_X11_bound  Q σ) : Sp o l mX11_bound 5 0 0 [.ref (ad o 0)] 116 116 σ (pL (fun x s => s.2.2 = gRf b ∧ Q x s)) := by
  unfold W_X11_bound at h
  refine Sp.of (ls0 := [some (.ref (ad o 0))]) miX11_bound rfl (Nat.le_of_ble_eq_true rfl) rfl (fun γ hγ hnm X Y => ?_)
  subst hγ
  have X : gX o γ cX11_bound 1 RX11 := X
  refine g_aload_0 (pc := 0) X dX11_bound_0 ?_
  refine g_getRf (pc := 1) X dX11_bound_1 fl_X11_66 rfl (by decide) rfl hR rfl ?_
  refine g_iconst (pc := 4) X dX11_bound_4 kiconst_m1 ?_
  refine g_callV_V (pc := 5) X Y dX11_bound_5 miX8_pack li_X11_269 (t_X8_pack hR  h) rfl (by decide) rfl ⟨_, rfl⟩ rfl ⟨Nat.le_of_ble_eq_true rfl, Nat.le_of_ble_eq_true rfl⟩ (Nat.le_of_ble_eq_true rfl) (Nat.le_of_ble_eq_true rfl) rfl (by exact Nat.le_of_ble_eq_true rfl) (fun s1 hp => ?_)
  obtain ⟨hR, h⟩ := hp
  refine g_aload_0 (pc := 8) X dX11_bound_8 ?_
  refine g_getRf (pc := 9) X dX11_bound_9 fl_X11_66 rfl (by decide) rfl hR rfl ?_
  refine g_getL (pc := 12) X dX11_bound_12 rfl (by decide) fl_X11_272 rfl ?_
  exact g_lreturn (pc := 15) X Y dX11_bound_15 (Nat.le_of_ble_eq_true rfl) (Nat.le_of_ble_eq_true rfl) ⟨_, rfl, hR, h⟩
