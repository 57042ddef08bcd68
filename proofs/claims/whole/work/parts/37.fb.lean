def W_X11_ring (p0 : Int32) (p1 : Int32) (Q : Int32 → gSt → Prop) (QX : String → gSt → Prop) (σ : gSt) : Prop := W_X11_isWithin p1 (nI 0) (nI 3) (fun x1 => W_X11_refuseUnless x1 (((0 ≤ p0 → (W_X8_pack p0 (fun s3 => WPI mX8_hit 1 (fun o => [.ref (ad o 42), .int p1]) (fun x4 => Q x4 s3) s3) σ)) ∧ (¬ 0 ≤ p0 → (Q ((-1 : Int32)) σ)))) QX σ) σ
set_option maxHeartbeats 4000000 in
theorem t_X11_ring {o : gOm} {l : Launch} {b : Bool}   {σ : gSt} (hst : l.stackTraces = false) (hR : σ.2.2 = gRf b) {p0 : Int32} {p1 : Int32} {Q : Int32 → gSt → Prop} {QX : String → gSt → Prop} (h : W_X11_ring p0 p1 Q QX σ) : SpX o l mX11_ring 7 1 6 [.ref (ad o 0), .int p0, .int p1] 116 σ (pI (fun x s => s.2.2 = gRf b ∧ Q x s)) (fun E s => s.2.2 = gRf b ∧ QX E s) := by
  unfold W_X11_ring at h
  refine SpX.of (ls0 := [some (.ref (ad o 0)), some (.int p0), some (.int p1)]) hst miX11_ring rfl (Nat.le_of_ble_eq_true rfl) rfl (fun γ hγ X Y T => ?_)
  subst hγ
  have X : gX o γ cX11_ring 3 RX11 := X
  refine g_iload_2 (pc := 0) X dX11_ring_0 ?_
  refine g_iconst (pc := 1) X dX11_ring_1 kiconst_0 ?_
  refine g_iconst (pc := 2) X dX11_ring_2 kiconst_3 ?_
  refine g_callS_I (pc := 3) X Y dX11_ring_3 miX11_isWithin li_X11_100 (t_X11_isWithin hR  h) rfl ⟨Nat.le_of_ble_eq_true rfl, Nat.le_of_ble_eq_true rfl⟩ (Nat.le_of_ble_eq_true rfl) (Nat.le_of_ble_eq_true rfl) rfl (by exact Nat.le_of_ble_eq_true rfl) (fun x1 σ9 hp => ?_)
  obtain ⟨rfl, h⟩ := hp
  refine g_callSX_V (pc := 6) X Y dX11_ring_6 miX11_refuseUnless li_X11_104 (t_X11_refuseUnless hst hR  h) rfl ⟨Nat.le_of_ble_eq_true rfl, Nat.le_of_ble_eq_true rfl⟩ ⟨Nat.le_of_ble_eq_true rfl, Nat.le_of_ble_eq_true rfl⟩ (by exact Nat.le_of_ble_eq_true rfl) rfl (fun E σ9 hp => g_out X T hp (Nat.le_of_ble_eq_true rfl) (Nat.le_of_ble_eq_true rfl)) (fun σ9 hp => ?_)
  obtain ⟨rfl, h⟩ := hp
  refine g_iload_1 (pc := 9) X dX11_ring_9 ?_
  refine g_if_ge (pc := 10) X dX11_ring_10 (tgt := 15) (by decide) (fun q2 => ?_) (fun q2 => ?_)
  · replace h := h.1 q2
    refine g_aload_0 (pc := 15) X dX11_ring_15 ?_
    refine g_getRf (pc := 16) X dX11_ring_16 fl_X11_66 rfl (by decide) rfl hR rfl ?_
    refine g_iload_1 (pc := 19) X dX11_ring_19 ?_
    refine g_callV_V (pc := 20) X Y dX11_ring_20 miX8_pack li_X11_269 (t_X8_pack hR  h) rfl (by decide) rfl ⟨_, rfl⟩ rfl ⟨Nat.le_of_ble_eq_true rfl, Nat.le_of_ble_eq_true rfl⟩ (Nat.le_of_ble_eq_true rfl) (Nat.le_of_ble_eq_true rfl) rfl (by exact Nat.le_of_ble_eq_true rfl) (fun s3 hp => ?_)
    obtain ⟨hR, h⟩ := hp
    refine g_aload_0 (pc := 23) X dX11_ring_23 ?_
    refine g_getRf (pc := 24) X dX11_ring_24 fl_X11_66 rfl (by decide) rfl hR rfl ?_
    refine g_iload_2 (pc := 27) X dX11_ring_27 ?_
    refine g_callV_I (pc := 28) X Y dX11_ring_28 miX8_hit li_X11_275 (t_WPI hR  h) rfl (by decide) rfl ⟨_, rfl⟩ rfl ⟨Nat.le_of_ble_eq_true rfl, Nat.le_of_ble_eq_true rfl⟩ (Nat.le_of_ble_eq_true rfl) (Nat.le_of_ble_eq_true rfl) rfl (by exact Nat.le_of_ble_eq_true rfl) (fun x4 σ9 hp => ?_)
    obtain ⟨rfl, h⟩ := hp
    exact g_ireturn (pc := 31) X Y dX11_ring_31 (Nat.le_of_ble_eq_true rfl) (Nat.le_of_ble_eq_true rfl) ⟨_, rfl, hR, h⟩
  · replace h := h.2 q2
    refine g_iconst (pc := 13) X dX11_ring_13 kiconst_m1 ?_
    exact g_ireturn (pc := 14) X Y dX11_ring_14 (Nat.le_of_ble_eq_true rfl) (Nat.le_of_ble_eq_true rfl) ⟨_, rfl, hR, h⟩
def W_X11_rings  (Q : Int32 → Prop) (σ : gSt) : Prop := W_X8_howMany (fun x1 => Q x1) σ
set_option maxHeartbeats 4000000 in
theorem t_X11_rings {o : gOm} {l : Launch} {b : Bool}   {σ : gSt} (hR : σ.2.2 = gRf b)  {Q : Int32 → Prop} (h : W_X11_rings  Q σ) : Sp o l mX11_rings 5 0 0 [.ref (ad o 0)] 116 116 σ (pI (fun x s => σ = s ∧ Q x)) := by
  unfold W_X11_rings at h
  refine Sp.of (ls0 := [some (.ref (ad o 0))]) miX11_rings rfl (Nat.le_of_ble_eq_true rfl) rfl (fun γ hγ hnm X Y => ?_)
  subst hγ
  have X : gX o γ cX11_rings 1 RX11 := X
  refine g_aload_0 (pc := 0) X dX11_rings_0 ?_
  refine g_getRf (pc := 1) X dX11_rings_1 fl_X11_66 rfl (by decide) rfl hR rfl ?_
  refine g_callV_I (pc := 4) X Y dX11_rings_4 miX8_howMany li_X11_278 (t_X8_howMany hR  h) rfl (by decide) rfl ⟨_, rfl⟩ rfl ⟨Nat.le_of_ble_eq_true rfl, Nat.le_of_ble_eq_true rfl⟩ (Nat.le_of_ble_eq_true rfl) (Nat.le_of_ble_eq_true rfl) rfl (by exact Nat.le_of_ble_eq_true rfl) (fun x1 σ9 hp => ?_)
  obtain ⟨rfl, h⟩ := hp
  exact g_ireturn (pc := 7) X Y dX11_rings_7 (Nat.le_of_ble_eq_true rfl) (Nat.le_of_ble_eq_true rfl) ⟨_, rfl, rfl, h⟩
def W_X11_told (p0 : Int32) (p1 : Int32) (p2 : Int32) (p3 : Int32) (Q : Int64 → gSt → Prop) (QX : String → gSt → Prop) (σ : gSt) : Prop := W_X11_needEntry p0 (W_X11_needEntry p1 (W_X11_needEntry p2 (∀ J2 : Int32 → Prop, (∀ x1, (W_X11_refuseUnless x1 (W_X11_isWithin p3 (nI 1) ((1000000 : Int32)) (fun x3 => W_X11_refuseUnless x3 (WPI mX8_isRing 3 (fun o => [.ref (ad o 42), .int p0, .int p1, .int p2]) (fun x4 => ((x4 = 0 → (Q ((-1 : Int64)) σ)) ∧ (¬ x4 = 0 → (WPI mX8_canTake 4 (fun o => [.ref (ad o 42), .int p0, .int p1, .int p2, .int p3]) (fun x6 => ((x6 = 0 → (Q ((-2 : Int64)) σ)) ∧ (¬ x6 = 0 → ((((σ.1 42 0) < (nI 40) → (WSV mX8_tell 3 (fun o => [.ref (ad o 42), .int p0, .int p1, .int p2, .int p3]) (fun s9 => Q (s9.2.1 42 1) s9) σ)) ∧ (¬ (σ.1 42 0) < (nI 40) → (Q ((-3 : Int64)) σ))))))) σ)))) σ) QX σ) σ) QX σ) → J2 x1) → ∀ J10 : Prop, ((J2 (nI 0)) → J10) → ((p0 = p1 → J10) ∧ (¬ p0 = p1 → (((p1 = p2 → J10) ∧ (¬ p1 = p2 → (((p0 = p2 → J10) ∧ (¬ p0 = p2 → (J2 (nI 1))))))))))) QX σ) QX σ) QX σ
set_option maxHeartbeats 4000000 in
theorem t_X11_told {o : gOm} {l : Launch} {b : Bool}   {σ : gSt} (hst : l.stackTraces = false) (hR : σ.2.2 = gRf b) {p0 : Int32} {p1 : Int32} {p2 : Int32} {p3 : Int32} {Q : Int64 → gSt → Prop} {QX : String → gSt → Prop} (h : W_X11_told p0 p1 p2 p3 Q QX σ) : SpX o l mX11_told 7 5 30 [.ref (ad o 0), .int p0, .int p1, .int p2, .int p3] 116 σ (pL (fun x s => s.2.2 = gRf b ∧ Q x s)) (fun E s => s.2.2 = gRf b ∧ QX E s) := by
  unfold W_X11_told at h
  refine SpX.of (ls0 := [some (.ref (ad o 0)), some (.int p0), some (.int p1), some (.int p2), some (.int p3)]) hst miX11_told rfl (Nat.le_of_ble_eq_true rfl) rfl (fun γ hγ X Y T => ?_)
  subst hγ
  have X : gX o γ cX11_told 5 RX11 := X
  refine g_aload_0 (pc := 0) X dX11_told_0 ?_
  refine g_iload_1 (pc := 1) X dX11_told_1 ?_
  refine g_callVX_V (pc := 2) X Y dX11_told_2 miX11_needEntry li_X11_126 (t_X11_needEntry hst hR  h) rfl (by decide) rfl ⟨_, rfl⟩ rfl ⟨Nat.le_of_ble_eq_true rfl, Nat.le_of_ble_eq_true rfl⟩ ⟨Nat.le_of_ble_eq_true rfl, Nat.le_of_ble_eq_true rfl⟩ (by exact Nat.le_of_ble_eq_true rfl) rfl (fun E σ9 hp => g_out X T hp (Nat.le_of_ble_eq_true rfl) (Nat.le_of_ble_eq_true rfl)) (fun σ9 hp => ?_)
  obtain ⟨rfl, h⟩ := hp
  refine g_aload_0 (pc := 5) X dX11_told_5 ?_
  refine g_iload_2 (pc := 6) X dX11_told_6 ?_
  refine g_callVX_V (pc := 7) X Y dX11_told_7 miX11_needEntry li_X11_126 (t_X11_needEntry hst hR  h) rfl (by decide) rfl ⟨_, rfl⟩ rfl ⟨Nat.le_of_ble_eq_true rfl, Nat.le_of_ble_eq_true rfl⟩ ⟨Nat.le_of_ble_eq_true rfl, Nat.le_of_ble_eq_true rfl⟩ (by exact Nat.le_of_ble_eq_true rfl) rfl (fun E σ9 hp => g_out X T hp (Nat.le_of_ble_eq_true rfl) (Nat.le_of_ble_eq_true rfl)) (fun σ9 hp => ?_)
  obtain ⟨rfl, h⟩ := hp
  refine g_aload_0 (pc := 10) X dX11_told_10 ?_
  refine g_iload_3 (pc := 11) X dX11_told_11 ?_
  refine g_callVX_V (pc := 12) X Y dX11_told_12 miX11_needEntry li_X11_126 (t_X11_needEntry hst hR  h) rfl (by decide) rfl ⟨_, rfl⟩ rfl ⟨Nat.le_of_ble_eq_true rfl, Nat.le_of_ble_eq_true rfl⟩ ⟨Nat.le_of_ble_eq_true rfl, Nat.le_of_ble_eq_true rfl⟩ (by exact Nat.le_of_ble_eq_true rfl) rfl (fun E σ9 hp => g_out X T hp (Nat.le_of_ble_eq_true rfl) (Nat.le_of_ble_eq_true rfl)) (fun σ9 hp => ?_)
  obtain ⟨rfl, h⟩ := hp
  refine g_iload_1 (pc := 15) X dX11_told_15 ?_
  refine g_iload_2 (pc := 16) X dX11_told_16 ?_
  replace h := h (fun x1 => G o γ 3 18 116 σ 35 [some (.ref (ad o 0)), some (.int p0), some (.int p1), some (.int p2), some (.int p3)] [.int x1]) (by
      intro x1 h
      refine g_callSX_V (pc := 35) X Y dX11_told_35 miX11_refuseUnless li_X11_104 (t_X11_refuseUnless hst hR  h) rfl ⟨Nat.le_of_ble_eq_true rfl, Nat.le_of_ble_eq_true rfl⟩ ⟨Nat.le_of_ble_eq_true rfl, Nat.le_of_ble_eq_true rfl⟩ (by exact Nat.le_of_ble_eq_true rfl) rfl (fun E σ9 hp => g_out X T hp (Nat.le_of_ble_eq_true rfl) (Nat.le_of_ble_eq_true rfl)) (fun σ9 hp => ?_)
      obtain ⟨rfl, h⟩ := hp
      refine g_iload_4 (pc := 38) X dX11_told_38 ?_
      refine g_iconst (pc := 40) X dX11_told_40 kiconst_1 ?_
      refine g_ldcw (pc := 41) X dX11_told_41 ct_X11_281 ?_
      refine g_callS_I (pc := 44) X Y dX11_told_44 miX11_isWithin li_X11_100 (t_X11_isWithin hR  h) rfl ⟨Nat.le_of_ble_eq_true rfl, Nat.le_of_ble_eq_true rfl⟩ (Nat.le_of_ble_eq_true rfl) (Nat.le_of_ble_eq_true rfl) rfl (by exact Nat.le_of_ble_eq_true rfl) (fun x3 σ9 hp => ?_)
      obtain ⟨rfl, h⟩ := hp
      refine g_callSX_V (pc := 47) X Y dX11_told_47 miX11_refuseUnless li_X11_104 (t_X11_refuseUnless hst hR  h) rfl ⟨Nat.le_of_ble_eq_true rfl, Nat.le_of_ble_eq_true rfl⟩ ⟨Nat.le_of_ble_eq_true rfl, Nat.le_of_ble_eq_true rfl⟩ (by exact Nat.le_of_ble_eq_true rfl) rfl (fun E σ9 hp => g_out X T hp (Nat.le_of_ble_eq_true rfl) (Nat.le_of_ble_eq_true rfl)) (fun σ9 hp => ?_)
      obtain ⟨rfl, h⟩ := hp
      refine g_aload_0 (pc := 50) X dX11_told_50 ?_
      refine g_getRf (pc := 51) X dX11_told_51 fl_X11_66 rfl (by decide) rfl hR rfl ?_
      refine g_iload_1 (pc := 54) X dX11_told_54 ?_
      refine g_iload_2 (pc := 55) X dX11_told_55 ?_
      refine g_iload_3 (pc := 56) X dX11_told_56 ?_
      refine g_callV_I (pc := 57) X Y dX11_told_57 miX8_isRing li_X11_282 (t_WPI hR  h) rfl (by decide) rfl ⟨_, rfl⟩ rfl ⟨Nat.le_of_ble_eq_true rfl, Nat.le_of_ble_eq_true rfl⟩ (Nat.le_of_ble_eq_true rfl) (Nat.le_of_ble_eq_true rfl) rfl (by exact Nat.le_of_ble_eq_true rfl) (fun x4 σ9 hp => ?_)
      obtain ⟨rfl, h⟩ := hp
      refine g_if_ne (pc := 60) X dX11_told_60 (tgt := 67) (by decide) (fun q5 => ?_) (fun q5 => ?_)
      · replace h := h.2 q5
        refine g_aload_0 (pc := 67) X dX11_told_67 ?_
        refine g_getRf (pc := 68) X dX11_told_68 fl_X11_66 rfl (by decide) rfl hR rfl ?_
        refine g_iload_1 (pc := 71) X dX11_told_71 ?_
        refine g_iload_2 (pc := 72) X dX11_told_72 ?_
        refine g_iload_3 (pc := 73) X dX11_told_73 ?_
        refine g_iload_4 (pc := 74) X dX11_told_74 ?_
        refine g_callV_I (pc := 76) X Y dX11_told_76 miX8_canTake li_X11_287 (t_WPI hR  h) rfl (by decide) rfl ⟨_, rfl⟩ rfl ⟨Nat.le_of_ble_eq_true rfl, Nat.le_of_ble_eq_true rfl⟩ (Nat.le_of_ble_eq_true rfl) (Nat.le_of_ble_eq_true rfl) rfl (by exact Nat.le_of_ble_eq_true rfl) (fun x6 σ9 hp => ?_)
        obtain ⟨rfl, h⟩ := hp
        refine g_if_ne (pc := 79) X dX11_told_79 (tgt := 86) (by decide) (fun q7 => ?_) (fun q7 => ?_)
        · replace h := h.2 q7
          refine g_aload_0 (pc := 86) X dX11_told_86 ?_
          refine g_getRf (pc := 87) X dX11_told_87 fl_X11_66 rfl (by decide) rfl hR rfl ?_
          refine g_getI (pc := 90) X dX11_told_90 rfl (by decide) fl_X11_293 (Or.inl rfl) ?_
          refine g_bipush (pc := 93) X dX11_told_93 kbipush_40 ?_
          refine g_icmp_lt (pc := 95) X dX11_told_95 (tgt := 102) (by decide) (fun q8 => ?_) (fun q8 => ?_)
          · replace h := h.1 q8
            refine g_aload_0 (pc := 102) X dX11_told_102 ?_
            refine g_getRf (pc := 103) X dX11_told_103 fl_X11_66 rfl (by decide) rfl hR rfl ?_
            refine g_iload_1 (pc := 106) X dX11_told_106 ?_
            refine g_iload_2 (pc := 107) X dX11_told_107 ?_
            refine g_iload_3 (pc := 108) X dX11_told_108 ?_
            refine g_iload_4 (pc := 109) X dX11_told_109 ?_
            refine g_callV_V (pc := 111) X Y dX11_told_111 miX8_tell li_X11_298 (t_WSV hR  h) rfl (by decide) rfl ⟨_, rfl⟩ rfl ⟨Nat.le_of_ble_eq_true rfl, Nat.le_of_ble_eq_true rfl⟩ (Nat.le_of_ble_eq_true rfl) (Nat.le_of_ble_eq_true rfl) rfl (by exact Nat.le_of_ble_eq_true rfl) (fun s9 hp => ?_)
            obtain ⟨hR, h⟩ := hp
            refine g_aload_0 (pc := 114) X dX11_told_114 ?_
            refine g_getRf (pc := 115) X dX11_told_115 fl_X11_66 rfl (by decide) rfl hR rfl ?_
            refine g_getL (pc := 118) X dX11_told_118 rfl (by decide) fl_X11_302 rfl ?_
            exact g_lreturn (pc := 121) X Y dX11_told_121 (Nat.le_of_ble_eq_true rfl) (Nat.le_of_ble_eq_true rfl) ⟨_, rfl, hR, h⟩
          · replace h := h.2 q8
            refine g_ldc2 (pc := 98) X dX11_told_98 ct_X11_296 ?_
            exact g_lreturn (pc := 101) X Y dX11_told_101 (Nat.le_of_ble_eq_true rfl) (Nat.le_of_ble_eq_true rfl) ⟨_, rfl, hR, h⟩
        · replace h := h.1 q7
          refine g_ldc2 (pc := 82) X dX11_told_82 ct_X11_291 ?_
          exact g_lreturn (pc := 85) X Y dX11_told_85 (Nat.le_of_ble_eq_true rfl) (Nat.le_of_ble_eq_true rfl) ⟨_, rfl, hR, h⟩
      · replace h := h.1 q5
        refine g_ldc2 (pc := 63) X dX11_told_63 ct_X11_285 ?_
        exact g_lreturn (pc := 66) X Y dX11_told_66 (Nat.le_of_ble_eq_true rfl) (Nat.le_of_ble_eq_true rfl) ⟨_, rfl, hR, h⟩)
  replace h := h (G o γ 3 18 116 σ 34 [some (.ref (ad o 0)), some (.int p0), some (.int p1), some (.int p2), some (.int p3)] []) (by
      intro  h
      refine g_iconst (pc := 34) X dX11_told_34 kiconst_0 ?_
      exact h)
  refine g_icmp_eq (pc := 17) X dX11_told_17 (tgt := 34) (by decide) (fun q11 => ?_) (fun q11 => ?_)
  · replace h := h.1 q11
    exact h
  · replace h := h.2 q11
    refine g_iload_2 (pc := 20) X dX11_told_20 ?_
    refine g_iload_3 (pc := 21) X dX11_told_21 ?_
    refine g_icmp_eq (pc := 22) X dX11_told_22 (tgt := 34) (by decide) (fun q12 => ?_) (fun q12 => ?_)
    · replace h := h.1 q12
      exact h
    · replace h := h.2 q12
      refine g_iload_1 (pc := 25) X dX11_told_25 ?_
      refine g_iload_3 (pc := 26) X dX11_told_26 ?_
      refine g_icmp_eq (pc := 27) X dX11_told_27 (tgt := 34) (by decide) (fun q13 => ?_) (fun q13 => ?_)
      · replace h := h.1 q13
        exact h
      · replace h := h.2 q13
        refine g_iconst (pc := 30) X dX11_told_30 kiconst_1 ?_
        refine g_goto (pc := 31) X dX11_told_31 (tgt := 35) (by decide) ?_
        exact h
def W_X11_solve (p0 : Int32) (Q : Int32 → gSt → Prop) (σ : gSt) : Prop := W_J6_bitCount_0f7a4 p0 (fun x1 => ((x1 ≤ (nI 10) → (W_X5_load p0 (fun s3 => W_X10_measure (fun x4 s5 => ((x4 = 0 → (Q ((-1 : Int32)) s5)) ∧ (¬ x4 = 0 → (Q (nI 1) s5)))) s3) σ)) ∧ (¬ x1 ≤ (nI 10) → (Q ((-2 : Int32)) σ)))) σ
set_option maxHeartbeats 4000000 in
theorem t_X11_solve {o : gOm} {l : Launch} {b : Bool}   {σ : gSt} (hR : σ.2.2 = gRf b) {p0 : Int32} {Q : Int32 → gSt → Prop} (h : W_X11_solve p0 Q σ) : Sp o l mX11_solve 28 0 0 [.ref (ad o 0), .int p0] 116 116 σ (pI (fun x s => s.2.2 = gRf b ∧ Q x s)) := by
  unfold W_X11_solve at h
  refine Sp.of (ls0 := [some (.ref (ad o 0)), some (.int p0)]) miX11_solve rfl (Nat.le_of_ble_eq_true rfl) rfl (fun γ hγ hnm X Y => ?_)
  subst hγ
  have X : gX o γ cX11_solve 2 RX11 := X
  refine g_iload_1 (pc := 0) X dX11_solve_0 ?_
  refine g_callS_I (pc := 1) X Y dX11_solve_1 miJ6_bitCount_0f7a4 li_X11_143 (t_J6_bitCount_0f7a4 hR  h) rfl ⟨Nat.le_of_ble_eq_true rfl, Nat.le_of_ble_eq_true rfl⟩ (Nat.le_of_ble_eq_true rfl) (Nat.le_of_ble_eq_true rfl) rfl (by exact Nat.le_of_ble_eq_true rfl) (fun x1 σ9 hp => ?_)
  obtain ⟨rfl, h⟩ := hp
  refine g_bipush (pc := 4) X dX11_solve_4 kbipush_10 ?_
  refine g_icmp_le (pc := 6) X dX11_solve_6 (tgt := 12) (by decide) (fun q2 => ?_) (fun q2 => ?_)
  · replace h := h.1 q2
    refine g_aload_0 (pc := 12) X dX11_solve_12 ?_
    refine g_getRf (pc := 13) X dX11_solve_13 fl_X11_80 rfl (by decide) rfl hR rfl ?_
    refine g_iload_1 (pc := 16) X dX11_solve_16 ?_
    refine g_callV_V (pc := 17) X Y dX11_solve_17 miX5_load li_X11_389 (t_X5_load hR  h) rfl (by decide) rfl ⟨_, rfl⟩ rfl ⟨Nat.le_of_ble_eq_true rfl, Nat.le_of_ble_eq_true rfl⟩ (Nat.le_of_ble_eq_true rfl) (Nat.le_of_ble_eq_true rfl) rfl (by exact Nat.le_of_ble_eq_true rfl) (fun s3 hp => ?_)
    obtain ⟨hR, h⟩ := hp
    refine g_aload_0 (pc := 20) X dX11_solve_20 ?_
    refine g_getRf (pc := 21) X dX11_solve_21 fl_X11_89 rfl (by decide) rfl hR rfl ?_
    refine g_callV_I (pc := 24) X Y dX11_solve_24 miX10_measure li_X11_392 (t_X10_measure hR  h) rfl (by decide) rfl ⟨_, rfl⟩ rfl ⟨Nat.le_of_ble_eq_true rfl, Nat.le_of_ble_eq_true rfl⟩ (Nat.le_of_ble_eq_true rfl) (Nat.le_of_ble_eq_true rfl) rfl (by exact Nat.le_of_ble_eq_true rfl) (fun x4 s5 hp => ?_)
    obtain ⟨hR, h⟩ := hp
    refine g_if_eq (pc := 27) X dX11_solve_27 (tgt := 34) (by decide) (fun q6 => ?_) (fun q6 => ?_)
    · replace h := h.1 q6
      refine g_iconst (pc := 34) X dX11_solve_34 kiconst_m1 ?_
      exact g_ireturn (pc := 35) X Y dX11_solve_35 (Nat.le_of_ble_eq_true rfl) (Nat.le_of_ble_eq_true rfl) ⟨_, rfl, hR, h⟩
    · replace h := h.2 q6
      refine g_iconst (pc := 30) X dX11_solve_30 kiconst_1 ?_
      refine g_goto (pc := 31) X dX11_solve_31 (tgt := 35) (by decide) ?_
      exact g_ireturn (pc := 35) X Y dX11_solve_35 (Nat.le_of_ble_eq_true rfl) (Nat.le_of_ble_eq_true rfl) ⟨_, rfl, hR, h⟩
  · replace h := h.2 q2
    refine g_bipush (pc := 9) X dX11_solve_9 kbipush_m2 ?_
    exact g_ireturn (pc := 11) X Y dX11_solve_11 (Nat.le_of_ble_eq_true rfl) (Nat.le_of_ble_eq_true rfl) ⟨_, rfl, hR, h⟩
def W_X11_best (p0 : Int32) (Q : Int64 → gSt → Prop) (QX : String → gSt → Prop) (σ : gSt) : Prop := W_X11_needEntry p0 (W_X11_membersOfPart p0 (fun x1 s2 => W_X11_solve x1 (fun x3 s4 => ((0 ≤ x3 → (Q (i2l (s4.1 56 0)) s4)) ∧ (¬ 0 ≤ x3 → (Q (i2l x3) s4)))) s2) σ) QX σ
set_option maxHeartbeats 4000000 in
theorem t_X11_best {o : gOm} {l : Launch} {b : Bool}   {σ : gSt} (hst : l.stackTraces = false) (hR : σ.2.2 = gRf b) {p0 : Int32} {Q : Int64 → gSt → Prop} {QX : String → gSt → Prop} (h : W_X11_best p0 Q QX σ) : SpX o l mX11_best 29 1 6 [.ref (ad o 0), .int p0] 116 σ (pL (fun x s => s.2.2 = gRf b ∧ Q x s)) (fun E s => s.2.2 = gRf b ∧ QX E s) := by
  unfold W_X11_best at h
  refine SpX.of (ls0 := [some (.ref (ad o 0)), some (.int p0), none]) hst miX11_best rfl (Nat.le_of_ble_eq_true rfl) rfl (fun γ hγ X Y T => ?_)
  subst hγ
  have X : gX o γ cX11_best 3 RX11 := X
  refine g_aload_0 (pc := 0) X dX11_best_0 ?_
  refine g_iload_1 (pc := 1) X dX11_best_1 ?_
  refine g_callVX_V (pc := 2) X Y dX11_best_2 miX11_needEntry li_X11_126 (t_X11_needEntry hst hR  h) rfl (by decide) rfl ⟨_, rfl⟩ rfl ⟨Nat.le_of_ble_eq_true rfl, Nat.le_of_ble_eq_true rfl⟩ ⟨Nat.le_of_ble_eq_true rfl, Nat.le_of_ble_eq_true rfl⟩ (by exact Nat.le_of_ble_eq_true rfl) rfl (fun E σ9 hp => g_out X T hp (Nat.le_of_ble_eq_true rfl) (Nat.le_of_ble_eq_true rfl)) (fun σ9 hp => ?_)
  obtain ⟨rfl, h⟩ := hp
  refine g_aload_0 (pc := 5) X dX11_best_5 ?_
  refine g_aload_0 (pc := 6) X dX11_best_6 ?_
  refine g_iload_1 (pc := 7) X dX11_best_7 ?_
  refine g_callV_I (pc := 8) X Y dX11_best_8 miX11_membersOfPart li_X11_136 (t_X11_membersOfPart hR  h) rfl (by decide) rfl ⟨_, rfl⟩ rfl ⟨Nat.le_of_ble_eq_true rfl, Nat.le_of_ble_eq_true rfl⟩ (Nat.le_of_ble_eq_true rfl) (Nat.le_of_ble_eq_true rfl) rfl (by exact Nat.le_of_ble_eq_true rfl) (fun x1 s2 hp => ?_)
  obtain ⟨hR, h⟩ := hp
  refine g_callV_I (pc := 11) X Y dX11_best_11 miX11_solve li_X11_305 (t_X11_solve hR  h) rfl (by decide) rfl ⟨_, rfl⟩ rfl ⟨Nat.le_of_ble_eq_true rfl, Nat.le_of_ble_eq_true rfl⟩ (Nat.le_of_ble_eq_true rfl) (Nat.le_of_ble_eq_true rfl) rfl (by exact Nat.le_of_ble_eq_true rfl) (fun x3 s4 hp => ?_)
  obtain ⟨hR, h⟩ := hp
  refine g_istore_2 (pc := 14) X dX11_best_14 (by decide) rfl ?_
  refine g_iload_2 (pc := 15) X dX11_best_15 ?_
  refine g_if_ge (pc := 16) X dX11_best_16 (tgt := 24) (by decide) (fun q5 => ?_) (fun q5 => ?_)
  · replace h := h.1 q5
    refine g_aload_0 (pc := 24) X dX11_best_24 ?_
    refine g_getRf (pc := 25) X dX11_best_25 fl_X11_89 rfl (by decide) rfl hR rfl ?_
    refine g_getI (pc := 28) X dX11_best_28 rfl (by decide) fl_X11_308 (Or.inl rfl) ?_
    refine g_i2l (pc := 31) X dX11_best_31 ?_
    exact g_lreturn (pc := 32) X Y dX11_best_32 (Nat.le_of_ble_eq_true rfl) (Nat.le_of_ble_eq_true rfl) ⟨_, rfl, hR, h⟩
  · replace h := h.2 q5
    refine g_iload_2 (pc := 19) X dX11_best_19 ?_
    refine g_i2l (pc := 20) X dX11_best_20 ?_
    refine g_goto (pc := 21) X dX11_best_21 (tgt := 32) (by decide) ?_
    exact g_lreturn (pc := 32) X Y dX11_best_32 (Nat.le_of_ble_eq_true rfl) (Nat.le_of_ble_eq_true rfl) ⟨_, rfl, hR, h⟩
def W_X11_listPartOf (p0 : Int32) (Q : Int32 → gSt → Prop) (σ : gSt) : Prop := W_X11_membersOfPart p0 (fun x1 s2 => W_X11_solve x1 (fun x3 s4 => ((x3 ≤ 0 → (Q x3 s4)) ∧ (¬ x3 ≤ 0 → (W_X10_list (fun s6 => Q x3 s6) s4)))) s2) σ
set_option maxHeartbeats 4000000 in
theorem t_X11_listPartOf {o : gOm} {l : Launch} {b : Bool}   {σ : gSt} (hR : σ.2.2 = gRf b) {p0 : Int32} {Q : Int32 → gSt → Prop} (h : W_X11_listPartOf p0 Q σ) : Sp o l mX11_listPartOf 29 0 0 [.ref (ad o 0), .int p0] 116 116 σ (pI (fun x s => s.2.2 = gRf b ∧ Q x s)) := by
  unfold W_X11_listPartOf at h
  refine Sp.of (ls0 := [some (.ref (ad o 0)), some (.int p0), none]) miX11_listPartOf rfl (Nat.le_of_ble_eq_true rfl) rfl (fun γ hγ hnm X Y => ?_)
  subst hγ
  have X : gX o γ cX11_listPartOf 3 RX11 := X
  refine g_aload_0 (pc := 0) X dX11_listPartOf_0 ?_
  refine g_aload_0 (pc := 1) X dX11_listPartOf_1 ?_
  refine g_iload_1 (pc := 2) X dX11_listPartOf_2 ?_
  refine g_callV_I (pc := 3) X Y dX11_listPartOf_3 miX11_membersOfPart li_X11_136 (t_X11_membersOfPart hR  h) rfl (by decide) rfl ⟨_, rfl⟩ rfl ⟨Nat.le_of_ble_eq_true rfl, Nat.le_of_ble_eq_true rfl⟩ (Nat.le_of_ble_eq_true rfl) (Nat.le_of_ble_eq_true rfl) rfl (by exact Nat.le_of_ble_eq_true rfl) (fun x1 s2 hp => ?_)
  obtain ⟨hR, h⟩ := hp
  refine g_callV_I (pc := 6) X Y dX11_listPartOf_6 miX11_solve li_X11_305 (t_X11_solve hR  h) rfl (by decide) rfl ⟨_, rfl⟩ rfl ⟨Nat.le_of_ble_eq_true rfl, Nat.le_of_ble_eq_true rfl⟩ (Nat.le_of_ble_eq_true rfl) (Nat.le_of_ble_eq_true rfl) rfl (by exact Nat.le_of_ble_eq_true rfl) (fun x3 s4 hp => ?_)
  obtain ⟨hR, h⟩ := hp
  refine g_istore_2 (pc := 9) X dX11_listPartOf_9 (by decide) rfl ?_
  refine g_iload_2 (pc := 10) X dX11_listPartOf_10 ?_
  refine g_if_le (pc := 11) X dX11_listPartOf_11 (tgt := 21) (by decide) (fun q5 => ?_) (fun q5 => ?_)
  · replace h := h.1 q5
    refine g_iload_2 (pc := 21) X dX11_listPartOf_21 ?_
    exact g_ireturn (pc := 22) X Y dX11_listPartOf_22 (Nat.le_of_ble_eq_true rfl) (Nat.le_of_ble_eq_true rfl) ⟨_, rfl, hR, h⟩
  · replace h := h.2 q5
    refine g_aload_0 (pc := 14) X dX11_listPartOf_14 ?_
    refine g_getRf (pc := 15) X dX11_listPartOf_15 fl_X11_89 rfl (by decide) rfl hR rfl ?_
    refine g_callV_V (pc := 18) X Y dX11_listPartOf_18 miX10_list li_X11_395 (t_X10_list hR  h) rfl (by decide) rfl ⟨_, rfl⟩ rfl ⟨Nat.le_of_ble_eq_true rfl, Nat.le_of_ble_eq_true rfl⟩ (Nat.le_of_ble_eq_true rfl) (Nat.le_of_ble_eq_true rfl) rfl (by exact Nat.le_of_ble_eq_true rfl) (fun s6 hp => ?_)
    obtain ⟨hR, h⟩ := hp
    refine g_iload_2 (pc := 21) X dX11_listPartOf_21 ?_
    exact g_ireturn (pc := 22) X Y dX11_listPartOf_22 (Nat.le_of_ble_eq_true rfl) (Nat.le_of_ble_eq_true rfl) ⟨_, rfl, hR, h⟩
def W_X11_many (p0 : Int32) (Q : Int32 → gSt → Prop) (QX : String → gSt → Prop) (σ : gSt) : Prop := W_X11_needEntry p0 (W_X11_listPartOf p0 (fun x1 s2 => ((x1 = ((-2 : Int32)) → (Q ((-2 : Int32)) s2)) ∧ (¬ x1 = ((-2 : Int32)) → (((0 ≤ x1 → (Q (s2.1 56 1) s2)) ∧ (¬ 0 ≤ x1 → (Q (nI 0) s2))))))) σ) QX σ
set_option maxHeartbeats 4000000 in
theorem t_X11_many {o : gOm} {l : Launch} {b : Bool}   {σ : gSt} (hst : l.stackTraces = false) (hR : σ.2.2 = gRf b) {p0 : Int32} {Q : Int32 → gSt → Prop} {QX : String → gSt → Prop} (h : W_X11_many p0 Q QX σ) : SpX o l mX11_many 30 1 6 [.ref (ad o 0), .int p0] 116 σ (pI (fun x s => s.2.2 = gRf b ∧ Q x s)) (fun E s => s.2.2 = gRf b ∧ QX E s) := by
  unfold W_X11_many at h
  refine SpX.of (ls0 := [some (.ref (ad o 0)), some (.int p0), none]) hst miX11_many rfl (Nat.le_of_ble_eq_true rfl) rfl (fun γ hγ X Y T => ?_)
  subst hγ
  have X : gX o γ cX11_many 3 RX11 := X
  refine g_aload_0 (pc := 0) X dX11_many_0 ?_
  refine g_iload_1 (pc := 1) X dX11_many_1 ?_
  refine g_callVX_V (pc := 2) X Y dX11_many_2 miX11_needEntry li_X11_126 (t_X11_needEntry hst hR  h) rfl (by decide) rfl ⟨_, rfl⟩ rfl ⟨Nat.le_of_ble_eq_true rfl, Nat.le_of_ble_eq_true rfl⟩ ⟨Nat.le_of_ble_eq_true rfl, Nat.le_of_ble_eq_true rfl⟩ (by exact Nat.le_of_ble_eq_true rfl) rfl (fun E σ9 hp => g_out X T hp (Nat.le_of_ble_eq_true rfl) (Nat.le_of_ble_eq_true rfl)) (fun σ9 hp => ?_)
  obtain ⟨rfl, h⟩ := hp
  refine g_aload_0 (pc := 5) X dX11_many_5 ?_
  refine g_iload_1 (pc := 6) X dX11_many_6 ?_
  refine g_callV_I (pc := 7) X Y dX11_many_7 miX11_listPartOf li_X11_310 (t_X11_listPartOf hR  h) rfl (by decide) rfl ⟨_, rfl⟩ rfl ⟨Nat.le_of_ble_eq_true rfl, Nat.le_of_ble_eq_true rfl⟩ (Nat.le_of_ble_eq_true rfl) (Nat.le_of_ble_eq_true rfl) rfl (by exact Nat.le_of_ble_eq_true rfl) (fun x1 s2 hp => ?_)
  obtain ⟨hR, h⟩ := hp
  refine g_istore_2 (pc := 10) X dX11_many_10 (by decide) rfl ?_
  refine g_iload_2 (pc := 11) X dX11_many_11 ?_
  refine g_bipush (pc := 12) X dX11_many_12 kbipush_m2 ?_
  refine g_icmp_ne (pc := 14) X dX11_many_14 (tgt := 22) (by decide) (fun q3 => ?_) (fun q3 => ?_)
  · replace h := h.2 q3
    refine g_iload_2 (pc := 22) X dX11_many_22 ?_
    refine g_if_ge (pc := 23) X dX11_many_23 (tgt := 30) (by decide) (fun q4 => ?_) (fun q4 => ?_)
    · replace h := h.1 q4
      refine g_aload_0 (pc := 30) X dX11_many_30 ?_
      refine g_getRf (pc := 31) X dX11_many_31 fl_X11_89 rfl (by decide) rfl hR rfl ?_
      refine g_getI (pc := 34) X dX11_many_34 rfl (by decide) fl_X11_313 (Or.inl rfl) ?_
      exact g_ireturn (pc := 37) X Y dX11_many_37 (Nat.le_of_ble_eq_true rfl) (Nat.le_of_ble_eq_true rfl) ⟨_, rfl, hR, h⟩
    · replace h := h.2 q4
      refine g_iconst (pc := 26) X dX11_many_26 kiconst_0 ?_
      refine g_goto (pc := 27) X dX11_many_27 (tgt := 37) (by decide) ?_
      exact g_ireturn (pc := 37) X Y dX11_many_37 (Nat.le_of_ble_eq_true rfl) (Nat.le_of_ble_eq_true rfl) ⟨_, rfl, hR, h⟩
  · replace h := h.1 q3
    refine g_bipush (pc := 17) X dX11_many_17 kbipush_m2 ?_
    refine g_goto (pc := 19) X dX11_many_19 (tgt := 37) (by decide) ?_
    exact g_ireturn (pc := 37) X Y dX11_many_37 (Nat.le_of_ble_eq_true rfl) (Nat.le_of_ble_eq_true rfl) ⟨_, rfl, hR, h⟩
def W_X11_first (p0 : Int32) (Q : Int32 → gSt → Prop) (QX : String → gSt → Prop) (σ : gSt) : Prop := W_X11_needEntry p0 (W_X11_listPartOf p0 (fun x1 s2 => ((0 ≤ x1 → (W_X10_heapOf p0 (fun x4 => Q x4 s2) s2)) ∧ (¬ 0 ≤ x1 → (Q x1 s2)))) σ) QX σ
set_option maxHeartbeats 4000000 in
theorem t_X11_first {o : gOm} {l : Launch} {b : Bool}   {σ : gSt} (hst : l.stackTraces = false) (hR : σ.2.2 = gRf b) {p0 : Int32} {Q : Int32 → gSt → Prop} {QX : String → gSt → Prop} (h : W_X11_first p0 Q QX σ) : SpX o l mX11_first 30 1 6 [.ref (ad o 0), .int p0] 116 σ (pI (fun x s => s.2.2 = gRf b ∧ Q x s)) (fun E s => s.2.2 = gRf b ∧ QX E s) := by
  unfold W_X11_first at h
  refine SpX.of (ls0 := [some (.ref (ad o 0)), some (.int p0), none]) hst miX11_first rfl (Nat.le_of_ble_eq_true rfl) rfl (fun γ hγ X Y T => ?_)
  subst hγ
  have X : gX o γ cX11_first 3 RX11 := X
  refine g_aload_0 (pc := 0) X dX11_first_0 ?_
  refine g_iload_1 (pc := 1) X dX11_first_1 ?_
  refine g_callVX_V (pc := 2) X Y dX11_first_2 miX11_needEntry li_X11_126 (t_X11_needEntry hst hR  h) rfl (by decide) rfl ⟨_, rfl⟩ rfl ⟨Nat.le_of_ble_eq_true rfl, Nat.le_of_ble_eq_true rfl⟩ ⟨Nat.le_of_ble_eq_true rfl, Nat.le_of_ble_eq_true rfl⟩ (by exact Nat.le_of_ble_eq_true rfl) rfl (fun E σ9 hp => g_out X T hp (Nat.le_of_ble_eq_true rfl) (Nat.le_of_ble_eq_true rfl)) (fun σ9 hp => ?_)
  obtain ⟨rfl, h⟩ := hp
  refine g_aload_0 (pc := 5) X dX11_first_5 ?_
  refine g_iload_1 (pc := 6) X dX11_first_6 ?_
  refine g_callV_I (pc := 7) X Y dX11_first_7 miX11_listPartOf li_X11_310 (t_X11_listPartOf hR  h) rfl (by decide) rfl ⟨_, rfl⟩ rfl ⟨Nat.le_of_ble_eq_true rfl, Nat.le_of_ble_eq_true rfl⟩ (Nat.le_of_ble_eq_true rfl) (Nat.le_of_ble_eq_true rfl) rfl (by exact Nat.le_of_ble_eq_true rfl) (fun x1 s2 hp => ?_)
  obtain ⟨hR, h⟩ := hp
  refine g_istore_2 (pc := 10) X dX11_first_10 (by decide) rfl ?_
  refine g_iload_2 (pc := 11) X dX11_first_11 ?_
  refine g_if_ge (pc := 12) X dX11_first_12 (tgt := 19) (by decide) (fun q3 => ?_) (fun q3 => ?_)
  · replace h := h.1 q3
    refine g_aload_0 (pc := 19) X dX11_first_19 ?_
    refine g_getRf (pc := 20) X dX11_first_20 fl_X11_89 rfl (by decide) rfl hR rfl ?_
    refine g_iload_1 (pc := 23) X dX11_first_23 ?_
    refine g_callV_I (pc := 24) X Y dX11_first_24 miX10_heapOf li_X11_316 (t_X10_heapOf hR  h) rfl (by decide) rfl ⟨_, rfl⟩ rfl ⟨Nat.le_of_ble_eq_true rfl, Nat.le_of_ble_eq_true rfl⟩ (Nat.le_of_ble_eq_true rfl) (Nat.le_of_ble_eq_true rfl) rfl (by exact Nat.le_of_ble_eq_true rfl) (fun x4 σ9 hp => ?_)
    obtain ⟨rfl, h⟩ := hp
    exact g_ireturn (pc := 27) X Y dX11_first_27 (Nat.le_of_ble_eq_true rfl) (Nat.le_of_ble_eq_true rfl) ⟨_, rfl, hR, h⟩
  · replace h := h.2 q3
    refine g_iload_2 (pc := 15) X dX11_first_15 ?_
    refine g_goto (pc := 16) X dX11_first_16 (tgt := 27) (by decide) ?_
    exact g_ireturn (pc := 27) X Y dX11_first_27 (Nat.le_of_ble_eq_true rfl) (Nat.le_of_ble_eq_true rfl) ⟨_, rfl, hR, h⟩
def L_X11_solveAmong_22 (k1 : Nat) (Q : Int64 → gSt → Prop)  (K : Int64 → Int32 → gSt → Prop) : Nat → Int64 → Int32 → Int32 → gSt → Prop
  | 0, _, _, _, _ => False
  | n22 + 1, v4, v5, v6, s7 => (((s7.1 1 0) ≤ v6 → (K v4 v5 s7)) ∧ (¬ (s7.1 1 0) ≤ v6 → (rI s7 47 30 v6 (fun x12 => ((x12 = v6 → (W_X6_membersWith v6 (fun x14 => W_X11_solve x14 (fun x15 s16 => ((x15 = ((-1 : Int32)) → (Q ((-1 : Int64)) s16)) ∧ (¬ x15 = ((-1 : Int32)) → (((x15 = ((-2 : Int32)) → (L_X11_solveAmong_22 k1 Q K n22 v4 (nI 1) (v6 + nI 1) s16)) ∧ (¬ x15 = ((-2 : Int32)) → (W_X10_list (fun s19 => W_X10_copyFirst k1 (fun s20 => L_X11_solveAmong_22 k1 Q K n22 (v4 + (i2l (s16.1 56 0))) v5 (v6 + nI 1) s20) s19) s16))))))) s7) s7)) ∧ (¬ x12 = v6 → (L_X11_solveAmong_22 k1 Q K n22 v4 v5 (v6 + nI 1) s7)))))))
def W_X11_solveAmong (p0 : Int32) (k1 : Nat) (Q : Int64 → gSt → Prop) (σ : gSt) : Prop := W_X6_find p0 (fun x1 s2 => W_J7_fill_53178 k1 ((-1 : Int32)) (fun s3 => ∃ m22, L_X11_solveAmong_22 k1 Q (fun y22 y23 s24 => ((y23 = 0 → (Q y22 s24)) ∧ (¬ y23 = 0 → (Q ((-2 : Int64)) s24)))) m22 (lN 0) (nI 0) (nI 0) s3) s2) σ
set_option maxHeartbeats 4000000 in
theorem t_X11_solveAmong {o : gOm} {l : Launch} {b : Bool}   {σ : gSt} (hR : σ.2.2 = gRf b) {p0 : Int32} {k1 : Nat} {Q : Int64 → gSt → Prop} (hk1 : k1 < 116) (hk10 : (lay k1).1 = 0) (h : W_X11_solveAmong p0 k1 Q σ) : Sp o l mX11_solveAmong 29 0 0 [.ref (ad o 0), .int p0, .ref (ad o k1)] 116 116 σ (pL (fun x s => s.2.2 = gRf b ∧ Q x s)) := by
  have hk1y : lay k1 = (0, (lay k1).2) := Prod.ext hk10 rfl
  unfold W_X11_solveAmong at h
  refine Sp.of (ls0 := [some (.ref (ad o 0)), some (.int p0), some (.ref (ad o k1)), none, none, none, none, none]) miX11_solveAmong rfl (Nat.le_of_ble_eq_true rfl) rfl (fun γ hγ hnm X Y => ?_)
  subst hγ
  have X : gX o γ cX11_solveAmong 8 RX11 := X
  refine g_aload_0 (pc := 0) X dX11_solveAmong_0 ?_
  refine g_getRf (pc := 1) X dX11_solveAmong_1 fl_X11_73 rfl (by decide) rfl hR rfl ?_
  refine g_iload_1 (pc := 4) X dX11_solveAmong_4 ?_
  refine g_callV_I (pc := 5) X Y dX11_solveAmong_5 miX6_find li_X11_374 (t_X6_find hR  h) rfl (by decide) rfl ⟨_, rfl⟩ rfl ⟨Nat.le_of_ble_eq_true rfl, Nat.le_of_ble_eq_true rfl⟩ (Nat.le_of_ble_eq_true rfl) (Nat.le_of_ble_eq_true rfl) rfl (by exact Nat.le_of_ble_eq_true rfl) (fun x1 s2 hp => ?_)
  obtain ⟨hR, h⟩ := hp
  refine g_pop (pc := 8) X dX11_solveAmong_8 rfl ?_
  refine g_aload_2 (pc := 9) X dX11_solveAmong_9 ?_
  refine g_iconst (pc := 10) X dX11_solveAmong_10 kiconst_m1 ?_
  refine g_callS_V (pc := 11) X Y dX11_solveAmong_11 miJ7_fill_53178 li_X11_398 (t_J7_fill_53178 hR hk1 (by rw [hk1y]) h) rfl ⟨Nat.le_of_ble_eq_true rfl, Nat.le_of_ble_eq_true rfl⟩ (Nat.le_of_ble_eq_true rfl) (Nat.le_of_ble_eq_true rfl) rfl (by exact Nat.le_of_ble_eq_true rfl) (fun s3 hp => ?_)
  obtain ⟨hR, h⟩ := hp
  refine g_lconst (pc := 14) X dX11_solveAmong_14 (v := lN 0) rfl ?_
  refine g_lstore_3 (pc := 15) X dX11_solveAmong_15 (by decide) rfl ?_
  refine g_iconst (pc := 16) X dX11_solveAmong_16 kiconst_0 ?_
  refine g_istore_5 (pc := 17) X dX11_solveAmong_17 (by decide) rfl ?_
  refine g_iconst (pc := 19) X dX11_solveAmong_19 kiconst_0 ?_
  refine g_istore_6 (pc := 20) X dX11_solveAmong_20 (by decide) rfl ?_
  obtain ⟨n21, h⟩ := h
  have hL : ∀  (K : Int64 → Int32 → gSt → Prop) (_ : ∀ (y8 : Int64) (y9 : Int32) (s10 : gSt), s10.2.2 = gRf b → K y8 y9 s10 → G o γ 0 0 116 s10 122 [some (.ref (ad o 0)), none, some (.ref (ad o k1)), some (.long y8), none, some (.int y9), none, none] []) (n : Nat) (v4 : Int64) (v5 : Int32) (v6 : Int32) (s7 : gSt), s7.2.2 = gRf b → L_X11_solveAmong_22 k1 Q K n v4 v5 v6 s7 → G o γ 0 0 116 s7 22 [some (.ref (ad o 0)), none, some (.ref (ad o k1)), some (.long v4), none, some (.int v5), some (.int v6), none] [] := by
    intro K hK n
    induction n with
    | zero => intro v4 v5 v6 s7 hR h; exact False.elim h
    | succ n ih =>
      intro v4 v5 v6 s7 hR h
      rw [L_X11_solveAmong_22] at h
      refine g_iload_6 (pc := 22) X dX11_solveAmong_22 ?_
      refine g_aload_0 (pc := 24) X dX11_solveAmong_24 ?_
      refine g_getRf (pc := 25) X dX11_solveAmong_25 fl_X11_12 rfl (by decide) rfl hR rfl ?_
      refine g_getI (pc := 28) X dX11_solveAmong_28 rfl (by decide) fl_X11_108 (Or.inl rfl) ?_
      refine g_icmp_ge (pc := 31) X dX11_solveAmong_31 (tgt := 122) (by decide) (fun q11 => ?_) (fun q11 => ?_)
      · replace h := h.1 q11
        exact g_drop (by simp [lsub]) (hK v4 v5 s7 hR h)
      · replace h := h.2 q11
        refine g_aload_0 (pc := 34) X dX11_solveAmong_34 ?_
        refine g_getRf (pc := 35) X dX11_solveAmong_35 fl_X11_73 rfl (by decide) rfl hR rfl ?_
        refine g_getRf (pc := 38) X dX11_solveAmong_38 fl_X11_404 rfl (by decide) rfl hR rfl ?_
        refine g_iload_6 (pc := 41) X dX11_solveAmong_41 ?_
        refine g_iaload_w (pc := 43) X dX11_solveAmong_43 rfl (by decide) h (fun x12 h => ?_)
        refine g_iload_6 (pc := 44) X dX11_solveAmong_44 ?_
        refine g_icmp_eq (pc := 46) X dX11_solveAmong_46 (tgt := 52) (by decide) (fun q13 => ?_) (fun q13 => ?_)
        · replace h := h.1 q13
          refine g_aload_0 (pc := 52) X dX11_solveAmong_52 ?_
          refine g_aload_0 (pc := 53) X dX11_solveAmong_53 ?_
          refine g_getRf (pc := 54) X dX11_solveAmong_54 fl_X11_73 rfl (by decide) rfl hR rfl ?_
          refine g_iload_6 (pc := 57) X dX11_solveAmong_57 ?_
          refine g_callV_I (pc := 59) X Y dX11_solveAmong_59 miX6_membersWith li_X11_386 (t_X6_membersWith hR  h) rfl (by decide) rfl ⟨_, rfl⟩ rfl ⟨Nat.le_of_ble_eq_true rfl, Nat.le_of_ble_eq_true rfl⟩ (Nat.le_of_ble_eq_true rfl) (Nat.le_of_ble_eq_true rfl) rfl (by exact Nat.le_of_ble_eq_true rfl) (fun x14 σ9 hp => ?_)
          obtain ⟨rfl, h⟩ := hp
          refine g_callV_I (pc := 62) X Y dX11_solveAmong_62 miX11_solve li_X11_305 (t_X11_solve hR  h) rfl (by decide) rfl ⟨_, rfl⟩ rfl ⟨Nat.le_of_ble_eq_true rfl, Nat.le_of_ble_eq_true rfl⟩ (Nat.le_of_ble_eq_true rfl) (Nat.le_of_ble_eq_true rfl) rfl (by exact Nat.le_of_ble_eq_true rfl) (fun x15 s16 hp => ?_)
          obtain ⟨hR, h⟩ := hp
          refine g_istore_7 (pc := 65) X dX11_solveAmong_65 (by decide) rfl ?_
          refine g_iload_7 (pc := 67) X dX11_solveAmong_67 ?_
          refine g_iconst (pc := 69) X dX11_solveAmong_69 kiconst_m1 ?_
          refine g_icmp_ne (pc := 70) X dX11_solveAmong_70 (tgt := 77) (by decide) (fun q17 => ?_) (fun q17 => ?_)
          · replace h := h.2 q17
            refine g_iload_7 (pc := 77) X dX11_solveAmong_77 ?_
            refine g_bipush (pc := 79) X dX11_solveAmong_79 kbipush_m2 ?_
            refine g_icmp_ne (pc := 81) X dX11_solveAmong_81 (tgt := 90) (by decide) (fun q18 => ?_) (fun q18 => ?_)
            · replace h := h.2 q18
              refine g_lload_3 (pc := 90) X dX11_solveAmong_90 ?_
              refine g_aload_0 (pc := 91) X dX11_solveAmong_91 ?_
              refine g_getRf (pc := 92) X dX11_solveAmong_92 fl_X11_89 rfl (by decide) rfl hR rfl ?_
              refine g_getI (pc := 95) X dX11_solveAmong_95 rfl (by decide) fl_X11_308 (Or.inl rfl) ?_
              refine g_i2l (pc := 98) X dX11_solveAmong_98 ?_
              refine g_ladd (pc := 99) X dX11_solveAmong_99 ?_
              refine g_lstore_3 (pc := 100) X dX11_solveAmong_100 (by decide) rfl ?_
              refine g_aload_0 (pc := 101) X dX11_solveAmong_101 ?_
              refine g_getRf (pc := 102) X dX11_solveAmong_102 fl_X11_89 rfl (by decide) rfl hR rfl ?_
              refine g_callV_V (pc := 105) X Y dX11_solveAmong_105 miX10_list li_X11_395 (t_X10_list hR  h) rfl (by decide) rfl ⟨_, rfl⟩ rfl ⟨Nat.le_of_ble_eq_true rfl, Nat.le_of_ble_eq_true rfl⟩ (Nat.le_of_ble_eq_true rfl) (Nat.le_of_ble_eq_true rfl) rfl (by exact Nat.le_of_ble_eq_true rfl) (fun s19 hp => ?_)
              obtain ⟨hR, h⟩ := hp
              refine g_aload_0 (pc := 108) X dX11_solveAmong_108 ?_
              refine g_getRf (pc := 109) X dX11_solveAmong_109 fl_X11_89 rfl (by decide) rfl hR rfl ?_
              refine g_aload_2 (pc := 112) X dX11_solveAmong_112 ?_
              refine g_callV_V (pc := 113) X Y dX11_solveAmong_113 miX10_copyFirst li_X11_407 (t_X10_copyFirst hR hk1 (by rw [hk1y]) h) rfl (by decide) rfl ⟨_, rfl⟩ rfl ⟨Nat.le_of_ble_eq_true rfl, Nat.le_of_ble_eq_true rfl⟩ (Nat.le_of_ble_eq_true rfl) (Nat.le_of_ble_eq_true rfl) rfl (by exact Nat.le_of_ble_eq_true rfl) (fun s20 hp => ?_)
              obtain ⟨hR, h⟩ := hp
              refine g_iinc_6 (pc := 116) X dX11_solveAmong_116 (v := v6 + nI 1) rfl (by decide) rfl ?_
              refine g_goto (pc := 119) X dX11_solveAmong_119 (tgt := 22) (by decide) ?_
              exact g_drop (by simp [lsub]) (ih (v4 + (i2l (s16.1 56 0))) v5 (v6 + nI 1) s20 hR h)
            · replace h := h.1 q18
              refine g_iconst (pc := 84) X dX11_solveAmong_84 kiconst_1 ?_
              refine g_istore_5 (pc := 85) X dX11_solveAmong_85 (by decide) rfl ?_
              refine g_goto (pc := 87) X dX11_solveAmong_87 (tgt := 116) (by decide) ?_
              refine g_iinc_6 (pc := 116) X dX11_solveAmong_116 (v := v6 + nI 1) rfl (by decide) rfl ?_
              refine g_goto (pc := 119) X dX11_solveAmong_119 (tgt := 22) (by decide) ?_
              exact g_drop (by simp [lsub]) (ih v4 (nI 1) (v6 + nI 1) s16 hR h)
          · replace h := h.1 q17
            refine g_ldc2 (pc := 73) X dX11_solveAmong_73 ct_X11_285 ?_
            exact g_lreturn (pc := 76) X Y dX11_solveAmong_76 (Nat.le_of_ble_eq_true rfl) (Nat.le_of_ble_eq_true rfl) ⟨_, rfl, hR, h⟩
        · replace h := h.2 q13
          refine g_goto (pc := 49) X dX11_solveAmong_49 (tgt := 116) (by decide) ?_
          refine g_iinc_6 (pc := 116) X dX11_solveAmong_116 (v := v6 + nI 1) rfl (by decide) rfl ?_
          refine g_goto (pc := 119) X dX11_solveAmong_119 (tgt := 22) (by decide) ?_
          exact ih v4 v5 (v6 + nI 1) s7 hR h
  refine g_drop (by simp [lsub]) (hL  _ (fun y22 y23 s24 hR h => ?_) n21 (lN 0) (nI 0) (nI 0) s3 hR h)
  · refine g_iload_5 (pc := 122) X dX11_solveAmong_122 ?_
    refine g_if_eq (pc := 124) X dX11_solveAmong_124 (tgt := 133) (by decide) (fun q25 => ?_) (fun q25 => ?_)
    · replace h := h.1 q25
      refine g_lload_3 (pc := 133) X dX11_solveAmong_133 ?_
      exact g_lreturn (pc := 134) X Y dX11_solveAmong_134 (Nat.le_of_ble_eq_true rfl) (Nat.le_of_ble_eq_true rfl) ⟨_, rfl, hR, h⟩
    · replace h := h.2 q25
      refine g_ldc2 (pc := 127) X dX11_solveAmong_127 ct_X11_291 ?_
      refine g_goto (pc := 130) X dX11_solveAmong_130 (tgt := 134) (by decide) ?_
      exact g_lreturn (pc := 134) X Y dX11_solveAmong_134 (Nat.le_of_ble_eq_true rfl) (Nat.le_of_ble_eq_true rfl) ⟨_, rfl, hR, h⟩
def W_X11_all  (Q : Int64 → gSt → Prop) (σ : gSt) : Prop := WPI mX1_everyone 1 (fun o => [.ref (ad o 1)]) (fun x1 => W_X11_solveAmong x1 63 (fun x2 s3 => Q x2 s3) σ) σ
set_option maxHeartbeats 4000000 in
theorem t_X11_all {o : gOm} {l : Launch} {b : Bool}   {σ : gSt} (hR : σ.2.2 = gRf b)  {Q : Int64 → gSt → Prop} (h : W_X11_all  Q σ) : Sp o l mX11_all 30 0 0 [.ref (ad o 0)] 116 116 σ (pL (fun x s => s.2.2 = gRf b ∧ Q x s)) := by
  unfold W_X11_all at h
  refine Sp.of (ls0 := [some (.ref (ad o 0))]) miX11_all rfl (Nat.le_of_ble_eq_true rfl) rfl (fun γ hγ hnm X Y => ?_)
  subst hγ
  have X : gX o γ cX11_all 1 RX11 := X
  refine g_aload_0 (pc := 0) X dX11_all_0 ?_
  refine g_aload_0 (pc := 1) X dX11_all_1 ?_
  refine g_getRf (pc := 2) X dX11_all_2 fl_X11_12 rfl (by decide) rfl hR rfl ?_
  refine g_callV_I (pc := 5) X Y dX11_all_5 miX1_everyone li_X11_319 (t_WPI hR  h) rfl (by decide) rfl ⟨_, rfl⟩ rfl ⟨Nat.le_of_ble_eq_true rfl, Nat.le_of_ble_eq_true rfl⟩ (Nat.le_of_ble_eq_true rfl) (Nat.le_of_ble_eq_true rfl) rfl (by exact Nat.le_of_ble_eq_true rfl) (fun x1 σ9 hp => ?_)
  obtain ⟨rfl, h⟩ := hp
  refine g_aload_0 (pc := 8) X dX11_all_8 ?_
  refine g_getRf (pc := 9) X dX11_all_9 fl_X11_93 rfl (by decide) rfl hR rfl ?_
  refine g_callV_L (pc := 12) X Y dX11_all_12 miX11_solveAmong li_X11_322 (t_X11_solveAmong hR (by decide) (by decide) h) rfl (by decide) rfl ⟨_, rfl⟩ rfl ⟨Nat.le_of_ble_eq_true rfl, Nat.le_of_ble_eq_true rfl⟩ (Nat.le_of_ble_eq_true rfl) (Nat.le_of_ble_eq_true rfl) rfl (by exact Nat.le_of_ble_eq_true rfl) (fun x2 s3 hp => ?_)
  obtain ⟨hR, h⟩ := hp
  exact g_lreturn (pc := 15) X Y dX11_all_15 (Nat.le_of_ble_eq_true rfl) (Nat.le_of_ble_eq_true rfl) ⟨_, rfl, hR, h⟩
def W_X11_take  (Q : Int32 → gSt → Prop) (σ : gSt) : Prop := WPI mX1_everyone 1 (fun o => [.ref (ad o 1)]) (fun x1 => W_X11_solveAmong x1 63 (fun x2 s3 => ((x2 < (lN 0) → (Q (l2i x2) s3)) ∧ (¬ x2 < (lN 0) → (WSV mX2_become 2 (fun o => [.ref (ad o 33), .ref (ad o 63)]) (fun s5 => Q (nI 1) s5) s3)))) σ) σ
set_option maxHeartbeats 4000000 in
theorem t_X11_take {o : gOm} {l : Launch} {b : Bool}   {σ : gSt} (hR : σ.2.2 = gRf b)  {Q : Int32 → gSt → Prop} (h : W_X11_take  Q σ) : Sp o l mX11_take 30 0 0 [.ref (ad o 0)] 116 116 σ (pI (fun x s => s.2.2 = gRf b ∧ Q x s)) := by
  unfold W_X11_take at h
  refine Sp.of (ls0 := [some (.ref (ad o 0)), none, none]) miX11_take rfl (Nat.le_of_ble_eq_true rfl) rfl (fun γ hγ hnm X Y => ?_)
  subst hγ
  have X : gX o γ cX11_take 3 RX11 := X
  refine g_aload_0 (pc := 0) X dX11_take_0 ?_
  refine g_aload_0 (pc := 1) X dX11_take_1 ?_
  refine g_getRf (pc := 2) X dX11_take_2 fl_X11_12 rfl (by decide) rfl hR rfl ?_
  refine g_callV_I (pc := 5) X Y dX11_take_5 miX1_everyone li_X11_319 (t_WPI hR  h) rfl (by decide) rfl ⟨_, rfl⟩ rfl ⟨Nat.le_of_ble_eq_true rfl, Nat.le_of_ble_eq_true rfl⟩ (Nat.le_of_ble_eq_true rfl) (Nat.le_of_ble_eq_true rfl) rfl (by exact Nat.le_of_ble_eq_true rfl) (fun x1 σ9 hp => ?_)
  obtain ⟨rfl, h⟩ := hp
  refine g_aload_0 (pc := 8) X dX11_take_8 ?_
  refine g_getRf (pc := 9) X dX11_take_9 fl_X11_93 rfl (by decide) rfl hR rfl ?_
  refine g_callV_L (pc := 12) X Y dX11_take_12 miX11_solveAmong li_X11_322 (t_X11_solveAmong hR (by decide) (by decide) h) rfl (by decide) rfl ⟨_, rfl⟩ rfl ⟨Nat.le_of_ble_eq_true rfl, Nat.le_of_ble_eq_true rfl⟩ (Nat.le_of_ble_eq_true rfl) (Nat.le_of_ble_eq_true rfl) rfl (by exact Nat.le_of_ble_eq_true rfl) (fun x2 s3 hp => ?_)
  obtain ⟨hR, h⟩ := hp
  refine g_lstore_1 (pc := 15) X dX11_take_15 (by decide) rfl ?_
  refine g_lload_1 (pc := 16) X dX11_take_16 ?_
  refine g_lconst (pc := 17) X dX11_take_17 (v := lN 0) rfl ?_
  refine g_lcmp_ge (pc := 18) X dX11_take_18 dX11_take_19 (tgt := 25) (by decide) (fun q4 => ?_) (fun q4 => ?_)
  · replace h := h.2 q4
    refine g_aload_0 (pc := 25) X dX11_take_25 ?_
    refine g_getRf (pc := 26) X dX11_take_26 fl_X11_48 rfl (by decide) rfl hR rfl ?_
    refine g_aload_0 (pc := 29) X dX11_take_29 ?_
    refine g_getRf (pc := 30) X dX11_take_30 fl_X11_93 rfl (by decide) rfl hR rfl ?_
    refine g_callV_V (pc := 33) X Y dX11_take_33 miX2_become li_X11_326 (t_WSV hR  h) rfl (by decide) rfl ⟨_, rfl⟩ rfl ⟨Nat.le_of_ble_eq_true rfl, Nat.le_of_ble_eq_true rfl⟩ (Nat.le_of_ble_eq_true rfl) (Nat.le_of_ble_eq_true rfl) rfl (by exact Nat.le_of_ble_eq_true rfl) (fun s5 hp => ?_)
    obtain ⟨hR, h⟩ := hp
    refine g_iconst (pc := 36) X dX11_take_36 kiconst_1 ?_
    exact g_ireturn (pc := 37) X Y dX11_take_37 (Nat.le_of_ble_eq_true rfl) (Nat.le_of_ble_eq_true rfl) ⟨_, rfl, hR, h⟩
  · replace h := h.1 q4
    refine g_lload_1 (pc := 22) X dX11_take_22 ?_
    refine g_l2i (pc := 23) X dX11_take_23 ?_
    exact g_ireturn (pc := 24) X Y dX11_take_24 (Nat.le_of_ble_eq_true rfl) (Nat.le_of_ble_eq_true rfl) ⟨_, rfl, hR, h⟩
def W_X11_always (p0 : Int32) (p1 : Int32) (Q : Int32 → gSt → Prop) (QX : String → gSt → Prop) (σ : gSt) : Prop := W_X11_needPair p0 p1 (W_X11_listPartOf p0 (fun x1 s2 => ((0 ≤ x1 → (W_X10_togetherness p0 p1 (fun x4 => Q x4 s2) s2)) ∧ (¬ 0 ≤ x1 → (Q ((-2 : Int32)) s2)))) σ) QX σ
set_option maxHeartbeats 4000000 in
theorem t_X11_always {o : gOm} {l : Launch} {b : Bool}   {σ : gSt} (hst : l.stackTraces = false) (hR : σ.2.2 = gRf b) {p0 : Int32} {p1 : Int32} {Q : Int32 → gSt → Prop} {QX : String → gSt → Prop} (h : W_X11_always p0 p1 Q QX σ) : SpX o l mX11_always 30 3 18 [.ref (ad o 0), .int p0, .int p1] 116 σ (pI (fun x s => s.2.2 = gRf b ∧ Q x s)) (fun E s => s.2.2 = gRf b ∧ QX E s) := by
  unfold W_X11_always at h
  refine SpX.of (ls0 := [some (.ref (ad o 0)), some (.int p0), some (.int p1)]) hst miX11_always rfl (Nat.le_of_ble_eq_true rfl) rfl (fun γ hγ X Y T => ?_)
  subst hγ
  have X : gX o γ cX11_always 3 RX11 := X
  refine g_aload_0 (pc := 0) X dX11_always_0 ?_
  refine g_iload_1 (pc := 1) X dX11_always_1 ?_
  refine g_iload_2 (pc := 2) X dX11_always_2 ?_
  refine g_callVX_V (pc := 3) X Y dX11_always_3 miX11_needPair li_X11_178 (t_X11_needPair hst hR  h) rfl (by decide) rfl ⟨_, rfl⟩ rfl ⟨Nat.le_of_ble_eq_true rfl, Nat.le_of_ble_eq_true rfl⟩ ⟨Nat.le_of_ble_eq_true rfl, Nat.le_of_ble_eq_true rfl⟩ (by exact Nat.le_of_ble_eq_true rfl) rfl (fun E σ9 hp => g_out X T hp (Nat.le_of_ble_eq_true rfl) (Nat.le_of_ble_eq_true rfl)) (fun σ9 hp => ?_)
  obtain ⟨rfl, h⟩ := hp
  refine g_aload_0 (pc := 6) X dX11_always_6 ?_
  refine g_iload_1 (pc := 7) X dX11_always_7 ?_
  refine g_callV_I (pc := 8) X Y dX11_always_8 miX11_listPartOf li_X11_310 (t_X11_listPartOf hR  h) rfl (by decide) rfl ⟨_, rfl⟩ rfl ⟨Nat.le_of_ble_eq_true rfl, Nat.le_of_ble_eq_true rfl⟩ (Nat.le_of_ble_eq_true rfl) (Nat.le_of_ble_eq_true rfl) rfl (by exact Nat.le_of_ble_eq_true rfl) (fun x1 s2 hp => ?_)
  obtain ⟨hR, h⟩ := hp
  refine g_if_ge (pc := 11) X dX11_always_11 (tgt := 19) (by decide) (fun q3 => ?_) (fun q3 => ?_)
  · replace h := h.1 q3
    refine g_aload_0 (pc := 19) X dX11_always_19 ?_
    refine g_getRf (pc := 20) X dX11_always_20 fl_X11_89 rfl (by decide) rfl hR rfl ?_
    refine g_iload_1 (pc := 23) X dX11_always_23 ?_
    refine g_iload_2 (pc := 24) X dX11_always_24 ?_
    refine g_callV_I (pc := 25) X Y dX11_always_25 miX10_togetherness li_X11_330 (t_X10_togetherness hR  h) rfl (by decide) rfl ⟨_, rfl⟩ rfl ⟨Nat.le_of_ble_eq_true rfl, Nat.le_of_ble_eq_true rfl⟩ (Nat.le_of_ble_eq_true rfl) (Nat.le_of_ble_eq_true rfl) rfl (by exact Nat.le_of_ble_eq_true rfl) (fun x4 σ9 hp => ?_)
    obtain ⟨rfl, h⟩ := hp
    exact g_ireturn (pc := 28) X Y dX11_always_28 (Nat.le_of_ble_eq_true rfl) (Nat.le_of_ble_eq_true rfl) ⟨_, rfl, hR, h⟩
  · replace h := h.2 q3
    refine g_bipush (pc := 14) X dX11_always_14 kbipush_m2 ?_
    refine g_goto (pc := 16) X dX11_always_16 (tgt := 28) (by decide) ?_
    exact g_ireturn (pc := 28) X Y dX11_always_28 (Nat.le_of_ble_eq_true rfl) (Nat.le_of_ble_eq_true rfl) ⟨_, rfl, hR, h⟩
def W_X11_edgeOf (p0 : Int32) (p1 : Int32) (Q : Int64 → gSt → Prop) (σ : gSt) : Prop := W_X11_membersOfPart p0 (fun x1 s2 => W_J6_bitCount_0f7a4 x1 (fun x3 => ∀ J4 : Prop, ((Q ((-2147483648 : Int64)) s2) → J4) → (((nI 10) < x3 → J4) ∧ (¬ (nI 10) < x3 → (((((ushr x1 p1) &&& (nI 1)) = 0 → J4) ∧ (¬ ((ushr x1 p1) &&& (nI 1)) = 0 → (W_X5_load x1 (fun s7 => W_X5_settle p0 p1 (nI 1) (fun s8 => W_X10_measure (fun x9 s10 => ((x9 = 0 → (Q ((-2147483648 : Int64)) s10)) ∧ (¬ x9 = 0 → (W_X5_load x1 (fun s12 => W_X5_settle p0 p1 (nI 0) (fun s13 => W_X10_measure (fun x14 s15 => ((x14 = 0 → (Q ((-2147483648 : Int64)) s15)) ∧ (¬ x14 = 0 → (Q ((i2l (s15.1 56 0)) - (i2l (s10.1 56 0))) s15)))) s13) s12) s10)))) s8) s7) s2))))))) s2) σ
set_option maxHeartbeats 4000000 in
theorem t_X11_edgeOf {o : gOm} {l : Launch} {b : Bool}   {σ : gSt} (hR : σ.2.2 = gRf b) {p0 : Int32} {p1 : Int32} {Q : Int64 → gSt → Prop} (h : W_X11_edgeOf p0 p1 Q σ) : Sp o l mX11_edgeOf 28 0 0 [.ref (ad o 0), .int p0, .int p1] 116 116 σ (pL (fun x s => s.2.2 = gRf b ∧ Q x s)) := by
  unfold W_X11_edgeOf at h
  refine Sp.of (ls0 := [some (.ref (ad o 0)), some (.int p0), some (.int p1), none, none, none]) miX11_edgeOf rfl (Nat.le_of_ble_eq_true rfl) rfl (fun γ hγ hnm X Y => ?_)
  subst hγ
  have X : gX o γ cX11_edgeOf 6 RX11 := X
  refine g_aload_0 (pc := 0) X dX11_edgeOf_0 ?_
  refine g_iload_1 (pc := 1) X dX11_edgeOf_1 ?_
  refine g_callV_I (pc := 2) X Y dX11_edgeOf_2 miX11_membersOfPart li_X11_136 (t_X11_membersOfPart hR  h) rfl (by decide) rfl ⟨_, rfl⟩ rfl ⟨Nat.le_of_ble_eq_true rfl, Nat.le_of_ble_eq_true rfl⟩ (Nat.le_of_ble_eq_true rfl) (Nat.le_of_ble_eq_true rfl) rfl (by exact Nat.le_of_ble_eq_true rfl) (fun x1 s2 hp => ?_)
  obtain ⟨hR, h⟩ := hp
  refine g_istore_3 (pc := 5) X dX11_edgeOf_5 (by decide) rfl ?_
  refine g_iload_3 (pc := 6) X dX11_edgeOf_6 ?_
  refine g_callS_I (pc := 7) X Y dX11_edgeOf_7 miJ6_bitCount_0f7a4 li_X11_143 (t_J6_bitCount_0f7a4 hR  h) rfl ⟨Nat.le_of_ble_eq_true rfl, Nat.le_of_ble_eq_true rfl⟩ (Nat.le_of_ble_eq_true rfl) (Nat.le_of_ble_eq_true rfl) rfl (by exact Nat.le_of_ble_eq_true rfl) (fun x3 σ9 hp => ?_)
  obtain ⟨rfl, h⟩ := hp
  refine g_bipush (pc := 10) X dX11_edgeOf_10 kbipush_10 ?_
  replace h := h (G o γ 0 0 116 s2 23 [none, none, none, none, none, none] []) (by
      intro  h
      refine g_ldc2 (pc := 23) X dX11_edgeOf_23 ct_X11_245 ?_
      exact g_lreturn (pc := 26) X Y dX11_edgeOf_26 (Nat.le_of_ble_eq_true rfl) (Nat.le_of_ble_eq_true rfl) ⟨_, rfl, hR, h⟩)
  refine g_icmp_gt (pc := 12) X dX11_edgeOf_12 (tgt := 23) (by decide) (fun q5 => ?_) (fun q5 => ?_)
  · replace h := h.1 q5
    exact g_drop (by simp [lsub]) (h)
  · replace h := h.2 q5
    refine g_iload_3 (pc := 15) X dX11_edgeOf_15 ?_
    refine g_iload_2 (pc := 16) X dX11_edgeOf_16 ?_
    refine g_iushr (pc := 17) X dX11_edgeOf_17 ?_
    refine g_iconst (pc := 18) X dX11_edgeOf_18 kiconst_1 ?_
    refine g_iand (pc := 19) X dX11_edgeOf_19 ?_
    refine g_if_ne (pc := 20) X dX11_edgeOf_20 (tgt := 27) (by decide) (fun q6 => ?_) (fun q6 => ?_)
    · replace h := h.2 q6
      refine g_aload_0 (pc := 27) X dX11_edgeOf_27 ?_
      refine g_getRf (pc := 28) X dX11_edgeOf_28 fl_X11_80 rfl (by decide) rfl hR rfl ?_
      refine g_iload_3 (pc := 31) X dX11_edgeOf_31 ?_
      refine g_callV_V (pc := 32) X Y dX11_edgeOf_32 miX5_load li_X11_389 (t_X5_load hR  h) rfl (by decide) rfl ⟨_, rfl⟩ rfl ⟨Nat.le_of_ble_eq_true rfl, Nat.le_of_ble_eq_true rfl⟩ (Nat.le_of_ble_eq_true rfl) (Nat.le_of_ble_eq_true rfl) rfl (by exact Nat.le_of_ble_eq_true rfl) (fun s7 hp => ?_)
      obtain ⟨hR, h⟩ := hp
      refine g_aload_0 (pc := 35) X dX11_edgeOf_35 ?_
      refine g_getRf (pc := 36) X dX11_edgeOf_36 fl_X11_80 rfl (by decide) rfl hR rfl ?_
      refine g_iload_1 (pc := 39) X dX11_edgeOf_39 ?_
      refine g_iload_2 (pc := 40) X dX11_edgeOf_40 ?_
      refine g_iconst (pc := 41) X dX11_edgeOf_41 kiconst_1 ?_
      refine g_callV_V (pc := 42) X Y dX11_edgeOf_42 miX5_settle li_X11_410 (t_X5_settle hR  h) rfl (by decide) rfl ⟨_, rfl⟩ rfl ⟨Nat.le_of_ble_eq_true rfl, Nat.le_of_ble_eq_true rfl⟩ (Nat.le_of_ble_eq_true rfl) (Nat.le_of_ble_eq_true rfl) rfl (by exact Nat.le_of_ble_eq_true rfl) (fun s8 hp => ?_)
      obtain ⟨hR, h⟩ := hp
      refine g_aload_0 (pc := 45) X dX11_edgeOf_45 ?_
      refine g_getRf (pc := 46) X dX11_edgeOf_46 fl_X11_89 rfl (by decide) rfl hR rfl ?_
      refine g_callV_I (pc := 49) X Y dX11_edgeOf_49 miX10_measure li_X11_392 (t_X10_measure hR  h) rfl (by decide) rfl ⟨_, rfl⟩ rfl ⟨Nat.le_of_ble_eq_true rfl, Nat.le_of_ble_eq_true rfl⟩ (Nat.le_of_ble_eq_true rfl) (Nat.le_of_ble_eq_true rfl) rfl (by exact Nat.le_of_ble_eq_true rfl) (fun x9 s10 hp => ?_)
      obtain ⟨hR, h⟩ := hp
      refine g_if_ne (pc := 52) X dX11_edgeOf_52 (tgt := 59) (by decide) (fun q11 => ?_) (fun q11 => ?_)
      · replace h := h.2 q11
        refine g_aload_0 (pc := 59) X dX11_edgeOf_59 ?_
        refine g_getRf (pc := 60) X dX11_edgeOf_60 fl_X11_89 rfl (by decide) rfl hR rfl ?_
        refine g_getI (pc := 63) X dX11_edgeOf_63 rfl (by decide) fl_X11_308 (Or.inl rfl) ?_
        refine g_i2l (pc := 66) X dX11_edgeOf_66 ?_
        refine g_lstore_4 (pc := 67) X dX11_edgeOf_67 (by decide) rfl ?_
        refine g_aload_0 (pc := 69) X dX11_edgeOf_69 ?_
        refine g_getRf (pc := 70) X dX11_edgeOf_70 fl_X11_80 rfl (by decide) rfl hR rfl ?_
        refine g_iload_3 (pc := 73) X dX11_edgeOf_73 ?_
        refine g_callV_V (pc := 74) X Y dX11_edgeOf_74 miX5_load li_X11_389 (t_X5_load hR  h) rfl (by decide) rfl ⟨_, rfl⟩ rfl ⟨Nat.le_of_ble_eq_true rfl, Nat.le_of_ble_eq_true rfl⟩ (Nat.le_of_ble_eq_true rfl) (Nat.le_of_ble_eq_true rfl) rfl (by exact Nat.le_of_ble_eq_true rfl) (fun s12 hp => ?_)
        obtain ⟨hR, h⟩ := hp
        refine g_aload_0 (pc := 77) X dX11_edgeOf_77 ?_
        refine g_getRf (pc := 78) X dX11_edgeOf_78 fl_X11_80 rfl (by decide) rfl hR rfl ?_
        refine g_iload_1 (pc := 81) X dX11_edgeOf_81 ?_
        refine g_iload_2 (pc := 82) X dX11_edgeOf_82 ?_
        refine g_iconst (pc := 83) X dX11_edgeOf_83 kiconst_0 ?_
        refine g_callV_V (pc := 84) X Y dX11_edgeOf_84 miX5_settle li_X11_410 (t_X5_settle hR  h) rfl (by decide) rfl ⟨_, rfl⟩ rfl ⟨Nat.le_of_ble_eq_true rfl, Nat.le_of_ble_eq_true rfl⟩ (Nat.le_of_ble_eq_true rfl) (Nat.le_of_ble_eq_true rfl) rfl (by exact Nat.le_of_ble_eq_true rfl) (fun s13 hp => ?_)
        obtain ⟨hR, h⟩ := hp
        refine g_aload_0 (pc := 87) X dX11_edgeOf_87 ?_
        refine g_getRf (pc := 88) X dX11_edgeOf_88 fl_X11_89 rfl (by decide) rfl hR rfl ?_
        refine g_callV_I (pc := 91) X Y dX11_edgeOf_91 miX10_measure li_X11_392 (t_X10_measure hR  h) rfl (by decide) rfl ⟨_, rfl⟩ rfl ⟨Nat.le_of_ble_eq_true rfl, Nat.le_of_ble_eq_true rfl⟩ (Nat.le_of_ble_eq_true rfl) (Nat.le_of_ble_eq_true rfl) rfl (by exact Nat.le_of_ble_eq_true rfl) (fun x14 s15 hp => ?_)
        obtain ⟨hR, h⟩ := hp
        refine g_if_eq (pc := 94) X dX11_edgeOf_94 (tgt := 111) (by decide) (fun q16 => ?_) (fun q16 => ?_)
        · replace h := h.1 q16
          refine g_ldc2 (pc := 111) X dX11_edgeOf_111 ct_X11_245 ?_
          exact g_lreturn (pc := 114) X Y dX11_edgeOf_114 (Nat.le_of_ble_eq_true rfl) (Nat.le_of_ble_eq_true rfl) ⟨_, rfl, hR, h⟩
        · replace h := h.2 q16
          refine g_aload_0 (pc := 97) X dX11_edgeOf_97 ?_
          refine g_getRf (pc := 98) X dX11_edgeOf_98 fl_X11_89 rfl (by decide) rfl hR rfl ?_
          refine g_getI (pc := 101) X dX11_edgeOf_101 rfl (by decide) fl_X11_308 (Or.inl rfl) ?_
          refine g_i2l (pc := 104) X dX11_edgeOf_104 ?_
          refine g_lload_4 (pc := 105) X dX11_edgeOf_105 ?_
          refine g_lsub (pc := 107) X dX11_edgeOf_107 ?_
          refine g_goto (pc := 108) X dX11_edgeOf_108 (tgt := 114) (by decide) ?_
          exact g_lreturn (pc := 114) X Y dX11_edgeOf_114 (Nat.le_of_ble_eq_true rfl) (Nat.le_of_ble_eq_true rfl) ⟨_, rfl, hR, h⟩
      · replace h := h.1 q11
        refine g_ldc2 (pc := 55) X dX11_edgeOf_55 ct_X11_245 ?_
        exact g_lreturn (pc := 58) X Y dX11_edgeOf_58 (Nat.le_of_ble_eq_true rfl) (Nat.le_of_ble_eq_true rfl) ⟨_, rfl, hR, h⟩
    · replace h := h.1 q6
      exact g_drop (by simp [lsub]) (h)
def W_X11_edge (p0 : Int32) (p1 : Int32) (Q : Int64 → gSt → Prop) (QX : String → gSt → Prop) (σ : gSt) : Prop := W_X11_needPair p0 p1 (W_X11_edgeOf p0 p1 (fun x1 s2 => Q x1 s2) σ) QX σ
set_option maxHeartbeats 4000000 in
theorem t_X11_edge {o : gOm} {l : Launch} {b : Bool}   {σ : gSt} (hst : l.stackTraces = false) (hR : σ.2.2 = gRf b) {p0 : Int32} {p1 : Int32} {Q : Int64 → gSt → Prop} {QX : String → gSt → Prop} (h : W_X11_edge p0 p1 Q QX σ) : SpX o l mX11_edge 29 3 18 [.ref (ad o 0), .int p0, .int p1] 116 σ (pL (fun x s => s.2.2 = gRf b ∧ Q x s)) (fun E s => s.2.2 = gRf b ∧ QX E s) := by
  unfold W_X11_edge at h
  refine SpX.of (ls0 := [some (.ref (ad o 0)), some (.int p0), some (.int p1)]) hst miX11_edge rfl (Nat.le_of_ble_eq_true rfl) rfl (fun γ hγ X Y T => ?_)
  subst hγ
  have X : gX o γ cX11_edge 3 RX11 := X
  refine g_aload_0 (pc := 0) X dX11_edge_0 ?_
  refine g_iload_1 (pc := 1) X dX11_edge_1 ?_
  refine g_iload_2 (pc := 2) X dX11_edge_2 ?_
  refine g_callVX_V (pc := 3) X Y dX11_edge_3 miX11_needPair li_X11_178 (t_X11_needPair hst hR  h) rfl (by decide) rfl ⟨_, rfl⟩ rfl ⟨Nat.le_of_ble_eq_true rfl, Nat.le_of_ble_eq_true rfl⟩ ⟨Nat.le_of_ble_eq_true rfl, Nat.le_of_ble_eq_true rfl⟩ (by exact Nat.le_of_ble_eq_true rfl) rfl (fun E σ9 hp => g_out X T hp (Nat.le_of_ble_eq_true rfl) (Nat.le_of_ble_eq_true rfl)) (fun σ9 hp => ?_)
  obtain ⟨rfl, h⟩ := hp
  refine g_aload_0 (pc := 6) X dX11_edge_6 ?_
  refine g_iload_1 (pc := 7) X dX11_edge_7 ?_
  refine g_iload_2 (pc := 8) X dX11_edge_8 ?_
  refine g_callV_L (pc := 9) X Y dX11_edge_9 miX11_edgeOf li_X11_333 (t_X11_edgeOf hR  h) rfl (by decide) rfl ⟨_, rfl⟩ rfl ⟨Nat.le_of_ble_eq_true rfl, Nat.le_of_ble_eq_true rfl⟩ (Nat.le_of_ble_eq_true rfl) (Nat.le_of_ble_eq_true rfl) rfl (by exact Nat.le_of_ble_eq_true rfl) (fun x1 s2 hp => ?_)
  obtain ⟨hR, h⟩ := hp
  exact g_lreturn (pc := 12) X Y dX11_edge_12 (Nat.le_of_ble_eq_true rfl) (Nat.le_of_ble_eq_true rfl) ⟨_, rfl, hR, h⟩
def W_X11_holds (p0 : Int32) (p1 : Int32) (p2 : Int32) (Q : Int32 → gSt → Prop) (QX : String → gSt → Prop) (σ : gSt) : Prop := W_X11_needPair p0 p1 (W_X11_isWithin p2 (nI 0) (nI 100) (fun x1 => W_X11_refuseUnless x1 (W_X11_edgeOf p0 p1 (fun x2 s3 => ((x2 = ((-2147483648 : Int64)) → (Q ((-2 : Int32)) s3)) ∧ (¬ x2 = ((-2147483648 : Int64)) → (W_X5_amounts (fun x5 => ((((((2 : Int64)) * (i2l p2)) * x5) < (((100 : Int64)) * x2) → (Q (nI 1) s3)) ∧ (¬ ((((2 : Int64)) * (i2l p2)) * x5) < (((100 : Int64)) * x2) → ((((((100 : Int64)) * x2) < (-((((2 : Int64)) * (i2l p2)) * x5)) → (Q ((-1 : Int32)) s3)) ∧ (¬ (((100 : Int64)) * x2) < (-((((2 : Int64)) * (i2l p2)) * x5)) → (Q (nI 0) s3))))))) s3)))) σ) QX σ) σ) QX σ
set_option maxHeartbeats 4000000 in
theorem t_X11_holds {o : gOm} {l : Launch} {b : Bool}   {σ : gSt} (hst : l.stackTraces = false) (hR : σ.2.2 = gRf b) {p0 : Int32} {p1 : Int32} {p2 : Int32} {Q : Int32 → gSt → Prop} {QX : String → gSt → Prop} (h : W_X11_holds p0 p1 p2 Q QX σ) : SpX o l mX11_holds 29 4 24 [.ref (ad o 0), .int p0, .int p1, .int p2] 116 σ (pI (fun x s => s.2.2 = gRf b ∧ Q x s)) (fun E s => s.2.2 = gRf b ∧ QX E s) := by
  unfold W_X11_holds at h
  refine SpX.of (ls0 := [some (.ref (ad o 0)), some (.int p0), some (.int p1), some (.int p2), none, none, none, none]) hst miX11_holds rfl (Nat.le_of_ble_eq_true rfl) rfl (fun γ hγ X Y T => ?_)
  subst hγ
  have X : gX o γ cX11_holds 8 RX11 := X
  refine g_aload_0 (pc := 0) X dX11_holds_0 ?_
  refine g_iload_1 (pc := 1) X dX11_holds_1 ?_
  refine g_iload_2 (pc := 2) X dX11_holds_2 ?_
  refine g_callVX_V (pc := 3) X Y dX11_holds_3 miX11_needPair li_X11_178 (t_X11_needPair hst hR  h) rfl (by decide) rfl ⟨_, rfl⟩ rfl ⟨Nat.le_of_ble_eq_true rfl, Nat.le_of_ble_eq_true rfl⟩ ⟨Nat.le_of_ble_eq_true rfl, Nat.le_of_ble_eq_true rfl⟩ (by exact Nat.le_of_ble_eq_true rfl) rfl (fun E σ9 hp => g_out X T hp (Nat.le_of_ble_eq_true rfl) (Nat.le_of_ble_eq_true rfl)) (fun σ9 hp => ?_)
  obtain ⟨rfl, h⟩ := hp
  refine g_iload_3 (pc := 6) X dX11_holds_6 ?_
  refine g_iconst (pc := 7) X dX11_holds_7 kiconst_0 ?_
  refine g_bipush (pc := 8) X dX11_holds_8 kbipush_100 ?_
  refine g_callS_I (pc := 10) X Y dX11_holds_10 miX11_isWithin li_X11_100 (t_X11_isWithin hR  h) rfl ⟨Nat.le_of_ble_eq_true rfl, Nat.le_of_ble_eq_true rfl⟩ (Nat.le_of_ble_eq_true rfl) (Nat.le_of_ble_eq_true rfl) rfl (by exact Nat.le_of_ble_eq_true rfl) (fun x1 σ9 hp => ?_)
  obtain ⟨rfl, h⟩ := hp
  refine g_callSX_V (pc := 13) X Y dX11_holds_13 miX11_refuseUnless li_X11_104 (t_X11_refuseUnless hst hR  h) rfl ⟨Nat.le_of_ble_eq_true rfl, Nat.le_of_ble_eq_true rfl⟩ ⟨Nat.le_of_ble_eq_true rfl, Nat.le_of_ble_eq_true rfl⟩ (by exact Nat.le_of_ble_eq_true rfl) rfl (fun E σ9 hp => g_out X T hp (Nat.le_of_ble_eq_true rfl) (Nat.le_of_ble_eq_true rfl)) (fun σ9 hp => ?_)
  obtain ⟨rfl, h⟩ := hp
  refine g_aload_0 (pc := 16) X dX11_holds_16 ?_
  refine g_iload_1 (pc := 17) X dX11_holds_17 ?_
  refine g_iload_2 (pc := 18) X dX11_holds_18 ?_
  refine g_callV_L (pc := 19) X Y dX11_holds_19 miX11_edgeOf li_X11_333 (t_X11_edgeOf hR  h) rfl (by decide) rfl ⟨_, rfl⟩ rfl ⟨Nat.le_of_ble_eq_true rfl, Nat.le_of_ble_eq_true rfl⟩ (Nat.le_of_ble_eq_true rfl) (Nat.le_of_ble_eq_true rfl) rfl (by exact Nat.le_of_ble_eq_true rfl) (fun x2 s3 hp => ?_)
  obtain ⟨hR, h⟩ := hp
  refine g_lstore_4 (pc := 22) X dX11_holds_22 (by decide) rfl ?_
  refine g_lload_4 (pc := 24) X dX11_holds_24 ?_
  refine g_ldc2 (pc := 26) X dX11_holds_26 ct_X11_245 ?_
  refine g_lcmp_ne (pc := 29) X dX11_holds_29 dX11_holds_30 (tgt := 36) (by decide) (fun q4 => ?_) (fun q4 => ?_)
  · replace h := h.2 q4
    refine g_ldc2 (pc := 36) X dX11_holds_36 ct_X11_337 ?_
    refine g_iload_3 (pc := 39) X dX11_holds_39 ?_
    refine g_i2l (pc := 40) X dX11_holds_40 ?_
    refine g_lmul (pc := 41) X dX11_holds_41 ?_
    refine g_aload_0 (pc := 42) X dX11_holds_42 ?_
    refine g_getRf (pc := 43) X dX11_holds_43 fl_X11_80 rfl (by decide) rfl hR rfl ?_
    refine g_callV_L (pc := 46) X Y dX11_holds_46 miX5_amounts li_X11_339 (t_X5_amounts hR  h) rfl (by decide) rfl ⟨_, rfl⟩ rfl ⟨Nat.le_of_ble_eq_true rfl, Nat.le_of_ble_eq_true rfl⟩ (Nat.le_of_ble_eq_true rfl) (Nat.le_of_ble_eq_true rfl) rfl (by exact Nat.le_of_ble_eq_true rfl) (fun x5 σ9 hp => ?_)
    obtain ⟨rfl, h⟩ := hp
    refine g_lmul (pc := 49) X dX11_holds_49 ?_
    refine g_lstore_6 (pc := 50) X dX11_holds_50 (by decide) rfl ?_
    refine g_ldc2 (pc := 52) X dX11_holds_52 ct_X11_342 ?_
    refine g_lload_4 (pc := 55) X dX11_holds_55 ?_
    refine g_lmul (pc := 57) X dX11_holds_57 ?_
    refine g_lload_6 (pc := 58) X dX11_holds_58 ?_
    refine g_lcmp_le (pc := 60) X dX11_holds_60 dX11_holds_61 (tgt := 68) (by decide) (fun q6 => ?_) (fun q6 => ?_)
    · replace h := h.2 q6
      refine g_ldc2 (pc := 68) X dX11_holds_68 ct_X11_342 ?_
      refine g_lload_4 (pc := 71) X dX11_holds_71 ?_
      refine g_lmul (pc := 73) X dX11_holds_73 ?_
      refine g_lload_6 (pc := 74) X dX11_holds_74 ?_
      refine g_lneg (pc := 76) X dX11_holds_76 ?_
      refine g_lcmp_ge (pc := 77) X dX11_holds_77 dX11_holds_78 (tgt := 85) (by decide) (fun q7 => ?_) (fun q7 => ?_)
      · replace h := h.2 q7
        refine g_iconst (pc := 85) X dX11_holds_85 kiconst_0 ?_
        exact g_ireturn (pc := 86) X Y dX11_holds_86 (Nat.le_of_ble_eq_true rfl) (Nat.le_of_ble_eq_true rfl) ⟨_, rfl, hR, h⟩
      · replace h := h.1 q7
        refine g_iconst (pc := 81) X dX11_holds_81 kiconst_m1 ?_
        refine g_goto (pc := 82) X dX11_holds_82 (tgt := 86) (by decide) ?_
        exact g_ireturn (pc := 86) X Y dX11_holds_86 (Nat.le_of_ble_eq_true rfl) (Nat.le_of_ble_eq_true rfl) ⟨_, rfl, hR, h⟩
    · replace h := h.1 q6
      refine g_iconst (pc := 64) X dX11_holds_64 kiconst_1 ?_
      refine g_goto (pc := 65) X dX11_holds_65 (tgt := 86) (by decide) ?_
      exact g_ireturn (pc := 86) X Y dX11_holds_86 (Nat.le_of_ble_eq_true rfl) (Nat.le_of_ble_eq_true rfl) ⟨_, rfl, hR, h⟩
  · replace h := h.1 q4
    refine g_bipush (pc := 33) X dX11_holds_33 kbipush_m2 ?_
    exact g_ireturn (pc := 35) X Y dX11_holds_35 (Nat.le_of_ble_eq_true rfl) (Nat.le_of_ble_eq_true rfl) ⟨_, rfl, hR, h⟩
def W_X11_asked (p0 : Int32) (Q : Int32 → gSt → Prop) (QX : String → gSt → Prop) (σ : gSt) : Prop := W_X11_needEntry p0 (W_X11_listPartOf p0 (fun x1 s2 => ((0 ≤ x1 → ((((s2.1 56 1) ≤ (nI 200) → (W_X10_question (fun x5 => Q x5 s2) s2)) ∧ (¬ (s2.1 56 1) ≤ (nI 200) → (Q ((-2 : Int32)) s2))))) ∧ (¬ 0 ≤ x1 → (Q x1 s2)))) σ) QX σ
set_option maxHeartbeats 4000000 in
theorem t_X11_asked {o : gOm} {l : Launch} {b : Bool}   {σ : gSt} (hst : l.stackTraces = false) (hR : σ.2.2 = gRf b) {p0 : Int32} {Q : Int32 → gSt → Prop} {QX : String → gSt → Prop} (h : W_X11_asked p0 Q QX σ) : SpX o l mX11_asked 30 1 6 [.ref (ad o 0), .int p0] 116 σ (pI (fun x s => s.2.2 = gRf b ∧ Q x s)) (fun E s => s.2.2 = gRf b ∧ QX E s) := by
  unfold W_X11_asked at h
  refine SpX.of (ls0 := [some (.ref (ad o 0)), some (.int p0), none]) hst miX11_asked rfl (Nat.le_of_ble_eq_true rfl) rfl (fun γ hγ X Y T => ?_)
  subst hγ
  have X : gX o γ cX11_asked 3 RX11 := X
  refine g_aload_0 (pc := 0) X dX11_asked_0 ?_
  refine g_iload_1 (pc := 1) X dX11_asked_1 ?_
  refine g_callVX_V (pc := 2) X Y dX11_asked_2 miX11_needEntry li_X11_126 (t_X11_needEntry hst hR  h) rfl (by decide) rfl ⟨_, rfl⟩ rfl ⟨Nat.le_of_ble_eq_true rfl, Nat.le_of_ble_eq_true rfl⟩ ⟨Nat.le_of_ble_eq_true rfl, Nat.le_of_ble_eq_true rfl⟩ (by exact Nat.le_of_ble_eq_true rfl) rfl (fun E σ9 hp => g_out X T hp (Nat.le_of_ble_eq_true rfl) (Nat.le_of_ble_eq_true rfl)) (fun σ9 hp => ?_)
  obtain ⟨rfl, h⟩ := hp
  refine g_aload_0 (pc := 5) X dX11_asked_5 ?_
  refine g_iload_1 (pc := 6) X dX11_asked_6 ?_
  refine g_callV_I (pc := 7) X Y dX11_asked_7 miX11_listPartOf li_X11_310 (t_X11_listPartOf hR  h) rfl (by decide) rfl ⟨_, rfl⟩ rfl ⟨Nat.le_of_ble_eq_true rfl, Nat.le_of_ble_eq_true rfl⟩ (Nat.le_of_ble_eq_true rfl) (Nat.le_of_ble_eq_true rfl) rfl (by exact Nat.le_of_ble_eq_true rfl) (fun x1 s2 hp => ?_)
  obtain ⟨hR, h⟩ := hp
  refine g_istore_2 (pc := 10) X dX11_asked_10 (by decide) rfl ?_
  refine g_iload_2 (pc := 11) X dX11_asked_11 ?_
  refine g_if_ge (pc := 12) X dX11_asked_12 (tgt := 17) (by decide) (fun q3 => ?_) (fun q3 => ?_)
  · replace h := h.1 q3
    refine g_aload_0 (pc := 17) X dX11_asked_17 ?_
    refine g_getRf (pc := 18) X dX11_asked_18 fl_X11_89 rfl (by decide) rfl hR rfl ?_
    refine g_getI (pc := 21) X dX11_asked_21 rfl (by decide) fl_X11_313 (Or.inl rfl) ?_
    refine g_sipush (pc := 24) X dX11_asked_24 ksipush_200 ?_
    refine g_icmp_le (pc := 27) X dX11_asked_27 (tgt := 35) (by decide) (fun q4 => ?_) (fun q4 => ?_)
    · replace h := h.1 q4
      refine g_aload_0 (pc := 35) X dX11_asked_35 ?_
      refine g_getRf (pc := 36) X dX11_asked_36 fl_X11_89 rfl (by decide) rfl hR rfl ?_
      refine g_callV_I (pc := 39) X Y dX11_asked_39 miX10_question li_X11_344 (t_X10_question hR  h) rfl (by decide) rfl ⟨_, rfl⟩ rfl ⟨Nat.le_of_ble_eq_true rfl, Nat.le_of_ble_eq_true rfl⟩ (Nat.le_of_ble_eq_true rfl) (Nat.le_of_ble_eq_true rfl) rfl (by exact Nat.le_of_ble_eq_true rfl) (fun x5 σ9 hp => ?_)
      obtain ⟨rfl, h⟩ := hp
      exact g_ireturn (pc := 42) X Y dX11_asked_42 (Nat.le_of_ble_eq_true rfl) (Nat.le_of_ble_eq_true rfl) ⟨_, rfl, hR, h⟩
    · replace h := h.2 q4
      refine g_bipush (pc := 30) X dX11_asked_30 kbipush_m2 ?_
      refine g_goto (pc := 32) X dX11_asked_32 (tgt := 42) (by decide) ?_
      exact g_ireturn (pc := 42) X Y dX11_asked_42 (Nat.le_of_ble_eq_true rfl) (Nat.le_of_ble_eq_true rfl) ⟨_, rfl, hR, h⟩
  · replace h := h.2 q3
    refine g_iload_2 (pc := 15) X dX11_asked_15 ?_
    exact g_ireturn (pc := 16) X Y dX11_asked_16 (Nat.le_of_ble_eq_true rfl) (Nat.le_of_ble_eq_true rfl) ⟨_, rfl, hR, h⟩
def W_X11_nearPartOf (p0 : Int32) (p1 : Int32) (Q : Int32 → gSt → Prop) (σ : gSt) : Prop := W_X11_membersOfPart p0 (fun x1 s2 => W_X11_solve x1 (fun x3 s4 => ((x3 ≤ 0 → (Q x3 s4)) ∧ (¬ x3 ≤ 0 → (W_X5_lookAt 34 (fun s6 => W_X10_approach p1 (fun s7 => Q x3 s7) s6) s4)))) s2) σ
set_option maxHeartbeats 4000000 in
theorem t_X11_nearPartOf {o : gOm} {l : Launch} {b : Bool}   {σ : gSt} (hR : σ.2.2 = gRf b) {p0 : Int32} {p1 : Int32} {Q : Int32 → gSt → Prop} (h : W_X11_nearPartOf p0 p1 Q σ) : Sp o l mX11_nearPartOf 29 0 0 [.ref (ad o 0), .int p0, .int p1] 116 116 σ (pI (fun x s => s.2.2 = gRf b ∧ Q x s)) := by
  unfold W_X11_nearPartOf at h
  refine Sp.of (ls0 := [some (.ref (ad o 0)), some (.int p0), some (.int p1), none]) miX11_nearPartOf rfl (Nat.le_of_ble_eq_true rfl) rfl (fun γ hγ hnm X Y => ?_)
  subst hγ
  have X : gX o γ cX11_nearPartOf 4 RX11 := X
  refine g_aload_0 (pc := 0) X dX11_nearPartOf_0 ?_
  refine g_aload_0 (pc := 1) X dX11_nearPartOf_1 ?_
  refine g_iload_1 (pc := 2) X dX11_nearPartOf_2 ?_
  refine g_callV_I (pc := 3) X Y dX11_nearPartOf_3 miX11_membersOfPart li_X11_136 (t_X11_membersOfPart hR  h) rfl (by decide) rfl ⟨_, rfl⟩ rfl ⟨Nat.le_of_ble_eq_true rfl, Nat.le_of_ble_eq_true rfl⟩ (Nat.le_of_ble_eq_true rfl) (Nat.le_of_ble_eq_true rfl) rfl (by exact Nat.le_of_ble_eq_true rfl) (fun x1 s2 hp => ?_)
  obtain ⟨hR, h⟩ := hp
  refine g_callV_I (pc := 6) X Y dX11_nearPartOf_6 miX11_solve li_X11_305 (t_X11_solve hR  h) rfl (by decide) rfl ⟨_, rfl⟩ rfl ⟨Nat.le_of_ble_eq_true rfl, Nat.le_of_ble_eq_true rfl⟩ (Nat.le_of_ble_eq_true rfl) (Nat.le_of_ble_eq_true rfl) rfl (by exact Nat.le_of_ble_eq_true rfl) (fun x3 s4 hp => ?_)
  obtain ⟨hR, h⟩ := hp
  refine g_istore_3 (pc := 9) X dX11_nearPartOf_9 (by decide) rfl ?_
  refine g_iload_3 (pc := 10) X dX11_nearPartOf_10 ?_
  refine g_if_le (pc := 11) X dX11_nearPartOf_11 (tgt := 36) (by decide) (fun q5 => ?_) (fun q5 => ?_)
  · replace h := h.1 q5
    refine g_iload_3 (pc := 36) X dX11_nearPartOf_36 ?_
    exact g_ireturn (pc := 37) X Y dX11_nearPartOf_37 (Nat.le_of_ble_eq_true rfl) (Nat.le_of_ble_eq_true rfl) ⟨_, rfl, hR, h⟩
  · replace h := h.2 q5
    refine g_aload_0 (pc := 14) X dX11_nearPartOf_14 ?_
    refine g_getRf (pc := 15) X dX11_nearPartOf_15 fl_X11_80 rfl (by decide) rfl hR rfl ?_
    refine g_aload_0 (pc := 18) X dX11_nearPartOf_18 ?_
    refine g_getRf (pc := 19) X dX11_nearPartOf_19 fl_X11_48 rfl (by decide) rfl hR rfl ?_
    refine g_getRf (pc := 22) X dX11_nearPartOf_22 fl_X11_133 rfl (by decide) rfl hR rfl ?_
    refine g_callV_V (pc := 25) X Y dX11_nearPartOf_25 miX5_lookAt li_X11_413 (t_X5_lookAt hR (by decide) (by decide) h) rfl (by decide) rfl ⟨_, rfl⟩ rfl ⟨Nat.le_of_ble_eq_true rfl, Nat.le_of_ble_eq_true rfl⟩ (Nat.le_of_ble_eq_true rfl) (Nat.le_of_ble_eq_true rfl) rfl (by exact Nat.le_of_ble_eq_true rfl) (fun s6 hp => ?_)
    obtain ⟨hR, h⟩ := hp
    refine g_aload_0 (pc := 28) X dX11_nearPartOf_28 ?_
    refine g_getRf (pc := 29) X dX11_nearPartOf_29 fl_X11_89 rfl (by decide) rfl hR rfl ?_
    refine g_iload_2 (pc := 32) X dX11_nearPartOf_32 ?_
    refine g_callV_V (pc := 33) X Y dX11_nearPartOf_33 miX10_approach li_X11_416 (t_X10_approach hR  h) rfl (by decide) rfl ⟨_, rfl⟩ rfl ⟨Nat.le_of_ble_eq_true rfl, Nat.le_of_ble_eq_true rfl⟩ (Nat.le_of_ble_eq_true rfl) (Nat.le_of_ble_eq_true rfl) rfl (by exact Nat.le_of_ble_eq_true rfl) (fun s7 hp => ?_)
    obtain ⟨hR, h⟩ := hp
    refine g_iload_3 (pc := 36) X dX11_nearPartOf_36 ?_
    exact g_ireturn (pc := 37) X Y dX11_nearPartOf_37 (Nat.le_of_ble_eq_true rfl) (Nat.le_of_ble_eq_true rfl) ⟨_, rfl, hR, h⟩
def W_X11_near (p0 : Int32) (p1 : Int32) (Q : Int32 → gSt → Prop) (QX : String → gSt → Prop) (σ : gSt) : Prop := W_X11_needEntry p0 (W_X11_isWithin p1 (nI 0) ((100000 : Int32)) (fun x1 => W_X11_refuseUnless x1 (W_X11_nearPartOf p0 p1 (fun x2 s3 => ((0 ≤ x2 → (Q (s3.1 56 2) s3)) ∧ (¬ 0 ≤ x2 → (Q x2 s3)))) σ) QX σ) σ) QX σ
set_option maxHeartbeats 4000000 in
theorem t_X11_near {o : gOm} {l : Launch} {b : Bool}   {σ : gSt} (hst : l.stackTraces = false) (hR : σ.2.2 = gRf b) {p0 : Int32} {p1 : Int32} {Q : Int32 → gSt → Prop} {QX : String → gSt → Prop} (h : W_X11_near p0 p1 Q QX σ) : SpX o l mX11_near 30 2 12 [.ref (ad o 0), .int p0, .int p1] 116 σ (pI (fun x s => s.2.2 = gRf b ∧ Q x s)) (fun E s => s.2.2 = gRf b ∧ QX E s) := by
  unfold W_X11_near at h
  refine SpX.of (ls0 := [some (.ref (ad o 0)), some (.int p0), some (.int p1), none]) hst miX11_near rfl (Nat.le_of_ble_eq_true rfl) rfl (fun γ hγ X Y T => ?_)
  subst hγ
  have X : gX o γ cX11_near 4 RX11 := X
  refine g_aload_0 (pc := 0) X dX11_near_0 ?_
  refine g_iload_1 (pc := 1) X dX11_near_1 ?_
  refine g_callVX_V (pc := 2) X Y dX11_near_2 miX11_needEntry li_X11_126 (t_X11_needEntry hst hR  h) rfl (by decide) rfl ⟨_, rfl⟩ rfl ⟨Nat.le_of_ble_eq_true rfl, Nat.le_of_ble_eq_true rfl⟩ ⟨Nat.le_of_ble_eq_true rfl, Nat.le_of_ble_eq_true rfl⟩ (by exact Nat.le_of_ble_eq_true rfl) rfl (fun E σ9 hp => g_out X T hp (Nat.le_of_ble_eq_true rfl) (Nat.le_of_ble_eq_true rfl)) (fun σ9 hp => ?_)
  obtain ⟨rfl, h⟩ := hp
  refine g_iload_2 (pc := 5) X dX11_near_5 ?_
  refine g_iconst (pc := 6) X dX11_near_6 kiconst_0 ?_
  refine g_ldcw (pc := 7) X dX11_near_7 ct_X11_347 ?_
  refine g_callS_I (pc := 10) X Y dX11_near_10 miX11_isWithin li_X11_100 (t_X11_isWithin hR  h) rfl ⟨Nat.le_of_ble_eq_true rfl, Nat.le_of_ble_eq_true rfl⟩ (Nat.le_of_ble_eq_true rfl) (Nat.le_of_ble_eq_true rfl) rfl (by exact Nat.le_of_ble_eq_true rfl) (fun x1 σ9 hp => ?_)
  obtain ⟨rfl, h⟩ := hp
  refine g_callSX_V (pc := 13) X Y dX11_near_13 miX11_refuseUnless li_X11_104 (t_X11_refuseUnless hst hR  h) rfl ⟨Nat.le_of_ble_eq_true rfl, Nat.le_of_ble_eq_true rfl⟩ ⟨Nat.le_of_ble_eq_true rfl, Nat.le_of_ble_eq_true rfl⟩ (by exact Nat.le_of_ble_eq_true rfl) rfl (fun E σ9 hp => g_out X T hp (Nat.le_of_ble_eq_true rfl) (Nat.le_of_ble_eq_true rfl)) (fun σ9 hp => ?_)
  obtain ⟨rfl, h⟩ := hp
  refine g_aload_0 (pc := 16) X dX11_near_16 ?_
  refine g_iload_1 (pc := 17) X dX11_near_17 ?_
  refine g_iload_2 (pc := 18) X dX11_near_18 ?_
  refine g_callV_I (pc := 19) X Y dX11_near_19 miX11_nearPartOf li_X11_348 (t_X11_nearPartOf hR  h) rfl (by decide) rfl ⟨_, rfl⟩ rfl ⟨Nat.le_of_ble_eq_true rfl, Nat.le_of_ble_eq_true rfl⟩ (Nat.le_of_ble_eq_true rfl) (Nat.le_of_ble_eq_true rfl) rfl (by exact Nat.le_of_ble_eq_true rfl) (fun x2 s3 hp => ?_)
  obtain ⟨hR, h⟩ := hp
  refine g_istore_3 (pc := 22) X dX11_near_22 (by decide) rfl ?_
  refine g_iload_3 (pc := 23) X dX11_near_23 ?_
  refine g_if_ge (pc := 24) X dX11_near_24 (tgt := 31) (by decide) (fun q4 => ?_) (fun q4 => ?_)
  · replace h := h.1 q4
    refine g_aload_0 (pc := 31) X dX11_near_31 ?_
    refine g_getRf (pc := 32) X dX11_near_32 fl_X11_89 rfl (by decide) rfl hR rfl ?_
    refine g_getI (pc := 35) X dX11_near_35 rfl (by decide) fl_X11_351 (Or.inl rfl) ?_
    exact g_ireturn (pc := 38) X Y dX11_near_38 (Nat.le_of_ble_eq_true rfl) (Nat.le_of_ble_eq_true rfl) ⟨_, rfl, hR, h⟩
  · replace h := h.2 q4
    refine g_iload_3 (pc := 27) X dX11_near_27 ?_
    refine g_goto (pc := 28) X dX11_near_28 (tgt := 38) (by decide) ?_
    exact g_ireturn (pc := 38) X Y dX11_near_38 (Nat.le_of_ble_eq_true rfl) (Nat.le_of_ble_eq_true rfl) ⟨_, rfl, hR, h⟩
def W_X11_nearest (p0 : Int32) (p1 : Int32) (Q : Int32 → gSt → Prop) (QX : String → gSt → Prop) (σ : gSt) : Prop := W_X11_needEntry p0 (W_X11_isWithin p1 (nI 0) ((100000 : Int32)) (fun x1 => W_X11_refuseUnless x1 (W_X11_nearPartOf p0 p1 (fun x2 s3 => ((0 ≤ x2 → (W_X10_heapOf p0 (fun x5 => Q x5 s3) s3)) ∧ (¬ 0 ≤ x2 → (Q x2 s3)))) σ) QX σ) σ) QX σ
set_option maxHeartbeats 4000000 in
theorem t_X11_nearest {o : gOm} {l : Launch} {b : Bool}   {σ : gSt} (hst : l.stackTraces = false) (hR : σ.2.2 = gRf b) {p0 : Int32} {p1 : Int32} {Q : Int32 → gSt → Prop} {QX : String → gSt → Prop} (h : W_X11_nearest p0 p1 Q QX σ) : SpX o l mX11_nearest 30 2 12 [.ref (ad o 0), .int p0, .int p1] 116 σ (pI (fun x s => s.2.2 = gRf b ∧ Q x s)) (fun E s => s.2.2 = gRf b ∧ QX E s) := by
  unfold W_X11_nearest at h
  refine SpX.of (ls0 := [some (.ref (ad o 0)), some (.int p0), some (.int p1), none]) hst miX11_nearest rfl (Nat.le_of_ble_eq_true rfl) rfl (fun γ hγ X Y T => ?_)
  subst hγ
  have X : gX o γ cX11_nearest 4 RX11 := X
  refine g_aload_0 (pc := 0) X dX11_nearest_0 ?_
  refine g_iload_1 (pc := 1) X dX11_nearest_1 ?_
  refine g_callVX_V (pc := 2) X Y dX11_nearest_2 miX11_needEntry li_X11_126 (t_X11_needEntry hst hR  h) rfl (by decide) rfl ⟨_, rfl⟩ rfl ⟨Nat.le_of_ble_eq_true rfl, Nat.le_of_ble_eq_true rfl⟩ ⟨Nat.le_of_ble_eq_true rfl, Nat.le_of_ble_eq_true rfl⟩ (by exact Nat.le_of_ble_eq_true rfl) rfl (fun E σ9 hp => g_out X T hp (Nat.le_of_ble_eq_true rfl) (Nat.le_of_ble_eq_true rfl)) (fun σ9 hp => ?_)
  obtain ⟨rfl, h⟩ := hp
  refine g_iload_2 (pc := 5) X dX11_nearest_5 ?_
  refine g_iconst (pc := 6) X dX11_nearest_6 kiconst_0 ?_
  refine g_ldcw (pc := 7) X dX11_nearest_7 ct_X11_347 ?_
  refine g_callS_I (pc := 10) X Y dX11_nearest_10 miX11_isWithin li_X11_100 (t_X11_isWithin hR  h) rfl ⟨Nat.le_of_ble_eq_true rfl, Nat.le_of_ble_eq_true rfl⟩ (Nat.le_of_ble_eq_true rfl) (Nat.le_of_ble_eq_true rfl) rfl (by exact Nat.le_of_ble_eq_true rfl) (fun x1 σ9 hp => ?_)
  obtain ⟨rfl, h⟩ := hp
  refine g_callSX_V (pc := 13) X Y dX11_nearest_13 miX11_refuseUnless li_X11_104 (t_X11_refuseUnless hst hR  h) rfl ⟨Nat.le_of_ble_eq_true rfl, Nat.le_of_ble_eq_true rfl⟩ ⟨Nat.le_of_ble_eq_true rfl, Nat.le_of_ble_eq_true rfl⟩ (by exact Nat.le_of_ble_eq_true rfl) rfl (fun E σ9 hp => g_out X T hp (Nat.le_of_ble_eq_true rfl) (Nat.le_of_ble_eq_true rfl)) (fun σ9 hp => ?_)
  obtain ⟨rfl, h⟩ := hp
  refine g_aload_0 (pc := 16) X dX11_nearest_16 ?_
  refine g_iload_1 (pc := 17) X dX11_nearest_17 ?_
  refine g_iload_2 (pc := 18) X dX11_nearest_18 ?_
  refine g_callV_I (pc := 19) X Y dX11_nearest_19 miX11_nearPartOf li_X11_348 (t_X11_nearPartOf hR  h) rfl (by decide) rfl ⟨_, rfl⟩ rfl ⟨Nat.le_of_ble_eq_true rfl, Nat.le_of_ble_eq_true rfl⟩ (Nat.le_of_ble_eq_true rfl) (Nat.le_of_ble_eq_true rfl) rfl (by exact Nat.le_of_ble_eq_true rfl) (fun x2 s3 hp => ?_)
  obtain ⟨hR, h⟩ := hp
  refine g_istore_3 (pc := 22) X dX11_nearest_22 (by decide) rfl ?_
  refine g_iload_3 (pc := 23) X dX11_nearest_23 ?_
  refine g_if_ge (pc := 24) X dX11_nearest_24 (tgt := 31) (by decide) (fun q4 => ?_) (fun q4 => ?_)
  · replace h := h.1 q4
    refine g_aload_0 (pc := 31) X dX11_nearest_31 ?_
    refine g_getRf (pc := 32) X dX11_nearest_32 fl_X11_89 rfl (by decide) rfl hR rfl ?_
    refine g_iload_1 (pc := 35) X dX11_nearest_35 ?_
    refine g_callV_I (pc := 36) X Y dX11_nearest_36 miX10_heapOf li_X11_316 (t_X10_heapOf hR  h) rfl (by decide) rfl ⟨_, rfl⟩ rfl ⟨Nat.le_of_ble_eq_true rfl, Nat.le_of_ble_eq_true rfl⟩ (Nat.le_of_ble_eq_true rfl) (Nat.le_of_ble_eq_true rfl) rfl (by exact Nat.le_of_ble_eq_true rfl) (fun x5 σ9 hp => ?_)
    obtain ⟨rfl, h⟩ := hp
    exact g_ireturn (pc := 39) X Y dX11_nearest_39 (Nat.le_of_ble_eq_true rfl) (Nat.le_of_ble_eq_true rfl) ⟨_, rfl, hR, h⟩
  · replace h := h.2 q4
    refine g_iload_3 (pc := 27) X dX11_nearest_27 ?_
    refine g_goto (pc := 28) X dX11_nearest_28 (tgt := 39) (by decide) ?_
    exact g_ireturn (pc := 39) X Y dX11_nearest_39 (Nat.le_of_ble_eq_true rfl) (Nat.le_of_ble_eq_true rfl) ⟨_, rfl, hR, h⟩
def W_X11_without (p0 : Int32) (Q : Int64 → gSt → Prop) (QX : String → gSt → Prop) (σ : gSt) : Prop := W_X11_isWithin p0 (nI 0) (nI 7) (fun x1 => W_X11_refuseUnless x1 (WPI mX1_notOfBook 2 (fun o => [.ref (ad o 1), .int p0]) (fun x2 => W_X11_solveAmong x2 64 (fun x3 s4 => Q x3 s4) σ) σ) QX σ) σ
set_option maxHeartbeats 4000000 in
theorem t_X11_without {o : gOm} {l : Launch} {b : Bool}   {σ : gSt} (hst : l.stackTraces = false) (hR : σ.2.2 = gRf b) {p0 : Int32} {Q : Int64 → gSt → Prop} {QX : String → gSt → Prop} (h : W_X11_without p0 Q QX σ) : SpX o l mX11_without 30 1 6 [.ref (ad o 0), .int p0] 116 σ (pL (fun x s => s.2.2 = gRf b ∧ Q x s)) (fun E s => s.2.2 = gRf b ∧ QX E s) := by
  unfold W_X11_without at h
  refine SpX.of (ls0 := [some (.ref (ad o 0)), some (.int p0)]) hst miX11_without rfl (Nat.le_of_ble_eq_true rfl) rfl (fun γ hγ X Y T => ?_)
  subst hγ
  have X : gX o γ cX11_without 2 RX11 := X
  refine g_iload_1 (pc := 0) X dX11_without_0 ?_
  refine g_iconst (pc := 1) X dX11_without_1 kiconst_0 ?_
  refine g_bipush (pc := 2) X dX11_without_2 kbipush_7 ?_
  refine g_callS_I (pc := 4) X Y dX11_without_4 miX11_isWithin li_X11_100 (t_X11_isWithin hR  h) rfl ⟨Nat.le_of_ble_eq_true rfl, Nat.le_of_ble_eq_true rfl⟩ (Nat.le_of_ble_eq_true rfl) (Nat.le_of_ble_eq_true rfl) rfl (by exact Nat.le_of_ble_eq_true rfl) (fun x1 σ9 hp => ?_)
  obtain ⟨rfl, h⟩ := hp
  refine g_callSX_V (pc := 7) X Y dX11_without_7 miX11_refuseUnless li_X11_104 (t_X11_refuseUnless hst hR  h) rfl ⟨Nat.le_of_ble_eq_true rfl, Nat.le_of_ble_eq_true rfl⟩ ⟨Nat.le_of_ble_eq_true rfl, Nat.le_of_ble_eq_true rfl⟩ (by exact Nat.le_of_ble_eq_true rfl) rfl (fun E σ9 hp => g_out X T hp (Nat.le_of_ble_eq_true rfl) (Nat.le_of_ble_eq_true rfl)) (fun σ9 hp => ?_)
  obtain ⟨rfl, h⟩ := hp
  refine g_aload_0 (pc := 10) X dX11_without_10 ?_
  refine g_aload_0 (pc := 11) X dX11_without_11 ?_
  refine g_getRf (pc := 12) X dX11_without_12 fl_X11_12 rfl (by decide) rfl hR rfl ?_
  refine g_iload_1 (pc := 15) X dX11_without_15 ?_
  refine g_callV_I (pc := 16) X Y dX11_without_16 miX1_notOfBook li_X11_354 (t_WPI hR  h) rfl (by decide) rfl ⟨_, rfl⟩ rfl ⟨Nat.le_of_ble_eq_true rfl, Nat.le_of_ble_eq_true rfl⟩ (Nat.le_of_ble_eq_true rfl) (Nat.le_of_ble_eq_true rfl) rfl (by exact Nat.le_of_ble_eq_true rfl) (fun x2 σ9 hp => ?_)
  obtain ⟨rfl, h⟩ := hp
  refine g_aload_0 (pc := 19) X dX11_without_19 ?_
  refine g_getRf (pc := 20) X dX11_without_20 fl_X11_97 rfl (by decide) rfl hR rfl ?_
  refine g_callV_L (pc := 23) X Y dX11_without_23 miX11_solveAmong li_X11_322 (t_X11_solveAmong hR (by decide) (by decide) h) rfl (by decide) rfl ⟨_, rfl⟩ rfl ⟨Nat.le_of_ble_eq_true rfl, Nat.le_of_ble_eq_true rfl⟩ (Nat.le_of_ble_eq_true rfl) (Nat.le_of_ble_eq_true rfl) rfl (by exact Nat.le_of_ble_eq_true rfl) (fun x3 s4 hp => ?_)
  obtain ⟨hR, h⟩ := hp
  exact g_lreturn (pc := 26) X Y dX11_without_26 (Nat.le_of_ble_eq_true rfl) (Nat.le_of_ble_eq_true rfl) ⟨_, rfl, hR, h⟩
def L_X11_maskOf_5 (k0 : Nat) (Q : Int32 → Prop) (c1 : Int32) (σ : gSt) (K : Int32 → Prop) : Nat → Int32 → Int32 → Prop
  | 0, _, _ => False
  | n5 + 1, v2, v3 => (((σ.1 1 0) ≤ v3 → (K v2)) ∧ (¬ (σ.1 1 0) ≤ v3 → (rI σ k0 ((lay k0).2) v3 (fun x6 => ((x6 = c1 → (L_X11_maskOf_5 k0 Q c1 σ K n5 (v2 ||| ((nI 1) <<< (v3 &&& 31))) (v3 + nI 1))) ∧ (¬ x6 = c1 → (L_X11_maskOf_5 k0 Q c1 σ K n5 v2 (v3 + nI 1))))))))
def W_X11_maskOf (k0 : Nat) (p1 : Int32) (Q : Int32 → Prop) (σ : gSt) : Prop := ∃ m5, L_X11_maskOf_5 k0 Q p1 σ (fun y9 => Q y9) m5 (nI 0) (nI 0)
set_option maxHeartbeats 4000000 in
theorem t_X11_maskOf {o : gOm} {l : Launch} {b : Bool}   {σ : gSt} (hR : σ.2.2 = gRf b) {k0 : Nat} {p1 : Int32} {Q : Int32 → Prop} (hk0 : k0 < 116) (hk00 : (lay k0).1 = 0) (h : W_X11_maskOf k0 p1 Q σ) : Sp o l mX11_maskOf 1 0 0 [.ref (ad o 0), .ref (ad o k0), .int p1] 116 116 σ (pI (fun x s => σ = s ∧ Q x)) := by
  have hk0y : lay k0 = (0, (lay k0).2) := Prod.ext hk00 rfl
  unfold W_X11_maskOf at h
  refine Sp.of (ls0 := [some (.ref (ad o 0)), some (.ref (ad o k0)), some (.int p1), none, none]) miX11_maskOf rfl (Nat.le_of_ble_eq_true rfl) rfl (fun γ hγ hnm X Y => ?_)
  subst hγ
  have X : gX o γ cX11_maskOf 5 RX11 := X
  refine g_iconst (pc := 0) X dX11_maskOf_0 kiconst_0 ?_
  refine g_istore_3 (pc := 1) X dX11_maskOf_1 (by decide) rfl ?_
  refine g_iconst (pc := 2) X dX11_maskOf_2 kiconst_0 ?_
  refine g_istore_4 (pc := 3) X dX11_maskOf_3 (by decide) rfl ?_
  obtain ⟨n8, h⟩ := h
  have hL : ∀ (c1 : Int32) (K : Int32 → Prop) (_ : ∀ (y4 : Int32), K y4 → G o γ 0 0 116 σ 38 [some (.ref (ad o 0)), some (.ref (ad o k0)), some (.int c1), some (.int y4), none] []) (n : Nat) (v2 : Int32) (v3 : Int32), L_X11_maskOf_5 k0 Q c1 σ K n v2 v3 → G o γ 0 0 116 σ 5 [some (.ref (ad o 0)), some (.ref (ad o k0)), some (.int c1), some (.int v2), some (.int v3)] [] := by
    intro c1 K hK n
    induction n with
    | zero => intro v2 v3 h; exact False.elim h
    | succ n ih =>
      intro v2 v3 h
      rw [L_X11_maskOf_5] at h
      refine g_iload_4 (pc := 5) X dX11_maskOf_5 ?_
      refine g_aload_0 (pc := 7) X dX11_maskOf_7 ?_
      refine g_getRf (pc := 8) X dX11_maskOf_8 fl_X11_12 rfl (by decide) rfl hR rfl ?_
      refine g_getI (pc := 11) X dX11_maskOf_11 rfl (by decide) fl_X11_108 (Or.inl rfl) ?_
      refine g_icmp_ge (pc := 14) X dX11_maskOf_14 (tgt := 38) (by decide) (fun q5 => ?_) (fun q5 => ?_)
      · replace h := h.1 q5
        exact g_drop (by simp [lsub]) (hK v2 h)
      · replace h := h.2 q5
        refine g_aload_1 (pc := 17) X dX11_maskOf_17 ?_
        refine g_iload_4 (pc := 18) X dX11_maskOf_18 ?_
        refine g_iaload_w (pc := 20) X dX11_maskOf_20 hk0y hk0 h (fun x6 h => ?_)
        refine g_iload_2 (pc := 21) X dX11_maskOf_21 ?_
        refine g_icmp_ne (pc := 22) X dX11_maskOf_22 (tgt := 32) (by decide) (fun q7 => ?_) (fun q7 => ?_)
        · replace h := h.2 q7
          refine g_iinc_4 (pc := 32) X dX11_maskOf_32 (v := v3 + nI 1) rfl (by decide) rfl ?_
          refine g_goto (pc := 35) X dX11_maskOf_35 (tgt := 5) (by decide) ?_
          exact ih v2 (v3 + nI 1) h
        · replace h := h.1 q7
          refine g_iload_3 (pc := 25) X dX11_maskOf_25 ?_
          refine g_iconst (pc := 26) X dX11_maskOf_26 kiconst_1 ?_
          refine g_iload_4 (pc := 27) X dX11_maskOf_27 ?_
          refine g_ishl (pc := 29) X dX11_maskOf_29 ?_
          refine g_ior (pc := 30) X dX11_maskOf_30 ?_
          refine g_istore_3 (pc := 31) X dX11_maskOf_31 (by decide) rfl ?_
          refine g_iinc_4 (pc := 32) X dX11_maskOf_32 (v := v3 + nI 1) rfl (by decide) rfl ?_
          refine g_goto (pc := 35) X dX11_maskOf_35 (tgt := 5) (by decide) ?_
          exact ih (v2 ||| ((nI 1) <<< (v3 &&& 31))) (v3 + nI 1) h
  refine hL p1 _ (fun y9 h => ?_) n8 (nI 0) (nI 0) h
  · refine g_iload_3 (pc := 38) X dX11_maskOf_38 ?_
    exact g_ireturn (pc := 39) X Y dX11_maskOf_39 (Nat.le_of_ble_eq_true rfl) (Nat.le_of_ble_eq_true rfl) ⟨_, rfl, rfl, h⟩
def L_X11_stands_71 (Q : Int32 → gSt → Prop) (QX : String → gSt → Prop) (c10 : Int32) (s8 : gSt) (K : Int32 → Prop) : Nat → Int32 → Int32 → Prop
  | 0, _, _ => False
  | n71 + 1, v11, v12 => (((s8.1 1 0) ≤ v12 → (K v11)) ∧ (¬ (s8.1 1 0) ≤ v12 → (W_X11_maskOf 63 v12 (fun x15 => (((x15 &&& c10) = 0 → (L_X11_stands_71 Q QX c10 s8 K n71 v11 (v12 + nI 1))) ∧ (¬ (x15 &&& c10) = 0 → (W_J6_numberOfTrailingZeros_0f7a4 (x15 &&& c10) (fun x17 => W_X11_maskOf 64 x17 (fun x18 => (((x15 &&& c10) = x18 → (L_X11_stands_71 Q QX c10 s8 K n71 (v11 + nI 1) (v12 + nI 1))) ∧ (¬ (x15 &&& c10) = x18 → (L_X11_stands_71 Q QX c10 s8 K n71 v11 (v12 + nI 1))))) s8) s8)))) s8)))
def W_X11_stands (p0 : Int32) (Q : Int32 → gSt → Prop) (QX : String → gSt → Prop) (σ : gSt) : Prop := W_X11_isWithin p0 (nI 0) (nI 7) (fun x1 => W_X11_refuseUnless x1 (WPI mX1_everyone 1 (fun o => [.ref (ad o 1)]) (fun x2 => W_X11_solveAmong x2 63 (fun x3 s4 => ((x3 < (lN 0) → (Q (l2i x3) s4)) ∧ (¬ x3 < (lN 0) → (WPI mX1_notOfBook 2 (fun o => [.ref (ad o 1), .int p0]) (fun x6 => W_X11_solveAmong x6 64 (fun x7 s8 => ((x7 < (lN 0) → (Q (l2i x7) s8)) ∧ (¬ x7 < (lN 0) → (∃ m71, L_X11_stands_71 Q QX x6 s8 (fun y21 => Q y21 s8) m71 (nI 0) (nI 0))))) s4) s4)))) σ) σ) QX σ) σ
set_option maxHeartbeats 4000000 in
theorem t_X11_stands {o : gOm} {l : Launch} {b : Bool}   {σ : gSt} (hst : l.stackTraces = false) (hR : σ.2.2 = gRf b) {p0 : Int32} {Q : Int32 → gSt → Prop} {QX : String → gSt → Prop} (h : W_X11_stands p0 Q QX σ) : SpX o l mX11_stands 30 1 6 [.ref (ad o 0), .int p0] 116 σ (pI (fun x s => s.2.2 = gRf b ∧ Q x s)) (fun E s => s.2.2 = gRf b ∧ QX E s) := by
  unfold W_X11_stands at h
  refine SpX.of (ls0 := [some (.ref (ad o 0)), some (.int p0), none, none, none, none, none, none]) hst miX11_stands rfl (Nat.le_of_ble_eq_true rfl) rfl (fun γ hγ X Y T => ?_)
  subst hγ
  have X : gX o γ cX11_stands 8 RX11 := X
  refine g_iload_1 (pc := 0) X dX11_stands_0 ?_
  refine g_iconst (pc := 1) X dX11_stands_1 kiconst_0 ?_
  refine g_bipush (pc := 2) X dX11_stands_2 kbipush_7 ?_
  refine g_callS_I (pc := 4) X Y dX11_stands_4 miX11_isWithin li_X11_100 (t_X11_isWithin hR  h) rfl ⟨Nat.le_of_ble_eq_true rfl, Nat.le_of_ble_eq_true rfl⟩ (Nat.le_of_ble_eq_true rfl) (Nat.le_of_ble_eq_true rfl) rfl (by exact Nat.le_of_ble_eq_true rfl) (fun x1 σ9 hp => ?_)
  obtain ⟨rfl, h⟩ := hp
  refine g_callSX_V (pc := 7) X Y dX11_stands_7 miX11_refuseUnless li_X11_104 (t_X11_refuseUnless hst hR  h) rfl ⟨Nat.le_of_ble_eq_true rfl, Nat.le_of_ble_eq_true rfl⟩ ⟨Nat.le_of_ble_eq_true rfl, Nat.le_of_ble_eq_true rfl⟩ (by exact Nat.le_of_ble_eq_true rfl) rfl (fun E σ9 hp => g_out X T hp (Nat.le_of_ble_eq_true rfl) (Nat.le_of_ble_eq_true rfl)) (fun σ9 hp => ?_)
  obtain ⟨rfl, h⟩ := hp
  refine g_aload_0 (pc := 10) X dX11_stands_10 ?_
  refine g_aload_0 (pc := 11) X dX11_stands_11 ?_
  refine g_getRf (pc := 12) X dX11_stands_12 fl_X11_12 rfl (by decide) rfl hR rfl ?_
  refine g_callV_I (pc := 15) X Y dX11_stands_15 miX1_everyone li_X11_319 (t_WPI hR  h) rfl (by decide) rfl ⟨_, rfl⟩ rfl ⟨Nat.le_of_ble_eq_true rfl, Nat.le_of_ble_eq_true rfl⟩ (Nat.le_of_ble_eq_true rfl) (Nat.le_of_ble_eq_true rfl) rfl (by exact Nat.le_of_ble_eq_true rfl) (fun x2 σ9 hp => ?_)
  obtain ⟨rfl, h⟩ := hp
  refine g_aload_0 (pc := 18) X dX11_stands_18 ?_
  refine g_getRf (pc := 19) X dX11_stands_19 fl_X11_93 rfl (by decide) rfl hR rfl ?_
  refine g_callV_L (pc := 22) X Y dX11_stands_22 miX11_solveAmong li_X11_322 (t_X11_solveAmong hR (by decide) (by decide) h) rfl (by decide) rfl ⟨_, rfl⟩ rfl ⟨Nat.le_of_ble_eq_true rfl, Nat.le_of_ble_eq_true rfl⟩ (Nat.le_of_ble_eq_true rfl) (Nat.le_of_ble_eq_true rfl) rfl (by exact Nat.le_of_ble_eq_true rfl) (fun x3 s4 hp => ?_)
  obtain ⟨hR, h⟩ := hp
  refine g_lstore_2 (pc := 25) X dX11_stands_25 (by decide) rfl ?_
  refine g_lload_2 (pc := 26) X dX11_stands_26 ?_
  refine g_lconst (pc := 27) X dX11_stands_27 (v := lN 0) rfl ?_
  refine g_lcmp_ge (pc := 28) X dX11_stands_28 dX11_stands_29 (tgt := 35) (by decide) (fun q5 => ?_) (fun q5 => ?_)
  · replace h := h.2 q5
    refine g_aload_0 (pc := 35) X dX11_stands_35 ?_
    refine g_getRf (pc := 36) X dX11_stands_36 fl_X11_12 rfl (by decide) rfl hR rfl ?_
    refine g_iload_1 (pc := 39) X dX11_stands_39 ?_
    refine g_callV_I (pc := 40) X Y dX11_stands_40 miX1_notOfBook li_X11_354 (t_WPI hR  h) rfl (by decide) rfl ⟨_, rfl⟩ rfl ⟨Nat.le_of_ble_eq_true rfl, Nat.le_of_ble_eq_true rfl⟩ (Nat.le_of_ble_eq_true rfl) (Nat.le_of_ble_eq_true rfl) rfl (by exact Nat.le_of_ble_eq_true rfl) (fun x6 σ9 hp => ?_)
    obtain ⟨rfl, h⟩ := hp
    refine g_istore_4 (pc := 43) X dX11_stands_43 (by decide) rfl ?_
    refine g_aload_0 (pc := 45) X dX11_stands_45 ?_
    refine g_iload_4 (pc := 46) X dX11_stands_46 ?_
    refine g_aload_0 (pc := 48) X dX11_stands_48 ?_
    refine g_getRf (pc := 49) X dX11_stands_49 fl_X11_97 rfl (by decide) rfl hR rfl ?_
    refine g_callV_L (pc := 52) X Y dX11_stands_52 miX11_solveAmong li_X11_322 (t_X11_solveAmong hR (by decide) (by decide) h) rfl (by decide) rfl ⟨_, rfl⟩ rfl ⟨Nat.le_of_ble_eq_true rfl, Nat.le_of_ble_eq_true rfl⟩ (Nat.le_of_ble_eq_true rfl) (Nat.le_of_ble_eq_true rfl) rfl (by exact Nat.le_of_ble_eq_true rfl) (fun x7 s8 hp => ?_)
    obtain ⟨hR, h⟩ := hp
    refine g_lstore_2 (pc := 55) X dX11_stands_55 (by decide) rfl ?_
    refine g_lload_2 (pc := 56) X dX11_stands_56 ?_
    refine g_lconst (pc := 57) X dX11_stands_57 (v := lN 0) rfl ?_
    refine g_lcmp_ge (pc := 58) X dX11_stands_58 dX11_stands_59 (tgt := 65) (by decide) (fun q9 => ?_) (fun q9 => ?_)
    · replace h := h.2 q9
      refine g_iconst (pc := 65) X dX11_stands_65 kiconst_0 ?_
      refine g_istore_5 (pc := 66) X dX11_stands_66 (by decide) rfl ?_
      refine g_iconst (pc := 68) X dX11_stands_68 kiconst_0 ?_
      refine g_istore_6 (pc := 69) X dX11_stands_69 (by decide) rfl ?_
      obtain ⟨n20, h⟩ := h
      have hL : ∀ (c10 : Int32) (K : Int32 → Prop) (_ : ∀ (y13 : Int32), K y13 → G o γ 1 6 116 s8 130 [some (.ref (ad o 0)), none, none, none, some (.int c10), some (.int y13), none, none] []) (n : Nat) (v11 : Int32) (v12 : Int32), L_X11_stands_71 Q QX c10 s8 K n v11 v12 → G o γ 1 6 116 s8 71 [some (.ref (ad o 0)), none, none, none, some (.int c10), some (.int v11), some (.int v12), none] [] := by
        intro c10 K hK n
        induction n with
        | zero => intro v11 v12 h; exact False.elim h
        | succ n ih =>
          intro v11 v12 h
          rw [L_X11_stands_71] at h
          refine g_iload_6 (pc := 71) X dX11_stands_71 ?_
          refine g_aload_0 (pc := 73) X dX11_stands_73 ?_
          refine g_getRf (pc := 74) X dX11_stands_74 fl_X11_12 rfl (by decide) rfl hR rfl ?_
          refine g_getI (pc := 77) X dX11_stands_77 rfl (by decide) fl_X11_108 (Or.inl rfl) ?_
          refine g_icmp_ge (pc := 80) X dX11_stands_80 (tgt := 130) (by decide) (fun q14 => ?_) (fun q14 => ?_)
          · replace h := h.1 q14
            exact g_drop (by simp [lsub]) (hK v11 h)
          · replace h := h.2 q14
            refine g_aload_0 (pc := 83) X dX11_stands_83 ?_
            refine g_aload_0 (pc := 84) X dX11_stands_84 ?_
            refine g_getRf (pc := 85) X dX11_stands_85 fl_X11_93 rfl (by decide) rfl hR rfl ?_
            refine g_iload_6 (pc := 88) X dX11_stands_88 ?_
            refine g_callV_I (pc := 90) X Y dX11_stands_90 miX11_maskOf li_X11_357 (t_X11_maskOf hR (by decide) (by decide) h) rfl (by decide) rfl ⟨_, rfl⟩ rfl ⟨Nat.le_of_ble_eq_true rfl, Nat.le_of_ble_eq_true rfl⟩ (Nat.le_of_ble_eq_true rfl) (Nat.le_of_ble_eq_true rfl) rfl (by exact Nat.le_of_ble_eq_true rfl) (fun x15 σ9 hp => ?_)
            obtain ⟨rfl, h⟩ := hp
            refine g_iload_4 (pc := 93) X dX11_stands_93 ?_
            refine g_iand (pc := 95) X dX11_stands_95 ?_
            refine g_istore_7 (pc := 96) X dX11_stands_96 (by decide) rfl ?_
            refine g_iload_7 (pc := 98) X dX11_stands_98 ?_
            refine g_if_eq (pc := 100) X dX11_stands_100 (tgt := 124) (by decide) (fun q16 => ?_) (fun q16 => ?_)
            · replace h := h.1 q16
              refine g_iinc_6 (pc := 124) X dX11_stands_124 (v := v12 + nI 1) rfl (by decide) rfl ?_
              refine g_goto (pc := 127) X dX11_stands_127 (tgt := 71) (by decide) ?_
              exact g_drop (by simp [lsub]) (ih v11 (v12 + nI 1) h)
            · replace h := h.2 q16
              refine g_iload_7 (pc := 103) X dX11_stands_103 ?_
              refine g_aload_0 (pc := 105) X dX11_stands_105 ?_
              refine g_aload_0 (pc := 106) X dX11_stands_106 ?_
              refine g_getRf (pc := 107) X dX11_stands_107 fl_X11_97 rfl (by decide) rfl hR rfl ?_
              refine g_iload_7 (pc := 110) X dX11_stands_110 ?_
              refine g_callS_I (pc := 112) X Y dX11_stands_112 miJ6_numberOfTrailingZeros_0f7a4 li_X11_140 (t_J6_numberOfTrailingZeros_0f7a4 hR  h) rfl ⟨Nat.le_of_ble_eq_true rfl, Nat.le_of_ble_eq_true rfl⟩ (Nat.le_of_ble_eq_true rfl) (Nat.le_of_ble_eq_true rfl) rfl (by exact Nat.le_of_ble_eq_true rfl) (fun x17 σ9 hp => ?_)
              obtain ⟨rfl, h⟩ := hp
              refine g_callV_I (pc := 115) X Y dX11_stands_115 miX11_maskOf li_X11_357 (t_X11_maskOf hR (by decide) (by decide) h) rfl (by decide) rfl ⟨_, rfl⟩ rfl ⟨Nat.le_of_ble_eq_true rfl, Nat.le_of_ble_eq_true rfl⟩ (Nat.le_of_ble_eq_true rfl) (Nat.le_of_ble_eq_true rfl) rfl (by exact Nat.le_of_ble_eq_true rfl) (fun x18 σ9 hp => ?_)
              obtain ⟨rfl, h⟩ := hp
              refine g_icmp_ne (pc := 118) X dX11_stands_118 (tgt := 124) (by decide) (fun q19 => ?_) (fun q19 => ?_)
              · replace h := h.2 q19
                refine g_iinc_6 (pc := 124) X dX11_stands_124 (v := v12 + nI 1) rfl (by decide) rfl ?_
                refine g_goto (pc := 127) X dX11_stands_127 (tgt := 71) (by decide) ?_
                exact g_drop (by simp [lsub]) (ih v11 (v12 + nI 1) h)
              · replace h := h.1 q19
                refine g_iinc_5 (pc := 121) X dX11_stands_121 (v := v11 + nI 1) rfl (by decide) rfl ?_
                refine g_iinc_6 (pc := 124) X dX11_stands_124 (v := v12 + nI 1) rfl (by decide) rfl ?_
                refine g_goto (pc := 127) X dX11_stands_127 (tgt := 71) (by decide) ?_
                exact g_drop (by simp [lsub]) (ih (v11 + nI 1) (v12 + nI 1) h)
      refine g_drop (by simp [lsub]) (hL x6 _ (fun y21 h => ?_) n20 (nI 0) (nI 0) h)
      · refine g_iload_5 (pc := 130) X dX11_stands_130 ?_
        exact g_ireturn (pc := 132) X Y dX11_stands_132 (Nat.le_of_ble_eq_true rfl) (Nat.le_of_ble_eq_true rfl) ⟨_, rfl, hR, h⟩
    · replace h := h.1 q9
      refine g_lload_2 (pc := 62) X dX11_stands_62 ?_
      refine g_l2i (pc := 63) X dX11_stands_63 ?_
      exact g_ireturn (pc := 64) X Y dX11_stands_64 (Nat.le_of_ble_eq_true rfl) (Nat.le_of_ble_eq_true rfl) ⟨_, rfl, hR, h⟩
  · replace h := h.1 q5
    refine g_lload_2 (pc := 32) X dX11_stands_32 ?_
    refine g_l2i (pc := 33) X dX11_stands_33 ?_
    exact g_ireturn (pc := 34) X Y dX11_stands_34 (Nat.le_of_ble_eq_true rfl) (Nat.le_of_ble_eq_true rfl) ⟨_, rfl, hR, h⟩
def W_X11_mark  (Q : Int32 → gSt → Prop) (σ : gSt) : Prop := WSI mX2_keep 2 (fun o => [.ref (ad o 33)]) (fun x1 s2 => ((x1 = 0 → (Q ((-1 : Int32)) s2)) ∧ (¬ x1 = 0 → (Q (s2.1 33 2) s2)))) σ
set_option maxHeartbeats 4000000 in
theorem t_X11_mark {o : gOm} {l : Launch} {b : Bool}   {σ : gSt} (hR : σ.2.2 = gRf b)  {Q : Int32 → gSt → Prop} (h : W_X11_mark  Q σ) : Sp o l mX11_mark 3 0 0 [.ref (ad o 0)] 116 116 σ (pI (fun x s => s.2.2 = gRf b ∧ Q x s)) := by
  unfold W_X11_mark at h
  refine Sp.of (ls0 := [some (.ref (ad o 0))]) miX11_mark rfl (Nat.le_of_ble_eq_true rfl) rfl (fun γ hγ hnm X Y => ?_)
  subst hγ
  have X : gX o γ cX11_mark 1 RX11 := X
  refine g_aload_0 (pc := 0) X dX11_mark_0 ?_
  refine g_getRf (pc := 1) X dX11_mark_1 fl_X11_48 rfl (by decide) rfl hR rfl ?_
  refine g_callV_I (pc := 4) X Y dX11_mark_4 miX2_keep li_X11_361 (t_WSI hR  h) rfl (by decide) rfl ⟨_, rfl⟩ rfl ⟨Nat.le_of_ble_eq_true rfl, Nat.le_of_ble_eq_true rfl⟩ (Nat.le_of_ble_eq_true rfl) (Nat.le_of_ble_eq_true rfl) rfl (by exact Nat.le_of_ble_eq_true rfl) (fun x1 s2 hp => ?_)
  obtain ⟨hR, h⟩ := hp
  refine g_if_eq (pc := 7) X dX11_mark_7 (tgt := 20) (by decide) (fun q3 => ?_) (fun q3 => ?_)
  · replace h := h.1 q3
    refine g_iconst (pc := 20) X dX11_mark_20 kiconst_m1 ?_
    exact g_ireturn (pc := 21) X Y dX11_mark_21 (Nat.le_of_ble_eq_true rfl) (Nat.le_of_ble_eq_true rfl) ⟨_, rfl, hR, h⟩
  · replace h := h.2 q3
    refine g_aload_0 (pc := 10) X dX11_mark_10 ?_
    refine g_getRf (pc := 11) X dX11_mark_11 fl_X11_48 rfl (by decide) rfl hR rfl ?_
    refine g_getI (pc := 14) X dX11_mark_14 rfl (by decide) fl_X11_365 (Or.inl rfl) ?_
    refine g_goto (pc := 17) X dX11_mark_17 (tgt := 21) (by decide) ?_
    exact g_ireturn (pc := 21) X Y dX11_mark_21 (Nat.le_of_ble_eq_true rfl) (Nat.le_of_ble_eq_true rfl) ⟨_, rfl, hR, h⟩
def W_X11_back  (Q : Int32 → gSt → Prop) (σ : gSt) : Prop := WSI mX2_restore 2 (fun o => [.ref (ad o 33)]) (fun x1 s2 => ((x1 = 0 → (Q ((-1 : Int32)) s2)) ∧ (¬ x1 = 0 → (Q (s2.1 33 2) s2)))) σ
set_option maxHeartbeats 4000000 in
theorem t_X11_back {o : gOm} {l : Launch} {b : Bool}   {σ : gSt} (hR : σ.2.2 = gRf b)  {Q : Int32 → gSt → Prop} (h : W_X11_back  Q σ) : Sp o l mX11_back 3 0 0 [.ref (ad o 0)] 116 116 σ (pI (fun x s => s.2.2 = gRf b ∧ Q x s)) := by
  unfold W_X11_back at h
  refine Sp.of (ls0 := [some (.ref (ad o 0))]) miX11_back rfl (Nat.le_of_ble_eq_true rfl) rfl (fun γ hγ hnm X Y => ?_)
  subst hγ
  have X : gX o γ cX11_back 1 RX11 := X
  refine g_aload_0 (pc := 0) X dX11_back_0 ?_
  refine g_getRf (pc := 1) X dX11_back_1 fl_X11_48 rfl (by decide) rfl hR rfl ?_
  refine g_callV_I (pc := 4) X Y dX11_back_4 miX2_restore li_X11_368 (t_WSI hR  h) rfl (by decide) rfl ⟨_, rfl⟩ rfl ⟨Nat.le_of_ble_eq_true rfl, Nat.le_of_ble_eq_true rfl⟩ (Nat.le_of_ble_eq_true rfl) (Nat.le_of_ble_eq_true rfl) rfl (by exact Nat.le_of_ble_eq_true rfl) (fun x1 s2 hp => ?_)
  obtain ⟨hR, h⟩ := hp
  refine g_if_eq (pc := 7) X dX11_back_7 (tgt := 20) (by decide) (fun q3 => ?_) (fun q3 => ?_)
  · replace h := h.1 q3
    refine g_iconst (pc := 20) X dX11_back_20 kiconst_m1 ?_
    exact g_ireturn (pc := 21) X Y dX11_back_21 (Nat.le_of_ble_eq_true rfl) (Nat.le_of_ble_eq_true rfl) ⟨_, rfl, hR, h⟩
  · replace h := h.2 q3
    refine g_aload_0 (pc := 10) X dX11_back_10 ?_
    refine g_getRf (pc := 11) X dX11_back_11 fl_X11_48 rfl (by decide) rfl hR rfl ?_
    refine g_getI (pc := 14) X dX11_back_14 rfl (by decide) fl_X11_365 (Or.inl rfl) ?_
    refine g_goto (pc := 17) X dX11_back_17 (tgt := 21) (by decide) ?_
    exact g_ireturn (pc := 21) X Y dX11_back_21 (Nat.le_of_ble_eq_true rfl) (Nat.le_of_ble_eq_true rfl) ⟨_, rfl, hR, h⟩
def W_X11_count (b : Bool) (p0 : Int32) (Q : Int32 → gSt → Prop) (σ : gSt) : Prop := ((p0 = nI 0 → (Q (σ.1 1 0) σ)) ∧ (¬ p0 = nI 0 → ((p0 = nI 1 → (Q (σ.1 ((kR b)) 0) σ)) ∧ (¬ p0 = nI 1 → ((p0 = nI 2 → (Q (σ.1 16 2) σ)) ∧ (¬ p0 = nI 2 → ((p0 = nI 3 → (Q (σ.1 30 2) σ)) ∧ (¬ p0 = nI 3 → ((p0 = nI 4 → (W_X2_heapCount (fun x6 => Q x6 σ) σ)) ∧ (¬ p0 = nI 4 → ((p0 = nI 5 → (WPI mX1_everyone 1 (fun o => [.ref (ad o 1)]) (fun x8 => W_X6_find x8 (fun x9 s10 => Q x9 s10) σ) σ)) ∧ (¬ p0 = nI 5 → ((p0 = nI 6 → (Q (σ.1 42 0) σ)) ∧ (¬ p0 = nI 6 → ((p0 = nI 7 → (Q (σ.1 33 2) σ)) ∧ (¬ p0 = nI 7 → ((p0 = nI 8 → (Q (σ.1 4 0) σ)) ∧ (¬ p0 = nI 8 → ((p0 = nI 9 → (W_X4_passedCount (fun x15 => Q x15 σ) σ)) ∧ (¬ p0 = nI 9 → Q ((-1 : Int32)) σ))))))))))))))))))))
set_option maxHeartbeats 4000000 in
theorem t_X11_count {o : gOm} {l : Launch} {b : Bool}   {σ : gSt} (hR : σ.2.2 = gRf b) {p0 : Int32} {Q : Int32 → gSt → Prop} (h : W_X11_count b p0 Q σ) : Sp o l mX11_count 4 0 0 [.ref (ad o 0), .int p0] 116 116 σ (pI (fun x s => s.2.2 = gRf b ∧ Q x s)) := by
  cases b
  · unfold W_X11_count at h
    refine Sp.of (ls0 := [some (.ref (ad o 0)), some (.int p0)]) miX11_count rfl (Nat.le_of_ble_eq_true rfl) rfl (fun γ hγ hnm X Y => ?_)
    subst hγ
    have X : gX o γ cX11_count 2 RX11 := X
    refine g_iload_1 (pc := 0) X dX11_count_0 ?_
    by_cases q1 : p0 = nI 0
    · replace h := h.1 q1
      refine g_tableIn (pc := 1) X dX11_count_1 (tgt := 56) (by rw [q1]; decide) (by rw [q1]; decide) (by rw [q1]; rfl) (by decide) ?_
      refine g_aload_0 (pc := 56) X dX11_count_56 ?_
      refine g_getRf (pc := 57) X dX11_count_57 fl_X11_12 rfl (by decide) rfl hR rfl ?_
      refine g_getI (pc := 60) X dX11_count_60 rfl (by decide) fl_X11_108 (Or.inl rfl) ?_
      exact g_ireturn (pc := 63) X Y dX11_count_63 (Nat.le_of_ble_eq_true rfl) (Nat.le_of_ble_eq_true rfl) ⟨_, rfl, hR, h⟩
    replace h := h.2 q1
    by_cases q2 : p0 = nI 1
    · replace h := h.1 q2
      refine g_tableIn (pc := 1) X dX11_count_1 (tgt := 64) (by rw [q2]; decide) (by rw [q2]; decide) (by rw [q2]; rfl) (by decide) ?_
      refine g_aload_0 (pc := 64) X dX11_count_64 ?_
      refine g_getRf (pc := 65) X dX11_count_65 fl_X11_30 rfl (by decide) rfl hR rfl ?_
      refine g_getRf (pc := 68) X dX11_count_68 fl_X11_167 rfl (by decide) rfl hR rfl ?_
      refine g_getI (pc := 71) X dX11_count_71 rfl (by decide) fl_X11_170 (Or.inl rfl) ?_
      exact g_ireturn (pc := 74) X Y dX11_count_74 (Nat.le_of_ble_eq_true rfl) (Nat.le_of_ble_eq_true rfl) ⟨_, rfl, hR, h⟩
    replace h := h.2 q2
    by_cases q3 : p0 = nI 2
    · replace h := h.1 q3
      refine g_tableIn (pc := 1) X dX11_count_1 (tgt := 75) (by rw [q3]; decide) (by rw [q3]; decide) (by rw [q3]; rfl) (by decide) ?_
      refine g_aload_0 (pc := 75) X dX11_count_75 ?_
      refine g_getRf (pc := 76) X dX11_count_76 fl_X11_30 rfl (by decide) rfl hR rfl ?_
      refine g_getI (pc := 79) X dX11_count_79 rfl (by decide) fl_X11_196 (Or.inl rfl) ?_
      exact g_ireturn (pc := 82) X Y dX11_count_82 (Nat.le_of_ble_eq_true rfl) (Nat.le_of_ble_eq_true rfl) ⟨_, rfl, hR, h⟩
    replace h := h.2 q3
    by_cases q4 : p0 = nI 3
    · replace h := h.1 q4
      refine g_tableIn (pc := 1) X dX11_count_1 (tgt := 83) (by rw [q4]; decide) (by rw [q4]; decide) (by rw [q4]; rfl) (by decide) ?_
      refine g_aload_0 (pc := 83) X dX11_count_83 ?_
      refine g_getRf (pc := 84) X dX11_count_84 fl_X11_39 rfl (by decide) rfl hR rfl ?_
      refine g_getI (pc := 87) X dX11_count_87 rfl (by decide) fl_X11_212 (Or.inl rfl) ?_
      exact g_ireturn (pc := 90) X Y dX11_count_90 (Nat.le_of_ble_eq_true rfl) (Nat.le_of_ble_eq_true rfl) ⟨_, rfl, hR, h⟩
    replace h := h.2 q4
    by_cases q5 : p0 = nI 4
    · replace h := h.1 q5
      refine g_tableIn (pc := 1) X dX11_count_1 (tgt := 91) (by rw [q5]; decide) (by rw [q5]; decide) (by rw [q5]; rfl) (by decide) ?_
      refine g_aload_0 (pc := 91) X dX11_count_91 ?_
      refine g_getRf (pc := 92) X dX11_count_92 fl_X11_48 rfl (by decide) rfl hR rfl ?_
      refine g_callV_I (pc := 95) X Y dX11_count_95 miX2_heapCount li_X11_371 (t_X2_heapCount hR  h) rfl (by decide) rfl ⟨_, rfl⟩ rfl ⟨Nat.le_of_ble_eq_true rfl, Nat.le_of_ble_eq_true rfl⟩ (Nat.le_of_ble_eq_true rfl) (Nat.le_of_ble_eq_true rfl) rfl (by exact Nat.le_of_ble_eq_true rfl) (fun x6 σ9 hp => ?_)
      obtain ⟨rfl, h⟩ := hp
      exact g_ireturn (pc := 98) X Y dX11_count_98 (Nat.le_of_ble_eq_true rfl) (Nat.le_of_ble_eq_true rfl) ⟨_, rfl, hR, h⟩
    replace h := h.2 q5
    by_cases q7 : p0 = nI 5
    · replace h := h.1 q7
      refine g_tableIn (pc := 1) X dX11_count_1 (tgt := 99) (by rw [q7]; decide) (by rw [q7]; decide) (by rw [q7]; rfl) (by decide) ?_
      refine g_aload_0 (pc := 99) X dX11_count_99 ?_
      refine g_getRf (pc := 100) X dX11_count_100 fl_X11_73 rfl (by decide) rfl hR rfl ?_
      refine g_aload_0 (pc := 103) X dX11_count_103 ?_
      refine g_getRf (pc := 104) X dX11_count_104 fl_X11_12 rfl (by decide) rfl hR rfl ?_
      refine g_callV_I (pc := 107) X Y dX11_count_107 miX1_everyone li_X11_319 (t_WPI hR  h) rfl (by decide) rfl ⟨_, rfl⟩ rfl ⟨Nat.le_of_ble_eq_true rfl, Nat.le_of_ble_eq_true rfl⟩ (Nat.le_of_ble_eq_true rfl) (Nat.le_of_ble_eq_true rfl) rfl (by exact Nat.le_of_ble_eq_true rfl) (fun x8 σ9 hp => ?_)
      obtain ⟨rfl, h⟩ := hp
      refine g_callV_I (pc := 110) X Y dX11_count_110 miX6_find li_X11_374 (t_X6_find hR  h) rfl (by decide) rfl ⟨_, rfl⟩ rfl ⟨Nat.le_of_ble_eq_true rfl, Nat.le_of_ble_eq_true rfl⟩ (Nat.le_of_ble_eq_true rfl) (Nat.le_of_ble_eq_true rfl) rfl (by exact Nat.le_of_ble_eq_true rfl) (fun x9 s10 hp => ?_)
      obtain ⟨hR, h⟩ := hp
      exact g_ireturn (pc := 113) X Y dX11_count_113 (Nat.le_of_ble_eq_true rfl) (Nat.le_of_ble_eq_true rfl) ⟨_, rfl, hR, h⟩
    replace h := h.2 q7
    by_cases q11 : p0 = nI 6
    · replace h := h.1 q11
      refine g_tableIn (pc := 1) X dX11_count_1 (tgt := 114) (by rw [q11]; decide) (by rw [q11]; decide) (by rw [q11]; rfl) (by decide) ?_
      refine g_aload_0 (pc := 114) X dX11_count_114 ?_
      refine g_getRf (pc := 115) X dX11_count_115 fl_X11_66 rfl (by decide) rfl hR rfl ?_
      refine g_getI (pc := 118) X dX11_count_118 rfl (by decide) fl_X11_293 (Or.inl rfl) ?_
      exact g_ireturn (pc := 121) X Y dX11_count_121 (Nat.le_of_ble_eq_true rfl) (Nat.le_of_ble_eq_true rfl) ⟨_, rfl, hR, h⟩
    replace h := h.2 q11
    by_cases q12 : p0 = nI 7
    · replace h := h.1 q12
      refine g_tableIn (pc := 1) X dX11_count_1 (tgt := 122) (by rw [q12]; decide) (by rw [q12]; decide) (by rw [q12]; rfl) (by decide) ?_
      refine g_aload_0 (pc := 122) X dX11_count_122 ?_
      refine g_getRf (pc := 123) X dX11_count_123 fl_X11_48 rfl (by decide) rfl hR rfl ?_
      refine g_getI (pc := 126) X dX11_count_126 rfl (by decide) fl_X11_365 (Or.inl rfl) ?_
      exact g_ireturn (pc := 129) X Y dX11_count_129 (Nat.le_of_ble_eq_true rfl) (Nat.le_of_ble_eq_true rfl) ⟨_, rfl, hR, h⟩
    replace h := h.2 q12
    by_cases q13 : p0 = nI 8
    · replace h := h.1 q13
      refine g_tableIn (pc := 1) X dX11_count_1 (tgt := 130) (by rw [q13]; decide) (by rw [q13]; decide) (by rw [q13]; rfl) (by decide) ?_
      refine g_aload_0 (pc := 130) X dX11_count_130 ?_
      refine g_getRf (pc := 131) X dX11_count_131 fl_X11_21 rfl (by decide) rfl hR rfl ?_
      refine g_getI (pc := 134) X dX11_count_134 rfl (by decide) fl_X11_150 (Or.inl rfl) ?_
      exact g_ireturn (pc := 137) X Y dX11_count_137 (Nat.le_of_ble_eq_true rfl) (Nat.le_of_ble_eq_true rfl) ⟨_, rfl, hR, h⟩
    replace h := h.2 q13
    by_cases q14 : p0 = nI 9
    · replace h := h.1 q14
      refine g_tableIn (pc := 1) X dX11_count_1 (tgt := 138) (by rw [q14]; decide) (by rw [q14]; decide) (by rw [q14]; rfl) (by decide) ?_
      refine g_aload_0 (pc := 138) X dX11_count_138 ?_
      refine g_getRf (pc := 139) X dX11_count_139 fl_X11_30 rfl (by decide) rfl hR rfl ?_
      refine g_callV_I (pc := 142) X Y dX11_count_142 miX4_passedCount li_X11_377 (t_X4_passedCount hR  h) rfl (by decide) rfl ⟨_, rfl⟩ rfl ⟨Nat.le_of_ble_eq_true rfl, Nat.le_of_ble_eq_true rfl⟩ (Nat.le_of_ble_eq_true rfl) (Nat.le_of_ble_eq_true rfl) rfl (by exact Nat.le_of_ble_eq_true rfl) (fun x15 σ9 hp => ?_)
      obtain ⟨rfl, h⟩ := hp
      exact g_ireturn (pc := 145) X Y dX11_count_145 (Nat.le_of_ble_eq_true rfl) (Nat.le_of_ble_eq_true rfl) ⟨_, rfl, hR, h⟩
    replace h := h.2 q14
    refine g_tableOut (pc := 1) X dX11_count_1 (tgt := 146) (tsw_out (lo := 0) (m := 10) (by decide) (fun i hi => ?_)) (by decide) ?_
    · have hi : i = 0 ∨ i = 1 ∨ i = 2 ∨ i = 3 ∨ i = 4 ∨ i = 5 ∨ i = 6 ∨ i = 7 ∨ i = 8 ∨ i = 9 := by omega
      rcases hi with rfl | rfl | rfl | rfl | rfl | rfl | rfl | rfl | rfl | rfl
      · exact q1
      · exact q2
      · exact q3
      · exact q4
      · exact q5
      · exact q7
      · exact q11
      · exact q12
      · exact q13
      · exact q14
    refine g_iconst (pc := 146) X dX11_count_146 kiconst_m1 ?_
    exact g_ireturn (pc := 147) X Y dX11_count_147 (Nat.le_of_ble_eq_true rfl) (Nat.le_of_ble_eq_true rfl) ⟨_, rfl, hR, h⟩
  · unfold W_X11_count at h
    refine Sp.of (ls0 := [some (.ref (ad o 0)), some (.int p0)]) miX11_count rfl (Nat.le_of_ble_eq_true rfl) rfl (fun γ hγ hnm X Y => ?_)
    subst hγ
    have X : gX o γ cX11_count 2 RX11 := X
    refine g_iload_1 (pc := 0) X dX11_count_0 ?_
    by_cases q1 : p0 = nI 0
    · replace h := h.1 q1
      refine g_tableIn (pc := 1) X dX11_count_1 (tgt := 56) (by rw [q1]; decide) (by rw [q1]; decide) (by rw [q1]; rfl) (by decide) ?_
      refine g_aload_0 (pc := 56) X dX11_count_56 ?_
      refine g_getRf (pc := 57) X dX11_count_57 fl_X11_12 rfl (by decide) rfl hR rfl ?_
      refine g_getI (pc := 60) X dX11_count_60 rfl (by decide) fl_X11_108 (Or.inl rfl) ?_
      exact g_ireturn (pc := 63) X Y dX11_count_63 (Nat.le_of_ble_eq_true rfl) (Nat.le_of_ble_eq_true rfl) ⟨_, rfl, hR, h⟩
    replace h := h.2 q1
    by_cases q2 : p0 = nI 1
    · replace h := h.1 q2
      refine g_tableIn (pc := 1) X dX11_count_1 (tgt := 64) (by rw [q2]; decide) (by rw [q2]; decide) (by rw [q2]; rfl) (by decide) ?_
      refine g_aload_0 (pc := 64) X dX11_count_64 ?_
      refine g_getRf (pc := 65) X dX11_count_65 fl_X11_30 rfl (by decide) rfl hR rfl ?_
      refine g_getRf (pc := 68) X dX11_count_68 fl_X11_167 rfl (by decide) rfl hR rfl ?_
      refine g_getI (pc := 71) X dX11_count_71 rfl (by decide) fl_X11_170 (Or.inl rfl) ?_
      exact g_ireturn (pc := 74) X Y dX11_count_74 (Nat.le_of_ble_eq_true rfl) (Nat.le_of_ble_eq_true rfl) ⟨_, rfl, hR, h⟩
    replace h := h.2 q2
    by_cases q3 : p0 = nI 2
    · replace h := h.1 q3
      refine g_tableIn (pc := 1) X dX11_count_1 (tgt := 75) (by rw [q3]; decide) (by rw [q3]; decide) (by rw [q3]; rfl) (by decide) ?_
      refine g_aload_0 (pc := 75) X dX11_count_75 ?_
      refine g_getRf (pc := 76) X dX11_count_76 fl_X11_30 rfl (by decide) rfl hR rfl ?_
      refine g_getI (pc := 79) X dX11_count_79 rfl (by decide) fl_X11_196 (Or.inl rfl) ?_
      exact g_ireturn (pc := 82) X Y dX11_count_82 (Nat.le_of_ble_eq_true rfl) (Nat.le_of_ble_eq_true rfl) ⟨_, rfl, hR, h⟩
    replace h := h.2 q3
    by_cases q4 : p0 = nI 3
    · replace h := h.1 q4
      refine g_tableIn (pc := 1) X dX11_count_1 (tgt := 83) (by rw [q4]; decide) (by rw [q4]; decide) (by rw [q4]; rfl) (by decide) ?_
      refine g_aload_0 (pc := 83) X dX11_count_83 ?_
      refine g_getRf (pc := 84) X dX11_count_84 fl_X11_39 rfl (by decide) rfl hR rfl ?_
      refine g_getI (pc := 87) X dX11_count_87 rfl (by decide) fl_X11_212 (Or.inl rfl) ?_
      exact g_ireturn (pc := 90) X Y dX11_count_90 (Nat.le_of_ble_eq_true rfl) (Nat.le_of_ble_eq_true rfl) ⟨_, rfl, hR, h⟩
    replace h := h.2 q4
    by_cases q5 : p0 = nI 4
    · replace h := h.1 q5
      refine g_tableIn (pc := 1) X dX11_count_1 (tgt := 91) (by rw [q5]; decide) (by rw [q5]; decide) (by rw [q5]; rfl) (by decide) ?_
      refine g_aload_0 (pc := 91) X dX11_count_91 ?_
      refine g_getRf (pc := 92) X dX11_count_92 fl_X11_48 rfl (by decide) rfl hR rfl ?_
      refine g_callV_I (pc := 95) X Y dX11_count_95 miX2_heapCount li_X11_371 (t_X2_heapCount hR  h) rfl (by decide) rfl ⟨_, rfl⟩ rfl ⟨Nat.le_of_ble_eq_true rfl, Nat.le_of_ble_eq_true rfl⟩ (Nat.le_of_ble_eq_true rfl) (Nat.le_of_ble_eq_true rfl) rfl (by exact Nat.le_of_ble_eq_true rfl) (fun x6 σ9 hp => ?_)
      obtain ⟨rfl, h⟩ := hp
      exact g_ireturn (pc := 98) X Y dX11_count_98 (Nat.le_of_ble_eq_true rfl) (Nat.le_of_ble_eq_true rfl) ⟨_, rfl, hR, h⟩
    replace h := h.2 q5
    by_cases q7 : p0 = nI 5
    · replace h := h.1 q7
      refine g_tableIn (pc := 1) X dX11_count_1 (tgt := 99) (by rw [q7]; decide) (by rw [q7]; decide) (by rw [q7]; rfl) (by decide) ?_
      refine g_aload_0 (pc := 99) X dX11_count_99 ?_
      refine g_getRf (pc := 100) X dX11_count_100 fl_X11_73 rfl (by decide) rfl hR rfl ?_
      refine g_aload_0 (pc := 103) X dX11_count_103 ?_
      refine g_getRf (pc := 104) X dX11_count_104 fl_X11_12 rfl (by decide) rfl hR rfl ?_
      refine g_callV_I (pc := 107) X Y dX11_count_107 miX1_everyone li_X11_319 (t_WPI hR  h) rfl (by decide) rfl ⟨_, rfl⟩ rfl ⟨Nat.le_of_ble_eq_true rfl, Nat.le_of_ble_eq_true rfl⟩ (Nat.le_of_ble_eq_true rfl) (Nat.le_of_ble_eq_true rfl) rfl (by exact Nat.le_of_ble_eq_true rfl) (fun x8 σ9 hp => ?_)
      obtain ⟨rfl, h⟩ := hp
      refine g_callV_I (pc := 110) X Y dX11_count_110 miX6_find li_X11_374 (t_X6_find hR  h) rfl (by decide) rfl ⟨_, rfl⟩ rfl ⟨Nat.le_of_ble_eq_true rfl, Nat.le_of_ble_eq_true rfl⟩ (Nat.le_of_ble_eq_true rfl) (Nat.le_of_ble_eq_true rfl) rfl (by exact Nat.le_of_ble_eq_true rfl) (fun x9 s10 hp => ?_)
      obtain ⟨hR, h⟩ := hp
      exact g_ireturn (pc := 113) X Y dX11_count_113 (Nat.le_of_ble_eq_true rfl) (Nat.le_of_ble_eq_true rfl) ⟨_, rfl, hR, h⟩
    replace h := h.2 q7
    by_cases q11 : p0 = nI 6
    · replace h := h.1 q11
      refine g_tableIn (pc := 1) X dX11_count_1 (tgt := 114) (by rw [q11]; decide) (by rw [q11]; decide) (by rw [q11]; rfl) (by decide) ?_
      refine g_aload_0 (pc := 114) X dX11_count_114 ?_
      refine g_getRf (pc := 115) X dX11_count_115 fl_X11_66 rfl (by decide) rfl hR rfl ?_
      refine g_getI (pc := 118) X dX11_count_118 rfl (by decide) fl_X11_293 (Or.inl rfl) ?_
      exact g_ireturn (pc := 121) X Y dX11_count_121 (Nat.le_of_ble_eq_true rfl) (Nat.le_of_ble_eq_true rfl) ⟨_, rfl, hR, h⟩
    replace h := h.2 q11
    by_cases q12 : p0 = nI 7
    · replace h := h.1 q12
      refine g_tableIn (pc := 1) X dX11_count_1 (tgt := 122) (by rw [q12]; decide) (by rw [q12]; decide) (by rw [q12]; rfl) (by decide) ?_
      refine g_aload_0 (pc := 122) X dX11_count_122 ?_
      refine g_getRf (pc := 123) X dX11_count_123 fl_X11_48 rfl (by decide) rfl hR rfl ?_
      refine g_getI (pc := 126) X dX11_count_126 rfl (by decide) fl_X11_365 (Or.inl rfl) ?_
      exact g_ireturn (pc := 129) X Y dX11_count_129 (Nat.le_of_ble_eq_true rfl) (Nat.le_of_ble_eq_true rfl) ⟨_, rfl, hR, h⟩
    replace h := h.2 q12
    by_cases q13 : p0 = nI 8
    · replace h := h.1 q13
      refine g_tableIn (pc := 1) X dX11_count_1 (tgt := 130) (by rw [q13]; decide) (by rw [q13]; decide) (by rw [q13]; rfl) (by decide) ?_
      refine g_aload_0 (pc := 130) X dX11_count_130 ?_
      refine g_getRf (pc := 131) X dX11_count_131 fl_X11_21 rfl (by decide) rfl hR rfl ?_
      refine g_getI (pc := 134) X dX11_count_134 rfl (by decide) fl_X11_150 (Or.inl rfl) ?_
      exact g_ireturn (pc := 137) X Y dX11_count_137 (Nat.le_of_ble_eq_true rfl) (Nat.le_of_ble_eq_true rfl) ⟨_, rfl, hR, h⟩
    replace h := h.2 q13
    by_cases q14 : p0 = nI 9
    · replace h := h.1 q14
      refine g_tableIn (pc := 1) X dX11_count_1 (tgt := 138) (by rw [q14]; decide) (by rw [q14]; decide) (by rw [q14]; rfl) (by decide) ?_
      refine g_aload_0 (pc := 138) X dX11_count_138 ?_
      refine g_getRf (pc := 139) X dX11_count_139 fl_X11_30 rfl (by decide) rfl hR rfl ?_
      refine g_callV_I (pc := 142) X Y dX11_count_142 miX4_passedCount li_X11_377 (t_X4_passedCount hR  h) rfl (by decide) rfl ⟨_, rfl⟩ rfl ⟨Nat.le_of_ble_eq_true rfl, Nat.le_of_ble_eq_true rfl⟩ (Nat.le_of_ble_eq_true rfl) (Nat.le_of_ble_eq_true rfl) rfl (by exact Nat.le_of_ble_eq_true rfl) (fun x15 σ9 hp => ?_)
      obtain ⟨rfl, h⟩ := hp
      exact g_ireturn (pc := 145) X Y dX11_count_145 (Nat.le_of_ble_eq_true rfl) (Nat.le_of_ble_eq_true rfl) ⟨_, rfl, hR, h⟩
    replace h := h.2 q14
    refine g_tableOut (pc := 1) X dX11_count_1 (tgt := 146) (tsw_out (lo := 0) (m := 10) (by decide) (fun i hi => ?_)) (by decide) ?_
    · have hi : i = 0 ∨ i = 1 ∨ i = 2 ∨ i = 3 ∨ i = 4 ∨ i = 5 ∨ i = 6 ∨ i = 7 ∨ i = 8 ∨ i = 9 := by omega
      rcases hi with rfl | rfl | rfl | rfl | rfl | rfl | rfl | rfl | rfl | rfl
      · exact q1
      · exact q2
      · exact q3
      · exact q4
      · exact q5
      · exact q7
      · exact q11
      · exact q12
      · exact q13
      · exact q14
    refine g_iconst (pc := 146) X dX11_count_146 kiconst_m1 ?_
    exact g_ireturn (pc := 147) X Y dX11_count_147 (Nat.le_of_ble_eq_true rfl) (Nat.le_of_ble_eq_true rfl) ⟨_, rfl, hR, h⟩
