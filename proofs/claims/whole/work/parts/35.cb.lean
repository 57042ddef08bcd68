def W_X0_seekChanging (p0 : Int32) (p1 : Int32) (Q : gSt → Prop) (σ : gSt) : Prop := rI σ 34 30 p0 (fun x1 => rI σ 34 30 p1 (fun x2 => ((x1 = x2 → (Q σ)) ∧ (¬ x1 = x2 → (W_X0_isHeldBack p0 (fun x4 => ((x4 = 0 → (W_X0_isHeldBack p1 (fun x6 => ((x6 = 0 → (rI σ 39 30 p0 (fun x8 => rI σ 40 30 x2 (fun x9 => ∀ J11 : Int32 → Prop, (∀ x10, (((x10 = 0 → (W_X0_pullTo p0 x1 (fun x13 => W_X0_pullTo p1 x2 (fun x14 => W_X0_pullTo p0 x2 (fun x15 => W_X0_pullTo p1 x1 (fun x16 => WPI mX4_pull 1 (fun o => [.ref (ad o 16), .int p0, .int p1]) (fun x17 => W_X0_offer (((σ.2.1 38 7) + ((i2l x13) + (i2l x14))) - (((i2l x15) + (i2l x16)) - (((2 : Int64)) * (i2l x17)))) (nI 2) p0 p1 (fun s18 => Q s18) σ) σ) σ) σ) σ) σ)) ∧ (¬ x10 = 0 → (Q σ)))) → J11 x10) → ∀ J19 : Prop, ((J11 (nI 1)) → J19) → ((((x8 &&& x9) &&& (((nI 1) <<< (p1 &&& 31)) ^^^ ((-1 : Int32)))) = 0 → (rI σ 39 30 p1 (fun x21 => rI σ 40 30 x1 (fun x22 => ((((x21 &&& x22) &&& (((nI 1) <<< (p0 &&& 31)) ^^^ ((-1 : Int32)))) = 0 → (J11 (nI 0))) ∧ (¬ ((x21 &&& x22) &&& (((nI 1) <<< (p0 &&& 31)) ^^^ ((-1 : Int32)))) = 0 → J19)))))) ∧ (¬ ((x8 &&& x9) &&& (((nI 1) <<< (p1 &&& 31)) ^^^ ((-1 : Int32)))) = 0 → J19)))))) ∧ (¬ x6 = 0 → (Q σ)))) σ)) ∧ (¬ x4 = 0 → (Q σ)))) σ)))))
set_option maxHeartbeats 4000000 in
theorem t_X0_seekChanging {o : gOm} {l : Launch} {b : Bool}   {σ : gSt} (hR : σ.2.2 = gRf b) {p0 : Int32} {p1 : Int32} {Q : gSt → Prop} (h : W_X0_seekChanging p0 p1 Q σ) : Sp o l mX0_seekChanging 2 0 0 [.ref (ad o 38), .int p0, .int p1] 116 116 σ (pV (fun s => s.2.2 = gRf b ∧ Q s)) := by
  unfold W_X0_seekChanging at h
  refine Sp.of (ls0 := [some (.ref (ad o 38)), some (.int p0), some (.int p1), none, none, none, none, none, none, none]) miX0_seekChanging rfl (Nat.le_of_ble_eq_true rfl) rfl (fun γ hγ hnm X Y => ?_)
  subst hγ
  have X : gX o γ cX0_seekChanging 10 RX0 := X
  refine g_aload_0 (pc := 0) X dX0_seekChanging_0 ?_
  refine g_getRf (pc := 1) X dX0_seekChanging_1 fl_X0_21 rfl (by decide) rfl hR rfl ?_
  refine g_getRf (pc := 4) X dX0_seekChanging_4 fl_X0_101 rfl (by decide) rfl hR rfl ?_
  refine g_iload_1 (pc := 7) X dX0_seekChanging_7 ?_
  refine g_iaload_w (pc := 8) X dX0_seekChanging_8 rfl (by decide) h (fun x1 h => ?_)
  refine g_istore_3 (pc := 9) X dX0_seekChanging_9 (by decide) rfl ?_
  refine g_aload_0 (pc := 10) X dX0_seekChanging_10 ?_
  refine g_getRf (pc := 11) X dX0_seekChanging_11 fl_X0_21 rfl (by decide) rfl hR rfl ?_
  refine g_getRf (pc := 14) X dX0_seekChanging_14 fl_X0_101 rfl (by decide) rfl hR rfl ?_
  refine g_iload_2 (pc := 17) X dX0_seekChanging_17 ?_
  refine g_iaload_w (pc := 18) X dX0_seekChanging_18 rfl (by decide) h (fun x2 h => ?_)
  refine g_istore_4 (pc := 19) X dX0_seekChanging_19 (by decide) rfl ?_
  refine g_iload_3 (pc := 21) X dX0_seekChanging_21 ?_
  refine g_iload_4 (pc := 22) X dX0_seekChanging_22 ?_
  refine g_icmp_eq (pc := 24) X dX0_seekChanging_24 (tgt := 43) (by decide) (fun q3 => ?_) (fun q3 => ?_)
  · replace h := h.1 q3
    exact g_return (pc := 43) X Y dX0_seekChanging_43 (Nat.le_of_ble_eq_true rfl) (Nat.le_of_ble_eq_true rfl) ⟨rfl, hR, h⟩
  · replace h := h.2 q3
    refine g_aload_0 (pc := 27) X dX0_seekChanging_27 ?_
    refine g_iload_1 (pc := 28) X dX0_seekChanging_28 ?_
    refine g_callV_I (pc := 29) X Y dX0_seekChanging_29 miX0_isHeldBack li_X0_113 (t_X0_isHeldBack hR  h) rfl (by decide) rfl ⟨_, rfl⟩ rfl ⟨Nat.le_of_ble_eq_true rfl, Nat.le_of_ble_eq_true rfl⟩ (Nat.le_of_ble_eq_true rfl) (Nat.le_of_ble_eq_true rfl) rfl (by exact Nat.le_of_ble_eq_true rfl) (fun x4 σ9 hp => ?_)
    obtain ⟨rfl, h⟩ := hp
    refine g_if_ne (pc := 32) X dX0_seekChanging_32 (tgt := 43) (by decide) (fun q5 => ?_) (fun q5 => ?_)
    · replace h := h.2 q5
      exact g_return (pc := 43) X Y dX0_seekChanging_43 (Nat.le_of_ble_eq_true rfl) (Nat.le_of_ble_eq_true rfl) ⟨rfl, hR, h⟩
    · replace h := h.1 q5
      refine g_aload_0 (pc := 35) X dX0_seekChanging_35 ?_
      refine g_iload_2 (pc := 36) X dX0_seekChanging_36 ?_
      refine g_callV_I (pc := 37) X Y dX0_seekChanging_37 miX0_isHeldBack li_X0_113 (t_X0_isHeldBack hR  h) rfl (by decide) rfl ⟨_, rfl⟩ rfl ⟨Nat.le_of_ble_eq_true rfl, Nat.le_of_ble_eq_true rfl⟩ (Nat.le_of_ble_eq_true rfl) (Nat.le_of_ble_eq_true rfl) rfl (by exact Nat.le_of_ble_eq_true rfl) (fun x6 σ9 hp => ?_)
      obtain ⟨rfl, h⟩ := hp
      refine g_if_eq (pc := 40) X dX0_seekChanging_40 (tgt := 44) (by decide) (fun q7 => ?_) (fun q7 => ?_)
      · replace h := h.1 q7
        refine g_aload_0 (pc := 44) X dX0_seekChanging_44 ?_
        refine g_getRf (pc := 45) X dX0_seekChanging_45 fl_X0_9 rfl (by decide) rfl hR rfl ?_
        refine g_iload_1 (pc := 48) X dX0_seekChanging_48 ?_
        refine g_iaload_w (pc := 49) X dX0_seekChanging_49 rfl (by decide) h (fun x8 h => ?_)
        refine g_aload_0 (pc := 50) X dX0_seekChanging_50 ?_
        refine g_getRf (pc := 51) X dX0_seekChanging_51 fl_X0_15 rfl (by decide) rfl hR rfl ?_
        refine g_iload_4 (pc := 54) X dX0_seekChanging_54 ?_
        refine g_iaload_w (pc := 56) X dX0_seekChanging_56 rfl (by decide) h (fun x9 h => ?_)
        refine g_iand (pc := 57) X dX0_seekChanging_57 ?_
        refine g_iconst (pc := 58) X dX0_seekChanging_58 kiconst_1 ?_
        refine g_iload_2 (pc := 59) X dX0_seekChanging_59 ?_
        refine g_ishl (pc := 60) X dX0_seekChanging_60 ?_
        refine g_iconst (pc := 61) X dX0_seekChanging_61 kiconst_m1 ?_
        refine g_ixor (pc := 62) X dX0_seekChanging_62 ?_
        refine g_iand (pc := 63) X dX0_seekChanging_63 ?_
        replace h := h (fun x10 => G o γ 0 0 116 σ 94 [some (.ref (ad o 38)), some (.int p0), some (.int p1), some (.int x1), some (.int x2), none, none, none, none, none] [.int x10]) (by
            intro x10 h
            refine g_istore_5 (pc := 94) X dX0_seekChanging_94 (by decide) rfl ?_
            refine g_iload_5 (pc := 96) X dX0_seekChanging_96 ?_
            refine g_if_ne (pc := 98) X dX0_seekChanging_98 (tgt := 169) (by decide) (fun q12 => ?_) (fun q12 => ?_)
            · replace h := h.2 q12
              exact g_return (pc := 169) X Y dX0_seekChanging_169 (Nat.le_of_ble_eq_true rfl) (Nat.le_of_ble_eq_true rfl) ⟨rfl, hR, h⟩
            · replace h := h.1 q12
              refine g_aload_0 (pc := 101) X dX0_seekChanging_101 ?_
              refine g_iload_1 (pc := 102) X dX0_seekChanging_102 ?_
              refine g_iload_3 (pc := 103) X dX0_seekChanging_103 ?_
              refine g_callV_I (pc := 104) X Y dX0_seekChanging_104 miX0_pullTo li_X0_117 (t_X0_pullTo hR  h) rfl (by decide) rfl ⟨_, rfl⟩ rfl ⟨Nat.le_of_ble_eq_true rfl, Nat.le_of_ble_eq_true rfl⟩ (Nat.le_of_ble_eq_true rfl) (Nat.le_of_ble_eq_true rfl) rfl (by exact Nat.le_of_ble_eq_true rfl) (fun x13 σ9 hp => ?_)
              obtain ⟨rfl, h⟩ := hp
              refine g_i2l (pc := 107) X dX0_seekChanging_107 ?_
              refine g_aload_0 (pc := 108) X dX0_seekChanging_108 ?_
              refine g_iload_2 (pc := 109) X dX0_seekChanging_109 ?_
              refine g_iload_4 (pc := 110) X dX0_seekChanging_110 ?_
              refine g_callV_I (pc := 112) X Y dX0_seekChanging_112 miX0_pullTo li_X0_117 (t_X0_pullTo hR  h) rfl (by decide) rfl ⟨_, rfl⟩ rfl ⟨Nat.le_of_ble_eq_true rfl, Nat.le_of_ble_eq_true rfl⟩ (Nat.le_of_ble_eq_true rfl) (Nat.le_of_ble_eq_true rfl) rfl (by exact Nat.le_of_ble_eq_true rfl) (fun x14 σ9 hp => ?_)
              obtain ⟨rfl, h⟩ := hp
              refine g_i2l (pc := 115) X dX0_seekChanging_115 ?_
              refine g_ladd (pc := 116) X dX0_seekChanging_116 ?_
              refine g_lstore_6 (pc := 117) X dX0_seekChanging_117 (by decide) rfl ?_
              refine g_aload_0 (pc := 119) X dX0_seekChanging_119 ?_
              refine g_iload_1 (pc := 120) X dX0_seekChanging_120 ?_
              refine g_iload_4 (pc := 121) X dX0_seekChanging_121 ?_
              refine g_callV_I (pc := 123) X Y dX0_seekChanging_123 miX0_pullTo li_X0_117 (t_X0_pullTo hR  h) rfl (by decide) rfl ⟨_, rfl⟩ rfl ⟨Nat.le_of_ble_eq_true rfl, Nat.le_of_ble_eq_true rfl⟩ (Nat.le_of_ble_eq_true rfl) (Nat.le_of_ble_eq_true rfl) rfl (by exact Nat.le_of_ble_eq_true rfl) (fun x15 σ9 hp => ?_)
              obtain ⟨rfl, h⟩ := hp
              refine g_i2l (pc := 126) X dX0_seekChanging_126 ?_
              refine g_aload_0 (pc := 127) X dX0_seekChanging_127 ?_
              refine g_iload_2 (pc := 128) X dX0_seekChanging_128 ?_
              refine g_iload_3 (pc := 129) X dX0_seekChanging_129 ?_
              refine g_callV_I (pc := 130) X Y dX0_seekChanging_130 miX0_pullTo li_X0_117 (t_X0_pullTo hR  h) rfl (by decide) rfl ⟨_, rfl⟩ rfl ⟨Nat.le_of_ble_eq_true rfl, Nat.le_of_ble_eq_true rfl⟩ (Nat.le_of_ble_eq_true rfl) (Nat.le_of_ble_eq_true rfl) rfl (by exact Nat.le_of_ble_eq_true rfl) (fun x16 σ9 hp => ?_)
              obtain ⟨rfl, h⟩ := hp
              refine g_i2l (pc := 133) X dX0_seekChanging_133 ?_
              refine g_ladd (pc := 134) X dX0_seekChanging_134 ?_
              refine g_ldc2 (pc := 135) X dX0_seekChanging_135 ct_X0_134 ?_
              refine g_aload_0 (pc := 138) X dX0_seekChanging_138 ?_
              refine g_getRf (pc := 139) X dX0_seekChanging_139 fl_X0_25 rfl (by decide) rfl hR rfl ?_
              refine g_iload_1 (pc := 142) X dX0_seekChanging_142 ?_
              refine g_iload_2 (pc := 143) X dX0_seekChanging_143 ?_
              refine g_callV_I (pc := 144) X Y dX0_seekChanging_144 miX4_pull li_X0_104 (t_WPI hR  h) rfl (by decide) rfl ⟨_, rfl⟩ rfl ⟨Nat.le_of_ble_eq_true rfl, Nat.le_of_ble_eq_true rfl⟩ (Nat.le_of_ble_eq_true rfl) (Nat.le_of_ble_eq_true rfl) rfl (by exact Nat.le_of_ble_eq_true rfl) (fun x17 σ9 hp => ?_)
              obtain ⟨rfl, h⟩ := hp
              refine g_i2l (pc := 147) X dX0_seekChanging_147 ?_
              refine g_lmul (pc := 148) X dX0_seekChanging_148 ?_
              refine g_lsub (pc := 149) X dX0_seekChanging_149 ?_
              refine g_lstore_8 (pc := 150) X dX0_seekChanging_150 (by decide) rfl ?_
              refine g_aload_0 (pc := 152) X dX0_seekChanging_152 ?_
              refine g_aload_0 (pc := 153) X dX0_seekChanging_153 ?_
              refine g_getL (pc := 154) X dX0_seekChanging_154 rfl (by decide) fl_X0_61 rfl ?_
              refine g_lload_6 (pc := 157) X dX0_seekChanging_157 ?_
              refine g_ladd (pc := 159) X dX0_seekChanging_159 ?_
              refine g_lload_8 (pc := 160) X dX0_seekChanging_160 ?_
              refine g_lsub (pc := 162) X dX0_seekChanging_162 ?_
              refine g_iconst (pc := 163) X dX0_seekChanging_163 kiconst_2 ?_
              refine g_iload_1 (pc := 164) X dX0_seekChanging_164 ?_
              refine g_iload_2 (pc := 165) X dX0_seekChanging_165 ?_
              refine g_callV_V (pc := 166) X Y dX0_seekChanging_166 miX0_offer li_X0_130 (t_X0_offer hR  h) rfl (by decide) rfl ⟨_, rfl⟩ rfl ⟨Nat.le_of_ble_eq_true rfl, Nat.le_of_ble_eq_true rfl⟩ (Nat.le_of_ble_eq_true rfl) (Nat.le_of_ble_eq_true rfl) rfl (by exact Nat.le_of_ble_eq_true rfl) (fun s18 hp => ?_)
              obtain ⟨hR, h⟩ := hp
              exact g_return (pc := 169) X Y dX0_seekChanging_169 (Nat.le_of_ble_eq_true rfl) (Nat.le_of_ble_eq_true rfl) ⟨rfl, hR, h⟩)
        replace h := h (G o γ 0 0 116 σ 89 [some (.ref (ad o 38)), some (.int p0), some (.int p1), some (.int x1), some (.int x2), none, none, none, none, none] []) (by
            intro  h
            refine g_iconst (pc := 89) X dX0_seekChanging_89 kiconst_1 ?_
            refine g_goto (pc := 90) X dX0_seekChanging_90 (tgt := 94) (by decide) ?_
            exact h)
        refine g_if_ne (pc := 64) X dX0_seekChanging_64 (tgt := 89) (by decide) (fun q20 => ?_) (fun q20 => ?_)
        · replace h := h.2 q20
          exact h
        · replace h := h.1 q20
          refine g_aload_0 (pc := 67) X dX0_seekChanging_67 ?_
          refine g_getRf (pc := 68) X dX0_seekChanging_68 fl_X0_9 rfl (by decide) rfl hR rfl ?_
          refine g_iload_2 (pc := 71) X dX0_seekChanging_71 ?_
          refine g_iaload_w (pc := 72) X dX0_seekChanging_72 rfl (by decide) h (fun x21 h => ?_)
          refine g_aload_0 (pc := 73) X dX0_seekChanging_73 ?_
          refine g_getRf (pc := 74) X dX0_seekChanging_74 fl_X0_15 rfl (by decide) rfl hR rfl ?_
          refine g_iload_3 (pc := 77) X dX0_seekChanging_77 ?_
          refine g_iaload_w (pc := 78) X dX0_seekChanging_78 rfl (by decide) h (fun x22 h => ?_)
          refine g_iand (pc := 79) X dX0_seekChanging_79 ?_
          refine g_iconst (pc := 80) X dX0_seekChanging_80 kiconst_1 ?_
          refine g_iload_1 (pc := 81) X dX0_seekChanging_81 ?_
          refine g_ishl (pc := 82) X dX0_seekChanging_82 ?_
          refine g_iconst (pc := 83) X dX0_seekChanging_83 kiconst_m1 ?_
          refine g_ixor (pc := 84) X dX0_seekChanging_84 ?_
          refine g_iand (pc := 85) X dX0_seekChanging_85 ?_
          refine g_if_eq (pc := 86) X dX0_seekChanging_86 (tgt := 93) (by decide) (fun q23 => ?_) (fun q23 => ?_)
          · replace h := h.1 q23
            refine g_iconst (pc := 93) X dX0_seekChanging_93 kiconst_0 ?_
            exact h
          · replace h := h.2 q23
            exact h
      · replace h := h.2 q7
        exact g_return (pc := 43) X Y dX0_seekChanging_43 (Nat.le_of_ble_eq_true rfl) (Nat.le_of_ble_eq_true rfl) ⟨rfl, hR, h⟩
def L_X0_seek_19 (Q : gSt → Prop)  (K : gSt → Prop) : Nat → Int32 → gSt → Prop
  | 0, _, _ => False
  | n19 + 1, v4, s5 => (((s5.1 33 1) ≤ v4 → (K s5)) ∧ (¬ (s5.1 33 1) ≤ v4 → (W_X0_seekGoing v4 (fun s8 => L_X0_seek_19 Q K n19 (v4 + nI 1) s8) s5)))
def L_X0_seek_58 (Q : gSt → Prop) (c15 : Int32) (K : gSt → Prop) : Nat → Int32 → gSt → Prop
  | 0, _, _ => False
  | n58 + 1, v16, s17 => (((s17.1 33 1) ≤ v16 → (K s17)) ∧ (¬ (s17.1 33 1) ≤ v16 → (W_X0_seekJoining c15 v16 (fun s20 => L_X0_seek_58 Q c15 K n58 (v16 + nI 1) s20) s17)))
def L_X0_seek_43 (Q : gSt → Prop)  (K : gSt → Prop) : Nat → Int32 → gSt → Prop
  | 0, _, _ => False
  | n43 + 1, v11, s12 => (((s12.1 33 1) ≤ v11 → (K s12)) ∧ (¬ (s12.1 33 1) ≤ v11 → (∃ m58, L_X0_seek_58 Q v11 (fun s22 => L_X0_seek_43 Q K n43 (v11 + nI 1) s22) m58 (v11 + (nI 1)) s12)))
def L_X0_seek_104 (Q : gSt → Prop) (c29 : Int32) (K : gSt → Prop) : Nat → Int32 → gSt → Prop
  | 0, _, _ => False
  | n104 + 1, v30, s31 => (((s31.1 33 1) ≤ v30 → (K s31)) ∧ (¬ (s31.1 33 1) ≤ v30 → (W_X0_seekChanging c29 v30 (fun s34 => L_X0_seek_104 Q c29 K n104 (v30 + nI 1) s34) s31)))
def L_X0_seek_89 (Q : gSt → Prop)  (K : gSt → Prop) : Nat → Int32 → gSt → Prop
  | 0, _, _ => False
  | n89 + 1, v25, s26 => (((s26.1 33 1) ≤ v25 → (K s26)) ∧ (¬ (s26.1 33 1) ≤ v25 → (∃ m104, L_X0_seek_104 Q v25 (fun s36 => L_X0_seek_89 Q K n89 (v25 + nI 1) s36) m104 (v25 + (nI 1)) s26)))
def W_X0_seek  (Q : gSt → Prop) (σ : gSt) : Prop := W_X0_measure (fun s1 => fI s1 38 0 ((-1 : Int32)) (fun s2 => fL s2 38 3 (s2.2.1 38 7) (fun s3 => ∃ m19, L_X0_seek_19 Q (fun s10 => ∃ m43, L_X0_seek_43 Q (fun s24 => ∃ m89, L_X0_seek_89 Q (fun s38 => Q s38) m89 (nI 0) s24) m43 (nI 0) s10) m19 (nI 0) s3))) σ
set_option maxHeartbeats 4000000 in
theorem t_X0_seek {o : gOm} {l : Launch} {b : Bool}   {σ : gSt} (hR : σ.2.2 = gRf b)  {Q : gSt → Prop} (h : W_X0_seek  Q σ) : Sp o l mX0_seek 4 0 0 [.ref (ad o 38)] 116 116 σ (pV (fun s => s.2.2 = gRf b ∧ Q s)) := by
  unfold W_X0_seek at h
  refine Sp.of (ls0 := [some (.ref (ad o 38)), none, none]) miX0_seek rfl (Nat.le_of_ble_eq_true rfl) rfl (fun γ hγ hnm X Y => ?_)
  subst hγ
  have X : gX o γ cX0_seek 3 RX0 := X
  refine g_aload_0 (pc := 0) X dX0_seek_0 ?_
  refine g_callV_V (pc := 1) X Y dX0_seek_1 miX0_measure li_X0_55 (t_X0_measure hR  h) rfl (by decide) rfl ⟨_, rfl⟩ rfl ⟨Nat.le_of_ble_eq_true rfl, Nat.le_of_ble_eq_true rfl⟩ (Nat.le_of_ble_eq_true rfl) (Nat.le_of_ble_eq_true rfl) rfl (by exact Nat.le_of_ble_eq_true rfl) (fun s1 hp => ?_)
  obtain ⟨hR, h⟩ := hp
  refine g_aload_0 (pc := 4) X dX0_seek_4 ?_
  refine g_iconst (pc := 5) X dX0_seek_5 kiconst_m1 ?_
  refine g_putI_w (pc := 6) X dX0_seek_6 fl_X0_58 rfl (by decide) rfl rfl hR h (fun s2 hR h => ?_)
  refine g_aload_0 (pc := 9) X dX0_seek_9 ?_
  refine g_aload_0 (pc := 10) X dX0_seek_10 ?_
  refine g_getL (pc := 11) X dX0_seek_11 rfl (by decide) fl_X0_61 rfl ?_
  refine g_putL_w (pc := 14) X dX0_seek_14 fl_X0_65 rfl (by decide) rfl rfl hR h (fun s3 hR h => ?_)
  refine g_iconst (pc := 17) X dX0_seek_17 kiconst_0 ?_
  refine g_istore_1 (pc := 18) X dX0_seek_18 (by decide) rfl ?_
  obtain ⟨n9, h⟩ := h
  have hL : ∀  (K : gSt → Prop) (_ : ∀  (s6 : gSt), s6.2.2 = gRf b → K s6 → G o γ 0 0 116 s6 41 [some (.ref (ad o 38)), none, none] []) (n : Nat) (v4 : Int32) (s5 : gSt), s5.2.2 = gRf b → L_X0_seek_19 Q K n v4 s5 → G o γ 0 0 116 s5 19 [some (.ref (ad o 38)), some (.int v4), none] [] := by
    intro K hK n
    induction n with
    | zero => intro v4 s5 hR h; exact False.elim h
    | succ n ih =>
      intro v4 s5 hR h
      rw [L_X0_seek_19] at h
      refine g_iload_1 (pc := 19) X dX0_seek_19 ?_
      refine g_aload_0 (pc := 20) X dX0_seek_20 ?_
      refine g_getRf (pc := 21) X dX0_seek_21 fl_X0_21 rfl (by decide) rfl hR rfl ?_
      refine g_getI (pc := 24) X dX0_seek_24 rfl (by decide) fl_X0_39 (Or.inl rfl) ?_
      refine g_icmp_ge (pc := 27) X dX0_seek_27 (tgt := 41) (by decide) (fun q7 => ?_) (fun q7 => ?_)
      · replace h := h.1 q7
        exact g_drop (by simp [lsub]) (hK s5 hR h)
      · replace h := h.2 q7
        refine g_aload_0 (pc := 30) X dX0_seek_30 ?_
        refine g_iload_1 (pc := 31) X dX0_seek_31 ?_
        refine g_callV_V (pc := 32) X Y dX0_seek_32 miX0_seekGoing li_X0_68 (t_X0_seekGoing hR  h) rfl (by decide) rfl ⟨_, rfl⟩ rfl ⟨Nat.le_of_ble_eq_true rfl, Nat.le_of_ble_eq_true rfl⟩ (Nat.le_of_ble_eq_true rfl) (Nat.le_of_ble_eq_true rfl) rfl (by exact Nat.le_of_ble_eq_true rfl) (fun s8 hp => ?_)
        obtain ⟨hR, h⟩ := hp
        refine g_iinc_1 (pc := 35) X dX0_seek_35 (v := v4 + nI 1) rfl (by decide) rfl ?_
        refine g_goto (pc := 38) X dX0_seek_38 (tgt := 19) (by decide) ?_
        exact ih (v4 + nI 1) s8 hR h
  refine hL  _ (fun s10 hR h => ?_) n9 (nI 0) s3 hR h
  · refine g_iconst (pc := 41) X dX0_seek_41 kiconst_0 ?_
    refine g_istore_1 (pc := 42) X dX0_seek_42 (by decide) rfl ?_
    obtain ⟨n23, h⟩ := h
    have hL : ∀  (K : gSt → Prop) (_ : ∀  (s13 : gSt), s13.2.2 = gRf b → K s13 → G o γ 0 0 116 s13 87 [some (.ref (ad o 38)), none, none] []) (n : Nat) (v11 : Int32) (s12 : gSt), s12.2.2 = gRf b → L_X0_seek_43 Q K n v11 s12 → G o γ 0 0 116 s12 43 [some (.ref (ad o 38)), some (.int v11), none] [] := by
      intro K hK n
      induction n with
      | zero => intro v11 s12 hR h; exact False.elim h
      | succ n ih =>
        intro v11 s12 hR h
        rw [L_X0_seek_43] at h
        refine g_iload_1 (pc := 43) X dX0_seek_43 ?_
        refine g_aload_0 (pc := 44) X dX0_seek_44 ?_
        refine g_getRf (pc := 45) X dX0_seek_45 fl_X0_21 rfl (by decide) rfl hR rfl ?_
        refine g_getI (pc := 48) X dX0_seek_48 rfl (by decide) fl_X0_39 (Or.inl rfl) ?_
        refine g_icmp_ge (pc := 51) X dX0_seek_51 (tgt := 87) (by decide) (fun q14 => ?_) (fun q14 => ?_)
        · replace h := h.1 q14
          exact g_drop (by simp [lsub]) (hK s12 hR h)
        · replace h := h.2 q14
          refine g_iload_1 (pc := 54) X dX0_seek_54 ?_
          refine g_iconst (pc := 55) X dX0_seek_55 kiconst_1 ?_
          refine g_iadd (pc := 56) X dX0_seek_56 ?_
          refine g_istore_2 (pc := 57) X dX0_seek_57 (by decide) rfl ?_
          obtain ⟨n21, h⟩ := h
          have hL : ∀ (c15 : Int32) (K : gSt → Prop) (_ : ∀  (s18 : gSt), s18.2.2 = gRf b → K s18 → G o γ 0 0 116 s18 81 [some (.ref (ad o 38)), some (.int c15), none] []) (n : Nat) (v16 : Int32) (s17 : gSt), s17.2.2 = gRf b → L_X0_seek_58 Q c15 K n v16 s17 → G o γ 0 0 116 s17 58 [some (.ref (ad o 38)), some (.int c15), some (.int v16)] [] := by
            intro c15 K hK n
            induction n with
            | zero => intro v16 s17 hR h; exact False.elim h
            | succ n ih =>
              intro v16 s17 hR h
              rw [L_X0_seek_58] at h
              refine g_iload_2 (pc := 58) X dX0_seek_58 ?_
              refine g_aload_0 (pc := 59) X dX0_seek_59 ?_
              refine g_getRf (pc := 60) X dX0_seek_60 fl_X0_21 rfl (by decide) rfl hR rfl ?_
              refine g_getI (pc := 63) X dX0_seek_63 rfl (by decide) fl_X0_39 (Or.inl rfl) ?_
              refine g_icmp_ge (pc := 66) X dX0_seek_66 (tgt := 81) (by decide) (fun q19 => ?_) (fun q19 => ?_)
              · replace h := h.1 q19
                exact g_drop (by simp [lsub]) (hK s17 hR h)
              · replace h := h.2 q19
                refine g_aload_0 (pc := 69) X dX0_seek_69 ?_
                refine g_iload_1 (pc := 70) X dX0_seek_70 ?_
                refine g_iload_2 (pc := 71) X dX0_seek_71 ?_
                refine g_callV_V (pc := 72) X Y dX0_seek_72 miX0_seekJoining li_X0_72 (t_X0_seekJoining hR  h) rfl (by decide) rfl ⟨_, rfl⟩ rfl ⟨Nat.le_of_ble_eq_true rfl, Nat.le_of_ble_eq_true rfl⟩ (Nat.le_of_ble_eq_true rfl) (Nat.le_of_ble_eq_true rfl) rfl (by exact Nat.le_of_ble_eq_true rfl) (fun s20 hp => ?_)
                obtain ⟨hR, h⟩ := hp
                refine g_iinc_2 (pc := 75) X dX0_seek_75 (v := v16 + nI 1) rfl (by decide) rfl ?_
                refine g_goto (pc := 78) X dX0_seek_78 (tgt := 58) (by decide) ?_
                exact ih (v16 + nI 1) s20 hR h
          refine hL v11 _ (fun s22 hR h => ?_) n21 (v11 + (nI 1)) s12 hR h
          · refine g_iinc_1 (pc := 81) X dX0_seek_81 (v := v11 + nI 1) rfl (by decide) rfl ?_
            refine g_goto (pc := 84) X dX0_seek_84 (tgt := 43) (by decide) ?_
            exact ih (v11 + nI 1) s22 hR h
    refine hL  _ (fun s24 hR h => ?_) n23 (nI 0) s10 hR h
    · refine g_iconst (pc := 87) X dX0_seek_87 kiconst_0 ?_
      refine g_istore_1 (pc := 88) X dX0_seek_88 (by decide) rfl ?_
      obtain ⟨n37, h⟩ := h
      have hL : ∀  (K : gSt → Prop) (_ : ∀  (s27 : gSt), s27.2.2 = gRf b → K s27 → G o γ 0 0 116 s27 133 [some (.ref (ad o 38)), none, none] []) (n : Nat) (v25 : Int32) (s26 : gSt), s26.2.2 = gRf b → L_X0_seek_89 Q K n v25 s26 → G o γ 0 0 116 s26 89 [some (.ref (ad o 38)), some (.int v25), none] [] := by
        intro K hK n
        induction n with
        | zero => intro v25 s26 hR h; exact False.elim h
        | succ n ih =>
          intro v25 s26 hR h
          rw [L_X0_seek_89] at h
          refine g_iload_1 (pc := 89) X dX0_seek_89 ?_
          refine g_aload_0 (pc := 90) X dX0_seek_90 ?_
          refine g_getRf (pc := 91) X dX0_seek_91 fl_X0_21 rfl (by decide) rfl hR rfl ?_
          refine g_getI (pc := 94) X dX0_seek_94 rfl (by decide) fl_X0_39 (Or.inl rfl) ?_
          refine g_icmp_ge (pc := 97) X dX0_seek_97 (tgt := 133) (by decide) (fun q28 => ?_) (fun q28 => ?_)
          · replace h := h.1 q28
            exact g_drop (by simp [lsub]) (hK s26 hR h)
          · replace h := h.2 q28
            refine g_iload_1 (pc := 100) X dX0_seek_100 ?_
            refine g_iconst (pc := 101) X dX0_seek_101 kiconst_1 ?_
            refine g_iadd (pc := 102) X dX0_seek_102 ?_
            refine g_istore_2 (pc := 103) X dX0_seek_103 (by decide) rfl ?_
            obtain ⟨n35, h⟩ := h
            have hL : ∀ (c29 : Int32) (K : gSt → Prop) (_ : ∀  (s32 : gSt), s32.2.2 = gRf b → K s32 → G o γ 0 0 116 s32 127 [some (.ref (ad o 38)), some (.int c29), none] []) (n : Nat) (v30 : Int32) (s31 : gSt), s31.2.2 = gRf b → L_X0_seek_104 Q c29 K n v30 s31 → G o γ 0 0 116 s31 104 [some (.ref (ad o 38)), some (.int c29), some (.int v30)] [] := by
              intro c29 K hK n
              induction n with
              | zero => intro v30 s31 hR h; exact False.elim h
              | succ n ih =>
                intro v30 s31 hR h
                rw [L_X0_seek_104] at h
                refine g_iload_2 (pc := 104) X dX0_seek_104 ?_
                refine g_aload_0 (pc := 105) X dX0_seek_105 ?_
                refine g_getRf (pc := 106) X dX0_seek_106 fl_X0_21 rfl (by decide) rfl hR rfl ?_
                refine g_getI (pc := 109) X dX0_seek_109 rfl (by decide) fl_X0_39 (Or.inl rfl) ?_
                refine g_icmp_ge (pc := 112) X dX0_seek_112 (tgt := 127) (by decide) (fun q33 => ?_) (fun q33 => ?_)
                · replace h := h.1 q33
                  exact g_drop (by simp [lsub]) (hK s31 hR h)
                · replace h := h.2 q33
                  refine g_aload_0 (pc := 115) X dX0_seek_115 ?_
                  refine g_iload_1 (pc := 116) X dX0_seek_116 ?_
                  refine g_iload_2 (pc := 117) X dX0_seek_117 ?_
                  refine g_callV_V (pc := 118) X Y dX0_seek_118 miX0_seekChanging li_X0_76 (t_X0_seekChanging hR  h) rfl (by decide) rfl ⟨_, rfl⟩ rfl ⟨Nat.le_of_ble_eq_true rfl, Nat.le_of_ble_eq_true rfl⟩ (Nat.le_of_ble_eq_true rfl) (Nat.le_of_ble_eq_true rfl) rfl (by exact Nat.le_of_ble_eq_true rfl) (fun s34 hp => ?_)
                  obtain ⟨hR, h⟩ := hp
                  refine g_iinc_2 (pc := 121) X dX0_seek_121 (v := v30 + nI 1) rfl (by decide) rfl ?_
                  refine g_goto (pc := 124) X dX0_seek_124 (tgt := 104) (by decide) ?_
                  exact ih (v30 + nI 1) s34 hR h
            refine hL v25 _ (fun s36 hR h => ?_) n35 (v25 + (nI 1)) s26 hR h
            · refine g_iinc_1 (pc := 127) X dX0_seek_127 (v := v25 + nI 1) rfl (by decide) rfl ?_
              refine g_goto (pc := 130) X dX0_seek_130 (tgt := 89) (by decide) ?_
              exact ih (v25 + nI 1) s36 hR h
      refine hL  _ (fun s38 hR h => ?_) n37 (nI 0) s24 hR h
      · exact g_return (pc := 133) X Y dX0_seek_133 (Nat.le_of_ble_eq_true rfl) (Nat.le_of_ble_eq_true rfl) ⟨rfl, hR, h⟩
def W_X0_make  (Q : gSt → Prop) (σ : gSt) : Prop := ∀ J1 : Prop, (((((σ.1 38 0) = 0 → (WSV mX2_moveTo 3 (fun o => [.ref (ad o 33), .int (σ.1 38 1), .int (σ.1 38 2)]) (fun s7 => Q s7) σ)) ∧ (¬ (σ.1 38 0) = 0 → ((((σ.1 38 0) = (nI 1) → (WSV mX2_unite 3 (fun o => [.ref (ad o 33), .int (σ.1 38 1), .int (σ.1 38 2)]) (fun s6 => Q s6) σ)) ∧ (¬ (σ.1 38 0) = (nI 1) → ((((σ.1 38 0) = (nI 2) → (WSV mX2_exchange 3 (fun o => [.ref (ad o 33), .int (σ.1 38 1), .int (σ.1 38 2)]) (fun s5 => Q s5) σ)) ∧ (¬ (σ.1 38 0) = (nI 2) → (Q σ)))))))))) → J1) → (((σ.1 38 0) = 0 → ((((σ.1 38 2) = ((-1 : Int32)) → (WSV mX2_moveOut 4 (fun o => [.ref (ad o 33), .int (σ.1 38 1)]) (fun s10 => Q s10) σ)) ∧ (¬ (σ.1 38 2) = ((-1 : Int32)) → J1)))) ∧ (¬ (σ.1 38 0) = 0 → J1))
set_option maxHeartbeats 4000000 in
theorem t_X0_make {o : gOm} {l : Launch} {b : Bool}   {σ : gSt} (hR : σ.2.2 = gRf b)  {Q : gSt → Prop} (h : W_X0_make  Q σ) : Sp o l mX0_make 5 0 0 [.ref (ad o 38)] 116 116 σ (pV (fun s => s.2.2 = gRf b ∧ Q s)) := by
  unfold W_X0_make at h
  refine Sp.of (ls0 := [some (.ref (ad o 38))]) miX0_make rfl (Nat.le_of_ble_eq_true rfl) rfl (fun γ hγ hnm X Y => ?_)
  subst hγ
  have X : gX o γ cX0_make 1 RX0 := X
  refine g_aload_0 (pc := 0) X dX0_make_0 ?_
  refine g_getI (pc := 1) X dX0_make_1 rfl (by decide) fl_X0_58 (Or.inl rfl) ?_
  replace h := h (G o γ 0 0 116 σ 29 [some (.ref (ad o 38))] []) (by
      intro  h
      refine g_aload_0 (pc := 29) X dX0_make_29 ?_
      refine g_getI (pc := 30) X dX0_make_30 rfl (by decide) fl_X0_58 (Or.inl rfl) ?_
      refine g_if_ne (pc := 33) X dX0_make_33 (tgt := 54) (by decide) (fun q2 => ?_) (fun q2 => ?_)
      · replace h := h.2 q2
        refine g_aload_0 (pc := 54) X dX0_make_54 ?_
        refine g_getI (pc := 55) X dX0_make_55 rfl (by decide) fl_X0_58 (Or.inl rfl) ?_
        refine g_iconst (pc := 58) X dX0_make_58 kiconst_1 ?_
        refine g_icmp_ne (pc := 59) X dX0_make_59 (tgt := 80) (by decide) (fun q3 => ?_) (fun q3 => ?_)
        · replace h := h.2 q3
          refine g_aload_0 (pc := 80) X dX0_make_80 ?_
          refine g_getI (pc := 81) X dX0_make_81 rfl (by decide) fl_X0_58 (Or.inl rfl) ?_
          refine g_iconst (pc := 84) X dX0_make_84 kiconst_2 ?_
          refine g_icmp_ne (pc := 85) X dX0_make_85 (tgt := 103) (by decide) (fun q4 => ?_) (fun q4 => ?_)
          · replace h := h.2 q4
            exact g_return (pc := 103) X Y dX0_make_103 (Nat.le_of_ble_eq_true rfl) (Nat.le_of_ble_eq_true rfl) ⟨rfl, hR, h⟩
          · replace h := h.1 q4
            refine g_aload_0 (pc := 88) X dX0_make_88 ?_
            refine g_getRf (pc := 89) X dX0_make_89 fl_X0_21 rfl (by decide) rfl hR rfl ?_
            refine g_aload_0 (pc := 92) X dX0_make_92 ?_
            refine g_getI (pc := 93) X dX0_make_93 rfl (by decide) fl_X0_82 (Or.inl rfl) ?_
            refine g_aload_0 (pc := 96) X dX0_make_96 ?_
            refine g_getI (pc := 97) X dX0_make_97 rfl (by decide) fl_X0_79 (Or.inl rfl) ?_
            refine g_callV_V (pc := 100) X Y dX0_make_100 miX2_exchange li_X0_94 (t_WSV hR  h) rfl (by decide) rfl ⟨_, rfl⟩ rfl ⟨Nat.le_of_ble_eq_true rfl, Nat.le_of_ble_eq_true rfl⟩ (Nat.le_of_ble_eq_true rfl) (Nat.le_of_ble_eq_true rfl) rfl (by exact Nat.le_of_ble_eq_true rfl) (fun s5 hp => ?_)
            obtain ⟨hR, h⟩ := hp
            exact g_return (pc := 103) X Y dX0_make_103 (Nat.le_of_ble_eq_true rfl) (Nat.le_of_ble_eq_true rfl) ⟨rfl, hR, h⟩
        · replace h := h.1 q3
          refine g_aload_0 (pc := 62) X dX0_make_62 ?_
          refine g_getRf (pc := 63) X dX0_make_63 fl_X0_21 rfl (by decide) rfl hR rfl ?_
          refine g_aload_0 (pc := 66) X dX0_make_66 ?_
          refine g_getI (pc := 67) X dX0_make_67 rfl (by decide) fl_X0_82 (Or.inl rfl) ?_
          refine g_aload_0 (pc := 70) X dX0_make_70 ?_
          refine g_getI (pc := 71) X dX0_make_71 rfl (by decide) fl_X0_79 (Or.inl rfl) ?_
          refine g_callV_V (pc := 74) X Y dX0_make_74 miX2_unite li_X0_91 (t_WSV hR  h) rfl (by decide) rfl ⟨_, rfl⟩ rfl ⟨Nat.le_of_ble_eq_true rfl, Nat.le_of_ble_eq_true rfl⟩ (Nat.le_of_ble_eq_true rfl) (Nat.le_of_ble_eq_true rfl) rfl (by exact Nat.le_of_ble_eq_true rfl) (fun s6 hp => ?_)
          obtain ⟨hR, h⟩ := hp
          refine g_goto (pc := 77) X dX0_make_77 (tgt := 103) (by decide) ?_
          exact g_return (pc := 103) X Y dX0_make_103 (Nat.le_of_ble_eq_true rfl) (Nat.le_of_ble_eq_true rfl) ⟨rfl, hR, h⟩
      · replace h := h.1 q2
        refine g_aload_0 (pc := 36) X dX0_make_36 ?_
        refine g_getRf (pc := 37) X dX0_make_37 fl_X0_21 rfl (by decide) rfl hR rfl ?_
        refine g_aload_0 (pc := 40) X dX0_make_40 ?_
        refine g_getI (pc := 41) X dX0_make_41 rfl (by decide) fl_X0_82 (Or.inl rfl) ?_
        refine g_aload_0 (pc := 44) X dX0_make_44 ?_
        refine g_getI (pc := 45) X dX0_make_45 rfl (by decide) fl_X0_79 (Or.inl rfl) ?_
        refine g_callV_V (pc := 48) X Y dX0_make_48 miX2_moveTo li_X0_88 (t_WSV hR  h) rfl (by decide) rfl ⟨_, rfl⟩ rfl ⟨Nat.le_of_ble_eq_true rfl, Nat.le_of_ble_eq_true rfl⟩ (Nat.le_of_ble_eq_true rfl) (Nat.le_of_ble_eq_true rfl) rfl (by exact Nat.le_of_ble_eq_true rfl) (fun s7 hp => ?_)
        obtain ⟨hR, h⟩ := hp
        refine g_goto (pc := 51) X dX0_make_51 (tgt := 103) (by decide) ?_
        exact g_return (pc := 103) X Y dX0_make_103 (Nat.le_of_ble_eq_true rfl) (Nat.le_of_ble_eq_true rfl) ⟨rfl, hR, h⟩)
  refine g_if_ne (pc := 4) X dX0_make_4 (tgt := 29) (by decide) (fun q8 => ?_) (fun q8 => ?_)
  · replace h := h.2 q8
    exact h
  · replace h := h.1 q8
    refine g_aload_0 (pc := 7) X dX0_make_7 ?_
    refine g_getI (pc := 8) X dX0_make_8 rfl (by decide) fl_X0_79 (Or.inl rfl) ?_
    refine g_iconst (pc := 11) X dX0_make_11 kiconst_m1 ?_
    refine g_icmp_ne (pc := 12) X dX0_make_12 (tgt := 29) (by decide) (fun q9 => ?_) (fun q9 => ?_)
    · replace h := h.2 q9
      exact h
    · replace h := h.1 q9
      refine g_aload_0 (pc := 15) X dX0_make_15 ?_
      refine g_getRf (pc := 16) X dX0_make_16 fl_X0_21 rfl (by decide) rfl hR rfl ?_
      refine g_aload_0 (pc := 19) X dX0_make_19 ?_
      refine g_getI (pc := 20) X dX0_make_20 rfl (by decide) fl_X0_82 (Or.inl rfl) ?_
      refine g_callV_V (pc := 23) X Y dX0_make_23 miX2_moveOut li_X0_85 (t_WSV hR  h) rfl (by decide) rfl ⟨_, rfl⟩ rfl ⟨Nat.le_of_ble_eq_true rfl, Nat.le_of_ble_eq_true rfl⟩ (Nat.le_of_ble_eq_true rfl) (Nat.le_of_ble_eq_true rfl) rfl (by exact Nat.le_of_ble_eq_true rfl) (fun s10 hp => ?_)
      obtain ⟨hR, h⟩ := hp
      refine g_goto (pc := 26) X dX0_make_26 (tgt := 103) (by decide) ?_
      exact g_return (pc := 103) X Y dX0_make_103 (Nat.le_of_ble_eq_true rfl) (Nat.le_of_ble_eq_true rfl) ⟨rfl, hR, h⟩
def L_X8_howMany_37 (Q : Int32 → Prop) (c12 : Int32) (c13 : Int32) (c14 : Int32) (σ : gSt) (K : Int32 → Prop) : Nat → Int32 → Int32 → Prop
  | 0, _, _ => False
  | n37 + 1, v15, v16 => ((c12 ≤ v16 → (K v15)) ∧ (¬ c12 ≤ v16 → (WPI mX8_isRing 3 (fun o => [.ref (ad o 42), .int c13, .int c14, .int v16]) (fun x19 => ((x19 = 0 → (L_X8_howMany_37 Q c12 c13 c14 σ K n37 v15 (v16 + nI 1))) ∧ (¬ x19 = 0 → (L_X8_howMany_37 Q c12 c13 c14 σ K n37 (v15 + nI 1) (v16 + nI 1))))) σ)))
def L_X8_howMany_25 (Q : Int32 → Prop) (c6 : Int32) (c7 : Int32) (σ : gSt) (K : Int32 → Prop) : Nat → Int32 → Int32 → Prop
  | 0, _, _ => False
  | n25 + 1, v8, v9 => ((c6 ≤ v9 → (K v8)) ∧ (¬ c6 ≤ v9 → (∃ m37, L_X8_howMany_37 Q c6 c7 v9 σ (fun y22 => L_X8_howMany_25 Q c6 c7 σ K n25 y22 (v9 + nI 1)) m37 v8 (v9 + (nI 1)))))
def L_X8_howMany_15 (Q : Int32 → Prop) (c1 : Int32) (σ : gSt) (K : Int32 → Prop) : Nat → Int32 → Int32 → Prop
  | 0, _, _ => False
  | n15 + 1, v2, v3 => ((c1 ≤ v3 → (K v2)) ∧ (¬ c1 ≤ v3 → (∃ m25, L_X8_howMany_25 Q c1 v3 σ (fun y24 => L_X8_howMany_15 Q c1 σ K n15 y24 (v3 + nI 1)) m25 v2 (v3 + (nI 1)))))
def W_X8_howMany  (Q : Int32 → Prop) (σ : gSt) : Prop := ∃ m15, L_X8_howMany_15 Q (σ.1 1 0) σ (fun y26 => Q y26) m15 (nI 0) (nI 0)
set_option maxHeartbeats 4000000 in
theorem t_X8_howMany {o : gOm} {l : Launch} {b : Bool}   {σ : gSt} (hR : σ.2.2 = gRf b)  {Q : Int32 → Prop} (h : W_X8_howMany  Q σ) : Sp o l mX8_howMany 4 0 0 [.ref (ad o 42)] 116 116 σ (pI (fun x s => σ = s ∧ Q x)) := by
  unfold W_X8_howMany at h
  refine Sp.of (ls0 := [some (.ref (ad o 42)), none, none, none, none, none]) miX8_howMany rfl (Nat.le_of_ble_eq_true rfl) rfl (fun γ hγ hnm X Y => ?_)
  subst hγ
  have X : gX o γ cX8_howMany 6 RX8 := X
  refine g_iconst (pc := 0) X dX8_howMany_0 kiconst_0 ?_
  refine g_istore_1 (pc := 1) X dX8_howMany_1 (by decide) rfl ?_
  refine g_aload_0 (pc := 2) X dX8_howMany_2 ?_
  refine g_getRf (pc := 3) X dX8_howMany_3 fl_X8_21 rfl (by decide) rfl hR rfl ?_
  refine g_getRf (pc := 6) X dX8_howMany_6 fl_X8_81 rfl (by decide) rfl hR rfl ?_
  refine g_getI (pc := 9) X dX8_howMany_9 rfl (by decide) fl_X8_85 (Or.inl rfl) ?_
  refine g_istore_2 (pc := 12) X dX8_howMany_12 (by decide) rfl ?_
  refine g_iconst (pc := 13) X dX8_howMany_13 kiconst_0 ?_
  refine g_istore_3 (pc := 14) X dX8_howMany_14 (by decide) rfl ?_
  obtain ⟨n25, h⟩ := h
  have hL : ∀ (c1 : Int32) (K : Int32 → Prop) (_ : ∀ (y4 : Int32), K y4 → G o γ 0 0 116 σ 76 [some (.ref (ad o 42)), some (.int y4), some (.int c1), none, none, none] []) (n : Nat) (v2 : Int32) (v3 : Int32), L_X8_howMany_15 Q c1 σ K n v2 v3 → G o γ 0 0 116 σ 15 [some (.ref (ad o 42)), some (.int v2), some (.int c1), some (.int v3), none, none] [] := by
    intro c1 K hK n
    induction n with
    | zero => intro v2 v3 h; exact False.elim h
    | succ n ih =>
      intro v2 v3 h
      rw [L_X8_howMany_15] at h
      refine g_iload_3 (pc := 15) X dX8_howMany_15 ?_
      refine g_iload_2 (pc := 16) X dX8_howMany_16 ?_
      refine g_icmp_ge (pc := 17) X dX8_howMany_17 (tgt := 76) (by decide) (fun q5 => ?_) (fun q5 => ?_)
      · replace h := h.1 q5
        exact g_drop (by simp [lsub]) (hK v2 h)
      · replace h := h.2 q5
        refine g_iload_3 (pc := 20) X dX8_howMany_20 ?_
        refine g_iconst (pc := 21) X dX8_howMany_21 kiconst_1 ?_
        refine g_iadd (pc := 22) X dX8_howMany_22 ?_
        refine g_istore_4 (pc := 23) X dX8_howMany_23 (by decide) rfl ?_
        obtain ⟨n23, h⟩ := h
        have hL : ∀ (c6 : Int32) (c7 : Int32) (K : Int32 → Prop) (_ : ∀ (y10 : Int32), K y10 → G o γ 0 0 116 σ 70 [some (.ref (ad o 42)), some (.int y10), some (.int c6), some (.int c7), none, none] []) (n : Nat) (v8 : Int32) (v9 : Int32), L_X8_howMany_25 Q c6 c7 σ K n v8 v9 → G o γ 0 0 116 σ 25 [some (.ref (ad o 42)), some (.int v8), some (.int c6), some (.int c7), some (.int v9), none] [] := by
          intro c6 c7 K hK n
          induction n with
          | zero => intro v8 v9 h; exact False.elim h
          | succ n ih =>
            intro v8 v9 h
            rw [L_X8_howMany_25] at h
            refine g_iload_4 (pc := 25) X dX8_howMany_25 ?_
            refine g_iload_2 (pc := 27) X dX8_howMany_27 ?_
            refine g_icmp_ge (pc := 28) X dX8_howMany_28 (tgt := 70) (by decide) (fun q11 => ?_) (fun q11 => ?_)
            · replace h := h.1 q11
              exact g_drop (by simp [lsub]) (hK v8 h)
            · replace h := h.2 q11
              refine g_iload_4 (pc := 31) X dX8_howMany_31 ?_
              refine g_iconst (pc := 33) X dX8_howMany_33 kiconst_1 ?_
              refine g_iadd (pc := 34) X dX8_howMany_34 ?_
              refine g_istore_5 (pc := 35) X dX8_howMany_35 (by decide) rfl ?_
              obtain ⟨n21, h⟩ := h
              have hL : ∀ (c12 : Int32) (c13 : Int32) (c14 : Int32) (K : Int32 → Prop) (_ : ∀ (y17 : Int32), K y17 → G o γ 0 0 116 σ 64 [some (.ref (ad o 42)), some (.int y17), some (.int c12), some (.int c13), some (.int c14), none] []) (n : Nat) (v15 : Int32) (v16 : Int32), L_X8_howMany_37 Q c12 c13 c14 σ K n v15 v16 → G o γ 0 0 116 σ 37 [some (.ref (ad o 42)), some (.int v15), some (.int c12), some (.int c13), some (.int c14), some (.int v16)] [] := by
                intro c12 c13 c14 K hK n
                induction n with
                | zero => intro v15 v16 h; exact False.elim h
                | succ n ih =>
                  intro v15 v16 h
                  rw [L_X8_howMany_37] at h
                  refine g_iload_5 (pc := 37) X dX8_howMany_37 ?_
                  refine g_iload_2 (pc := 39) X dX8_howMany_39 ?_
                  refine g_icmp_ge (pc := 40) X dX8_howMany_40 (tgt := 64) (by decide) (fun q18 => ?_) (fun q18 => ?_)
                  · replace h := h.1 q18
                    exact g_drop (by simp [lsub]) (hK v15 h)
                  · replace h := h.2 q18
                    refine g_aload_0 (pc := 43) X dX8_howMany_43 ?_
                    refine g_iload_3 (pc := 44) X dX8_howMany_44 ?_
                    refine g_iload_4 (pc := 45) X dX8_howMany_45 ?_
                    refine g_iload_5 (pc := 47) X dX8_howMany_47 ?_
                    refine g_callV_I (pc := 49) X Y dX8_howMany_49 miX8_isRing li_X8_90 (t_WPI hR  h) rfl (by decide) rfl ⟨_, rfl⟩ rfl ⟨Nat.le_of_ble_eq_true rfl, Nat.le_of_ble_eq_true rfl⟩ (Nat.le_of_ble_eq_true rfl) (Nat.le_of_ble_eq_true rfl) rfl (by exact Nat.le_of_ble_eq_true rfl) (fun x19 σ9 hp => ?_)
                    obtain ⟨rfl, h⟩ := hp
                    refine g_if_eq (pc := 52) X dX8_howMany_52 (tgt := 58) (by decide) (fun q20 => ?_) (fun q20 => ?_)
                    · replace h := h.1 q20
                      refine g_iinc_5 (pc := 58) X dX8_howMany_58 (v := v16 + nI 1) rfl (by decide) rfl ?_
                      refine g_goto (pc := 61) X dX8_howMany_61 (tgt := 37) (by decide) ?_
                      exact ih v15 (v16 + nI 1) h
                    · replace h := h.2 q20
                      refine g_iinc_1 (pc := 55) X dX8_howMany_55 (v := v15 + nI 1) rfl (by decide) rfl ?_
                      refine g_iinc_5 (pc := 58) X dX8_howMany_58 (v := v16 + nI 1) rfl (by decide) rfl ?_
                      refine g_goto (pc := 61) X dX8_howMany_61 (tgt := 37) (by decide) ?_
                      exact ih (v15 + nI 1) (v16 + nI 1) h
              refine hL c6 c7 v9 _ (fun y22 h => ?_) n21 v8 (v9 + (nI 1)) h
              · refine g_iinc_4 (pc := 64) X dX8_howMany_64 (v := v9 + nI 1) rfl (by decide) rfl ?_
                refine g_goto (pc := 67) X dX8_howMany_67 (tgt := 25) (by decide) ?_
                exact ih y22 (v9 + nI 1) h
        refine hL c1 v3 _ (fun y24 h => ?_) n23 v2 (v3 + (nI 1)) h
        · refine g_iinc_3 (pc := 70) X dX8_howMany_70 (v := v3 + nI 1) rfl (by decide) rfl ?_
          refine g_goto (pc := 73) X dX8_howMany_73 (tgt := 15) (by decide) ?_
          exact ih y24 (v3 + nI 1) h
  refine hL (σ.1 1 0) _ (fun y26 h => ?_) n25 (nI 0) (nI 0) h
  · refine g_iload_1 (pc := 76) X dX8_howMany_76 ?_
    exact g_ireturn (pc := 77) X Y dX8_howMany_77 (Nat.le_of_ble_eq_true rfl) (Nat.le_of_ble_eq_true rfl) ⟨_, rfl, rfl, h⟩
def L_X8_pack_61 (Q : gSt → Prop) (c20 : Int32) (c21 : Int32) (c22 : Int32) (c23 : Int32) (K : Int32 → gSt → Prop) : Nat → Int32 → Int32 → gSt → Prop
  | 0, _, _, _ => False
  | n61 + 1, v24, v25, s26 => ((c21 ≤ v25 → (K v24 s26)) ∧ (¬ c21 ≤ v25 → (WPI mX8_isRing 3 (fun o => [.ref (ad o 42), .int c22, .int c23, .int v25]) (fun x30 => ∀ J32 : Int32 → Prop, (∀ x31, (((x31 ≤ 0 → (L_X8_pack_61 Q c20 c21 c22 c23 K n61 v24 (v25 + nI 1) s26)) ∧ (¬ x31 ≤ 0 → (WSV mX8_takeFromAll 2 (fun o => [.ref (ad o 42), .ref (ad o 44), .int c22, .int c23, .int v25, .int x31]) (fun s34 => fL s34 42 2 ((s34.2.1 42 2) + (i2l x31)) (fun s35 => ((v24 = c20 → (WSV mX8_remember 1 (fun o => [.ref (ad o 42), .int c22, .int c23, .int v25, .int x31]) (fun s37 => L_X8_pack_61 Q c20 c21 c22 c23 K n61 (v24 + nI 1) (v25 + nI 1) s37) s35)) ∧ (¬ v24 = c20 → (L_X8_pack_61 Q c20 c21 c22 c23 K n61 (v24 + nI 1) (v25 + nI 1) s35))))) s26)))) → J32 x31) → ((x30 = 0 → (J32 (nI 0))) ∧ (¬ x30 = 0 → (WPI mX8_leastRest 3 (fun o => [.ref (ad o 42), .ref (ad o 44), .int c22, .int c23, .int v25]) (fun x39 => J32 x39) s26)))) s26)))
def L_X8_pack_49 (Q : gSt → Prop) (c11 : Int32) (c12 : Int32) (c13 : Int32) (K : Int32 → gSt → Prop) : Nat → Int32 → Int32 → gSt → Prop
  | 0, _, _, _ => False
  | n49 + 1, v14, v15, s16 => ((c12 ≤ v15 → (K v14 s16)) ∧ (¬ c12 ≤ v15 → (∃ m61, L_X8_pack_61 Q c11 c12 c13 v15 (fun y41 s42 => L_X8_pack_49 Q c11 c12 c13 K n49 y41 (v15 + nI 1) s42) m61 v14 (v15 + (nI 1)) s16)))
def L_X8_pack_37 (Q : gSt → Prop) (c4 : Int32) (c5 : Int32) (K : gSt → Prop) : Nat → Int32 → Int32 → gSt → Prop
  | 0, _, _, _ => False
  | n37 + 1, v6, v7, s8 => ((c5 ≤ v7 → (K s8)) ∧ (¬ c5 ≤ v7 → (∃ m49, L_X8_pack_49 Q c4 c5 v7 (fun y44 s45 => L_X8_pack_37 Q c4 c5 K n37 y44 (v7 + nI 1) s45) m49 v6 (v7 + (nI 1)) s8)))
def W_X8_pack (p0 : Int32) (Q : gSt → Prop) (σ : gSt) : Prop := W_J7_fill_53178 44 (nI 0) (fun s1 => W_J7_fill_53178 45 ((-1 : Int32)) (fun s2 => fL s2 42 2 (lN 0) (fun s3 => ∃ m37, L_X8_pack_37 Q p0 (s3.1 1 0) (fun s47 => Q s47) m37 (nI 0) (nI 0) s3)) s1) σ
set_option maxHeartbeats 4000000 in
theorem t_X8_pack {o : gOm} {l : Launch} {b : Bool}   {σ : gSt} (hR : σ.2.2 = gRf b) {p0 : Int32} {Q : gSt → Prop} (h : W_X8_pack p0 Q σ) : Sp o l mX8_pack 4 0 0 [.ref (ad o 42), .int p0] 116 116 σ (pV (fun s => s.2.2 = gRf b ∧ Q s)) := by
  unfold W_X8_pack at h
  refine Sp.of (ls0 := [some (.ref (ad o 42)), some (.int p0), none, none, none, none, none, none]) miX8_pack rfl (Nat.le_of_ble_eq_true rfl) rfl (fun γ hγ hnm X Y => ?_)
  subst hγ
  have X : gX o γ cX8_pack 8 RX8 := X
  refine g_aload_0 (pc := 0) X dX8_pack_0 ?_
  refine g_getRf (pc := 1) X dX8_pack_1 fl_X8_15 rfl (by decide) rfl hR rfl ?_
  refine g_iconst (pc := 4) X dX8_pack_4 kiconst_0 ?_
  refine g_callS_V (pc := 5) X Y dX8_pack_5 miJ7_fill_53178 li_X8_29 (t_J7_fill_53178 hR (by decide) (by decide) h) rfl ⟨Nat.le_of_ble_eq_true rfl, Nat.le_of_ble_eq_true rfl⟩ (Nat.le_of_ble_eq_true rfl) (Nat.le_of_ble_eq_true rfl) rfl (by exact Nat.le_of_ble_eq_true rfl) (fun s1 hp => ?_)
  obtain ⟨hR, h⟩ := hp
  refine g_aload_0 (pc := 8) X dX8_pack_8 ?_
  refine g_getRf (pc := 9) X dX8_pack_9 fl_X8_18 rfl (by decide) rfl hR rfl ?_
  refine g_iconst (pc := 12) X dX8_pack_12 kiconst_m1 ?_
  refine g_callS_V (pc := 13) X Y dX8_pack_13 miJ7_fill_53178 li_X8_29 (t_J7_fill_53178 hR (by decide) (by decide) h) rfl ⟨Nat.le_of_ble_eq_true rfl, Nat.le_of_ble_eq_true rfl⟩ (Nat.le_of_ble_eq_true rfl) (Nat.le_of_ble_eq_true rfl) rfl (by exact Nat.le_of_ble_eq_true rfl) (fun s2 hp => ?_)
  obtain ⟨hR, h⟩ := hp
  refine g_aload_0 (pc := 16) X dX8_pack_16 ?_
  refine g_lconst (pc := 17) X dX8_pack_17 (v := lN 0) rfl ?_
  refine g_putL_w (pc := 18) X dX8_pack_18 fl_X8_94 rfl (by decide) rfl rfl hR h (fun s3 hR h => ?_)
  refine g_iconst (pc := 21) X dX8_pack_21 kiconst_0 ?_
  refine g_istore_2 (pc := 22) X dX8_pack_22 (by decide) rfl ?_
  refine g_aload_0 (pc := 23) X dX8_pack_23 ?_
  refine g_getRf (pc := 24) X dX8_pack_24 fl_X8_21 rfl (by decide) rfl hR rfl ?_
  refine g_getRf (pc := 27) X dX8_pack_27 fl_X8_81 rfl (by decide) rfl hR rfl ?_
  refine g_getI (pc := 30) X dX8_pack_30 rfl (by decide) fl_X8_85 (Or.inl rfl) ?_
  refine g_istore_3 (pc := 33) X dX8_pack_33 (by decide) rfl ?_
  refine g_iconst (pc := 34) X dX8_pack_34 kiconst_0 ?_
  refine g_istore_4 (pc := 35) X dX8_pack_35 (by decide) rfl ?_
  obtain ⟨n46, h⟩ := h
  have hL : ∀ (c4 : Int32) (c5 : Int32) (K : gSt → Prop) (_ : ∀  (s9 : gSt), s9.2.2 = gRf b → K s9 → G o γ 0 0 116 s9 171 [some (.ref (ad o 42)), some (.int c4), none, some (.int c5), none, none, none, none] []) (n : Nat) (v6 : Int32) (v7 : Int32) (s8 : gSt), s8.2.2 = gRf b → L_X8_pack_37 Q c4 c5 K n v6 v7 s8 → G o γ 0 0 116 s8 37 [some (.ref (ad o 42)), some (.int c4), some (.int v6), some (.int c5), some (.int v7), none, none, none] [] := by
    intro c4 c5 K hK n
    induction n with
    | zero => intro v6 v7 s8 hR h; exact False.elim h
    | succ n ih =>
      intro v6 v7 s8 hR h
      rw [L_X8_pack_37] at h
      refine g_iload_4 (pc := 37) X dX8_pack_37 ?_
      refine g_iload_3 (pc := 39) X dX8_pack_39 ?_
      refine g_icmp_ge (pc := 40) X dX8_pack_40 (tgt := 171) (by decide) (fun q10 => ?_) (fun q10 => ?_)
      · replace h := h.1 q10
        exact g_drop (by simp [lsub]) (hK s8 hR h)
      · replace h := h.2 q10
        refine g_iload_4 (pc := 43) X dX8_pack_43 ?_
        refine g_iconst (pc := 45) X dX8_pack_45 kiconst_1 ?_
        refine g_iadd (pc := 46) X dX8_pack_46 ?_
        refine g_istore_5 (pc := 47) X dX8_pack_47 (by decide) rfl ?_
        obtain ⟨n43, h⟩ := h
        have hL : ∀ (c11 : Int32) (c12 : Int32) (c13 : Int32) (K : Int32 → gSt → Prop) (_ : ∀ (y17 : Int32) (s18 : gSt), s18.2.2 = gRf b → K y17 s18 → G o γ 0 0 116 s18 165 [some (.ref (ad o 42)), some (.int c11), some (.int y17), some (.int c12), some (.int c13), none, none, none] []) (n : Nat) (v14 : Int32) (v15 : Int32) (s16 : gSt), s16.2.2 = gRf b → L_X8_pack_49 Q c11 c12 c13 K n v14 v15 s16 → G o γ 0 0 116 s16 49 [some (.ref (ad o 42)), some (.int c11), some (.int v14), some (.int c12), some (.int c13), some (.int v15), none, none] [] := by
          intro c11 c12 c13 K hK n
          induction n with
          | zero => intro v14 v15 s16 hR h; exact False.elim h
          | succ n ih =>
            intro v14 v15 s16 hR h
            rw [L_X8_pack_49] at h
            refine g_iload_5 (pc := 49) X dX8_pack_49 ?_
            refine g_iload_3 (pc := 51) X dX8_pack_51 ?_
            refine g_icmp_ge (pc := 52) X dX8_pack_52 (tgt := 165) (by decide) (fun q19 => ?_) (fun q19 => ?_)
            · replace h := h.1 q19
              exact g_drop (by simp [lsub]) (hK v14 s16 hR h)
            · replace h := h.2 q19
              refine g_iload_5 (pc := 55) X dX8_pack_55 ?_
              refine g_iconst (pc := 57) X dX8_pack_57 kiconst_1 ?_
              refine g_iadd (pc := 58) X dX8_pack_58 ?_
              refine g_istore_6 (pc := 59) X dX8_pack_59 (by decide) rfl ?_
              obtain ⟨n40, h⟩ := h
              have hL : ∀ (c20 : Int32) (c21 : Int32) (c22 : Int32) (c23 : Int32) (K : Int32 → gSt → Prop) (_ : ∀ (y27 : Int32) (s28 : gSt), s28.2.2 = gRf b → K y27 s28 → G o γ 0 0 116 s28 159 [some (.ref (ad o 42)), some (.int c20), some (.int y27), some (.int c21), some (.int c22), some (.int c23), none, none] []) (n : Nat) (v24 : Int32) (v25 : Int32) (s26 : gSt), s26.2.2 = gRf b → L_X8_pack_61 Q c20 c21 c22 c23 K n v24 v25 s26 → G o γ 0 0 116 s26 61 [some (.ref (ad o 42)), some (.int c20), some (.int v24), some (.int c21), some (.int c22), some (.int c23), some (.int v25), none] [] := by
                intro c20 c21 c22 c23 K hK n
                induction n with
                | zero => intro v24 v25 s26 hR h; exact False.elim h
                | succ n ih =>
                  intro v24 v25 s26 hR h
                  rw [L_X8_pack_61] at h
                  refine g_iload_6 (pc := 61) X dX8_pack_61 ?_
                  refine g_iload_3 (pc := 63) X dX8_pack_63 ?_
                  refine g_icmp_ge (pc := 64) X dX8_pack_64 (tgt := 159) (by decide) (fun q29 => ?_) (fun q29 => ?_)
                  · replace h := h.1 q29
                    exact g_drop (by simp [lsub]) (hK v24 s26 hR h)
                  · replace h := h.2 q29
                    refine g_aload_0 (pc := 67) X dX8_pack_67 ?_
                    refine g_iload_4 (pc := 68) X dX8_pack_68 ?_
                    refine g_iload_5 (pc := 70) X dX8_pack_70 ?_
                    refine g_iload_6 (pc := 72) X dX8_pack_72 ?_
                    refine g_callV_I (pc := 74) X Y dX8_pack_74 miX8_isRing li_X8_90 (t_WPI hR  h) rfl (by decide) rfl ⟨_, rfl⟩ rfl ⟨Nat.le_of_ble_eq_true rfl, Nat.le_of_ble_eq_true rfl⟩ (Nat.le_of_ble_eq_true rfl) (Nat.le_of_ble_eq_true rfl) rfl (by exact Nat.le_of_ble_eq_true rfl) (fun x30 σ9 hp => ?_)
                    obtain ⟨rfl, h⟩ := hp
                    replace h := h (fun x31 => G o γ 0 0 116 s26 98 [some (.ref (ad o 42)), some (.int c20), some (.int v24), some (.int c21), some (.int c22), some (.int c23), some (.int v25), none] [.int x31]) (by
                        intro x31 h
                        refine g_istore_7 (pc := 98) X dX8_pack_98 (by decide) rfl ?_
                        refine g_iload_7 (pc := 100) X dX8_pack_100 ?_
                        refine g_if_le (pc := 102) X dX8_pack_102 (tgt := 153) (by decide) (fun q33 => ?_) (fun q33 => ?_)
                        · replace h := h.1 q33
                          refine g_iinc_6 (pc := 153) X dX8_pack_153 (v := v25 + nI 1) rfl (by decide) rfl ?_
                          refine g_goto (pc := 156) X dX8_pack_156 (tgt := 61) (by decide) ?_
                          exact g_drop (by simp [lsub]) (ih v24 (v25 + nI 1) s26 hR h)
                        · replace h := h.2 q33
                          refine g_aload_0 (pc := 105) X dX8_pack_105 ?_
                          refine g_aload_0 (pc := 106) X dX8_pack_106 ?_
                          refine g_getRf (pc := 107) X dX8_pack_107 fl_X8_15 rfl (by decide) rfl hR rfl ?_
                          refine g_iload_4 (pc := 110) X dX8_pack_110 ?_
                          refine g_iload_5 (pc := 112) X dX8_pack_112 ?_
                          refine g_iload_6 (pc := 114) X dX8_pack_114 ?_
                          refine g_iload_7 (pc := 116) X dX8_pack_116 ?_
                          refine g_callV_V (pc := 118) X Y dX8_pack_118 miX8_takeFromAll li_X8_77 (t_WSV hR  h) rfl (by decide) rfl ⟨_, rfl⟩ rfl ⟨Nat.le_of_ble_eq_true rfl, Nat.le_of_ble_eq_true rfl⟩ (Nat.le_of_ble_eq_true rfl) (Nat.le_of_ble_eq_true rfl) rfl (by exact Nat.le_of_ble_eq_true rfl) (fun s34 hp => ?_)
                          obtain ⟨hR, h⟩ := hp
                          refine g_aload_0 (pc := 121) X dX8_pack_121 ?_
                          refine g_dup (pc := 122) X dX8_pack_122 rfl ?_
                          refine g_getL (pc := 123) X dX8_pack_123 rfl (by decide) fl_X8_94 rfl ?_
                          refine g_iload_7 (pc := 126) X dX8_pack_126 ?_
                          refine g_i2l (pc := 128) X dX8_pack_128 ?_
                          refine g_ladd (pc := 129) X dX8_pack_129 ?_
                          refine g_putL_w (pc := 130) X dX8_pack_130 fl_X8_94 rfl (by decide) rfl rfl hR h (fun s35 hR h => ?_)
                          refine g_iload_2 (pc := 133) X dX8_pack_133 ?_
                          refine g_iload_1 (pc := 134) X dX8_pack_134 ?_
                          refine g_icmp_ne (pc := 135) X dX8_pack_135 (tgt := 150) (by decide) (fun q36 => ?_) (fun q36 => ?_)
                          · replace h := h.2 q36
                            refine g_iinc_2 (pc := 150) X dX8_pack_150 (v := v24 + nI 1) rfl (by decide) rfl ?_
                            refine g_iinc_6 (pc := 153) X dX8_pack_153 (v := v25 + nI 1) rfl (by decide) rfl ?_
                            refine g_goto (pc := 156) X dX8_pack_156 (tgt := 61) (by decide) ?_
                            exact g_drop (by simp [lsub]) (ih (v24 + nI 1) (v25 + nI 1) s35 hR h)
                          · replace h := h.1 q36
                            refine g_aload_0 (pc := 138) X dX8_pack_138 ?_
                            refine g_iload_4 (pc := 139) X dX8_pack_139 ?_
                            refine g_iload_5 (pc := 141) X dX8_pack_141 ?_
                            refine g_iload_6 (pc := 143) X dX8_pack_143 ?_
                            refine g_iload_7 (pc := 145) X dX8_pack_145 ?_
                            refine g_callV_V (pc := 147) X Y dX8_pack_147 miX8_remember li_X8_97 (t_WSV hR  h) rfl (by decide) rfl ⟨_, rfl⟩ rfl ⟨Nat.le_of_ble_eq_true rfl, Nat.le_of_ble_eq_true rfl⟩ (Nat.le_of_ble_eq_true rfl) (Nat.le_of_ble_eq_true rfl) rfl (by exact Nat.le_of_ble_eq_true rfl) (fun s37 hp => ?_)
                            obtain ⟨hR, h⟩ := hp
                            refine g_iinc_2 (pc := 150) X dX8_pack_150 (v := v24 + nI 1) rfl (by decide) rfl ?_
                            refine g_iinc_6 (pc := 153) X dX8_pack_153 (v := v25 + nI 1) rfl (by decide) rfl ?_
                            refine g_goto (pc := 156) X dX8_pack_156 (tgt := 61) (by decide) ?_
                            exact g_drop (by simp [lsub]) (ih (v24 + nI 1) (v25 + nI 1) s37 hR h))
                    refine g_if_eq (pc := 77) X dX8_pack_77 (tgt := 97) (by decide) (fun q38 => ?_) (fun q38 => ?_)
                    · replace h := h.1 q38
                      refine g_iconst (pc := 97) X dX8_pack_97 kiconst_0 ?_
                      exact h
                    · replace h := h.2 q38
                      refine g_aload_0 (pc := 80) X dX8_pack_80 ?_
                      refine g_aload_0 (pc := 81) X dX8_pack_81 ?_
                      refine g_getRf (pc := 82) X dX8_pack_82 fl_X8_15 rfl (by decide) rfl hR rfl ?_
                      refine g_iload_4 (pc := 85) X dX8_pack_85 ?_
                      refine g_iload_5 (pc := 87) X dX8_pack_87 ?_
                      refine g_iload_6 (pc := 89) X dX8_pack_89 ?_
                      refine g_callV_I (pc := 91) X Y dX8_pack_91 miX8_leastRest li_X8_73 (t_WPI hR  h) rfl (by decide) rfl ⟨_, rfl⟩ rfl ⟨Nat.le_of_ble_eq_true rfl, Nat.le_of_ble_eq_true rfl⟩ (Nat.le_of_ble_eq_true rfl) (Nat.le_of_ble_eq_true rfl) rfl (by exact Nat.le_of_ble_eq_true rfl) (fun x39 σ9 hp => ?_)
                      obtain ⟨rfl, h⟩ := hp
                      refine g_goto (pc := 94) X dX8_pack_94 (tgt := 98) (by decide) ?_
                      exact h
              refine hL c11 c12 c13 v15 _ (fun y41 s42 hR h => ?_) n40 v14 (v15 + (nI 1)) s16 hR h
              · refine g_iinc_5 (pc := 159) X dX8_pack_159 (v := v15 + nI 1) rfl (by decide) rfl ?_
                refine g_goto (pc := 162) X dX8_pack_162 (tgt := 49) (by decide) ?_
                exact ih y41 (v15 + nI 1) s42 hR h
        refine hL c4 c5 v7 _ (fun y44 s45 hR h => ?_) n43 v6 (v7 + (nI 1)) s8 hR h
        · refine g_iinc_4 (pc := 165) X dX8_pack_165 (v := v7 + nI 1) rfl (by decide) rfl ?_
          refine g_goto (pc := 168) X dX8_pack_168 (tgt := 37) (by decide) ?_
          exact ih y44 (v7 + nI 1) s45 hR h
  refine hL p0 (s3.1 1 0) _ (fun s47 hR h => ?_) n46 (nI 0) (nI 0) s3 hR h
  · exact g_return (pc := 171) X Y dX8_pack_171 (Nat.le_of_ble_eq_true rfl) (Nat.le_of_ble_eq_true rfl) ⟨rfl, hR, h⟩
def L_X6_link_36 (Q : gSt → Prop) (c9 : Int32) (c10 : Int32) (c11 : Int32) (K : gSt → Prop) : Nat → Int32 → gSt → Prop
  | 0, _, _ => False
  | n36 + 1, v12, s13 => ((c10 ≤ v12 → (K s13)) ∧ (¬ c10 ≤ v12 → (WPI mX4_pull 1 (fun o => [.ref (ad o 16), .int c11, .int v12]) (fun x16 => ((x16 ≤ 0 → (L_X6_link_36 Q c9 c10 c11 K n36 (v12 + nI 1) s13)) ∧ (¬ x16 ≤ 0 → (rI s13 48 30 c11 (fun x18 => wI s13 48 30 c11 (x18 ||| ((nI 1) <<< (v12 &&& 31))) (fun s19 => L_X6_link_36 Q c9 c10 c11 K n36 (v12 + nI 1) s19)))))) s13)))
def L_X6_link_13 (Q : gSt → Prop) (c1 : Int32) (c2 : Int32) (K : gSt → Prop) : Nat → Int32 → gSt → Prop
  | 0, _, _ => False
  | n13 + 1, v3, s4 => ((c2 ≤ v3 → (K s4)) ∧ (¬ c2 ≤ v3 → (rI s4 31 30 v3 (fun x7 => wI s4 48 30 v3 x7 (fun s8 => ∃ m36, L_X6_link_36 Q c1 c2 v3 (fun s21 => rI s21 48 30 v3 (fun x22 => wI s21 48 30 v3 (x22 &&& c1) (fun s23 => L_X6_link_13 Q c1 c2 K n13 (v3 + nI 1) s23))) m36 (nI 0) s8)))))
def W_X6_link (p0 : Int32) (Q : gSt → Prop) (σ : gSt) : Prop := ∃ m13, L_X6_link_13 Q p0 (σ.1 1 0) (fun s25 => Q s25) m13 (nI 0) σ
set_option maxHeartbeats 4000000 in
theorem t_X6_link {o : gOm} {l : Launch} {b : Bool}   {σ : gSt} (hR : σ.2.2 = gRf b) {p0 : Int32} {Q : gSt → Prop} (h : W_X6_link p0 Q σ) : Sp o l mX6_link 2 0 0 [.ref (ad o 46), .int p0] 116 116 σ (pV (fun s => s.2.2 = gRf b ∧ Q s)) := by
  unfold W_X6_link at h
  refine Sp.of (ls0 := [some (.ref (ad o 46)), some (.int p0), none, none, none]) miX6_link rfl (Nat.le_of_ble_eq_true rfl) rfl (fun γ hγ hnm X Y => ?_)
  subst hγ
  have X : gX o γ cX6_link 5 RX6 := X
  refine g_aload_0 (pc := 0) X dX6_link_0 ?_
  refine g_getRf (pc := 1) X dX6_link_1 fl_X6_21 rfl (by decide) rfl hR rfl ?_
  refine g_getRf (pc := 4) X dX6_link_4 fl_X6_39 rfl (by decide) rfl hR rfl ?_
  refine g_getI (pc := 7) X dX6_link_7 rfl (by decide) fl_X6_45 (Or.inl rfl) ?_
  refine g_istore_2 (pc := 10) X dX6_link_10 (by decide) rfl ?_
  refine g_iconst (pc := 11) X dX6_link_11 kiconst_0 ?_
  refine g_istore_3 (pc := 12) X dX6_link_12 (by decide) rfl ?_
  obtain ⟨n24, h⟩ := h
  have hL : ∀ (c1 : Int32) (c2 : Int32) (K : gSt → Prop) (_ : ∀  (s5 : gSt), s5.2.2 = gRf b → K s5 → G o γ 0 0 116 s5 90 [some (.ref (ad o 46)), some (.int c1), some (.int c2), none, none] []) (n : Nat) (v3 : Int32) (s4 : gSt), s4.2.2 = gRf b → L_X6_link_13 Q c1 c2 K n v3 s4 → G o γ 0 0 116 s4 13 [some (.ref (ad o 46)), some (.int c1), some (.int c2), some (.int v3), none] [] := by
    intro c1 c2 K hK n
    induction n with
    | zero => intro v3 s4 hR h; exact False.elim h
    | succ n ih =>
      intro v3 s4 hR h
      rw [L_X6_link_13] at h
      refine g_iload_3 (pc := 13) X dX6_link_13 ?_
      refine g_iload_2 (pc := 14) X dX6_link_14 ?_
      refine g_icmp_ge (pc := 15) X dX6_link_15 (tgt := 90) (by decide) (fun q6 => ?_) (fun q6 => ?_)
      · replace h := h.1 q6
        exact g_drop (by simp [lsub]) (hK s4 hR h)
      · replace h := h.2 q6
        refine g_aload_0 (pc := 18) X dX6_link_18 ?_
        refine g_getRf (pc := 19) X dX6_link_19 fl_X6_15 rfl (by decide) rfl hR rfl ?_
        refine g_iload_3 (pc := 22) X dX6_link_22 ?_
        refine g_aload_0 (pc := 23) X dX6_link_23 ?_
        refine g_getRf (pc := 24) X dX6_link_24 fl_X6_25 rfl (by decide) rfl hR rfl ?_
        refine g_getRf (pc := 27) X dX6_link_27 fl_X6_54 rfl (by decide) rfl hR rfl ?_
        refine g_iload_3 (pc := 30) X dX6_link_30 ?_
        refine g_iaload_w (pc := 31) X dX6_link_31 rfl (by decide) h (fun x7 h => ?_)
        refine g_iastore_w (pc := 32) X dX6_link_32 rfl (by decide) hR h (fun s8 hR h => ?_)
        refine g_iconst (pc := 33) X dX6_link_33 kiconst_0 ?_
        refine g_istore_4 (pc := 34) X dX6_link_34 (by decide) rfl ?_
        obtain ⟨n20, h⟩ := h
        have hL : ∀ (c9 : Int32) (c10 : Int32) (c11 : Int32) (K : gSt → Prop) (_ : ∀  (s14 : gSt), s14.2.2 = gRf b → K s14 → G o γ 0 0 116 s14 74 [some (.ref (ad o 46)), some (.int c9), some (.int c10), some (.int c11), none] []) (n : Nat) (v12 : Int32) (s13 : gSt), s13.2.2 = gRf b → L_X6_link_36 Q c9 c10 c11 K n v12 s13 → G o γ 0 0 116 s13 36 [some (.ref (ad o 46)), some (.int c9), some (.int c10), some (.int c11), some (.int v12)] [] := by
          intro c9 c10 c11 K hK n
          induction n with
          | zero => intro v12 s13 hR h; exact False.elim h
          | succ n ih =>
            intro v12 s13 hR h
            rw [L_X6_link_36] at h
            refine g_iload_4 (pc := 36) X dX6_link_36 ?_
            refine g_iload_2 (pc := 38) X dX6_link_38 ?_
            refine g_icmp_ge (pc := 39) X dX6_link_39 (tgt := 74) (by decide) (fun q15 => ?_) (fun q15 => ?_)
            · replace h := h.1 q15
              exact g_drop (by simp [lsub]) (hK s13 hR h)
            · replace h := h.2 q15
              refine g_aload_0 (pc := 42) X dX6_link_42 ?_
              refine g_getRf (pc := 43) X dX6_link_43 fl_X6_21 rfl (by decide) rfl hR rfl ?_
              refine g_iload_3 (pc := 46) X dX6_link_46 ?_
              refine g_iload_4 (pc := 47) X dX6_link_47 ?_
              refine g_callV_I (pc := 49) X Y dX6_link_49 miX4_pull li_X6_59 (t_WPI hR  h) rfl (by decide) rfl ⟨_, rfl⟩ rfl ⟨Nat.le_of_ble_eq_true rfl, Nat.le_of_ble_eq_true rfl⟩ (Nat.le_of_ble_eq_true rfl) (Nat.le_of_ble_eq_true rfl) rfl (by exact Nat.le_of_ble_eq_true rfl) (fun x16 σ9 hp => ?_)
              obtain ⟨rfl, h⟩ := hp
              refine g_if_le (pc := 52) X dX6_link_52 (tgt := 68) (by decide) (fun q17 => ?_) (fun q17 => ?_)
              · replace h := h.1 q17
                refine g_iinc_4 (pc := 68) X dX6_link_68 (v := v12 + nI 1) rfl (by decide) rfl ?_
                refine g_goto (pc := 71) X dX6_link_71 (tgt := 36) (by decide) ?_
                exact ih (v12 + nI 1) s13 hR h
              · replace h := h.2 q17
                refine g_aload_0 (pc := 55) X dX6_link_55 ?_
                refine g_getRf (pc := 56) X dX6_link_56 fl_X6_15 rfl (by decide) rfl hR rfl ?_
                refine g_iload_3 (pc := 59) X dX6_link_59 ?_
                refine g_dup2 (pc := 60) X dX6_link_60 rfl rfl ?_
                refine g_iaload_w (pc := 61) X dX6_link_61 rfl (by decide) h (fun x18 h => ?_)
                refine g_iconst (pc := 62) X dX6_link_62 kiconst_1 ?_
                refine g_iload_4 (pc := 63) X dX6_link_63 ?_
                refine g_ishl (pc := 65) X dX6_link_65 ?_
                refine g_ior (pc := 66) X dX6_link_66 ?_
                refine g_iastore_w (pc := 67) X dX6_link_67 rfl (by decide) hR h (fun s19 hR h => ?_)
                refine g_iinc_4 (pc := 68) X dX6_link_68 (v := v12 + nI 1) rfl (by decide) rfl ?_
                refine g_goto (pc := 71) X dX6_link_71 (tgt := 36) (by decide) ?_
                exact ih (v12 + nI 1) s19 hR h
        refine hL c1 c2 v3 _ (fun s21 hR h => ?_) n20 (nI 0) s8 hR h
        · refine g_aload_0 (pc := 74) X dX6_link_74 ?_
          refine g_getRf (pc := 75) X dX6_link_75 fl_X6_15 rfl (by decide) rfl hR rfl ?_
          refine g_iload_3 (pc := 78) X dX6_link_78 ?_
          refine g_dup2 (pc := 79) X dX6_link_79 rfl rfl ?_
          refine g_iaload_w (pc := 80) X dX6_link_80 rfl (by decide) h (fun x22 h => ?_)
          refine g_iload_1 (pc := 81) X dX6_link_81 ?_
          refine g_iand (pc := 82) X dX6_link_82 ?_
          refine g_iastore_w (pc := 83) X dX6_link_83 rfl (by decide) hR h (fun s23 hR h => ?_)
          refine g_iinc_3 (pc := 84) X dX6_link_84 (v := v3 + nI 1) rfl (by decide) rfl ?_
          refine g_goto (pc := 87) X dX6_link_87 (tgt := 13) (by decide) ?_
          exact ih (v3 + nI 1) s23 hR h
  refine hL p0 (σ.1 1 0) _ (fun s25 hR h => ?_) n24 (nI 0) σ hR h
  · exact g_return (pc := 90) X Y dX6_link_90 (Nat.le_of_ble_eq_true rfl) (Nat.le_of_ble_eq_true rfl) ⟨rfl, hR, h⟩
def L_X6_spread_25 (Q : gSt → Prop) (c9 : Int32) (c10 : Int32) (c11 : Int32) (K : Int32 → gSt → Prop) : Nat → Int32 → Int32 → gSt → Prop
  | 0, _, _, _ => False
  | n25 + 1, v12, v13, s14 => (((s14.1 1 0) ≤ v13 → (K v12 s14)) ∧ (¬ (s14.1 1 0) ≤ v13 → (((((ushr v12 v13) &&& (nI 1)) = 0 → (L_X6_spread_25 Q c9 c10 c11 K n25 v12 (v13 + nI 1) s14)) ∧ (¬ ((ushr v12 v13) &&& (nI 1)) = 0 → (wI s14 47 30 v13 c9 (fun s19 => rI s19 48 30 v13 (fun x20 => L_X6_spread_25 Q c9 c10 c11 K n25 (v12 ||| x20) (v13 + nI 1) s19))))))))
def L_X6_spread_13 (Q : gSt → Prop) (c2 : Int32) (K : Int32 → gSt → Prop) : Nat → Int32 → Int32 → gSt → Prop
  | 0, _, _, _ => False
  | n13 + 1, v3, v4, s5 => (((nI 30) ≤ v4 → (K v3 s5)) ∧ (¬ (nI 30) ≤ v4 → (∃ m25, L_X6_spread_25 Q c2 v4 v3 (fun y22 s23 => ((v3 = y22 → (K y22 s23)) ∧ (¬ v3 = y22 → (L_X6_spread_13 Q c2 K n13 y22 (v4 + nI 1) s23)))) m25 v3 (nI 0) s5)))
def W_X6_spread (p0 : Int32) (Q : gSt → Prop) (σ : gSt) : Prop := wI σ 47 30 p0 p0 (fun s1 => ∃ m13, L_X6_spread_13 Q p0 (fun y26 s27 => wI s27 49 30 p0 y26 (fun s28 => Q s28)) m13 ((nI 1) <<< (p0 &&& 31)) (nI 0) s1)
set_option maxHeartbeats 4000000 in
theorem t_X6_spread {o : gOm} {l : Launch} {b : Bool}   {σ : gSt} (hR : σ.2.2 = gRf b) {p0 : Int32} {Q : gSt → Prop} (h : W_X6_spread p0 Q σ) : Sp o l mX6_spread 1 0 0 [.ref (ad o 46), .int p0] 116 116 σ (pV (fun s => s.2.2 = gRf b ∧ Q s)) := by
  unfold W_X6_spread at h
  refine Sp.of (ls0 := [some (.ref (ad o 46)), some (.int p0), none, none, none, none]) miX6_spread rfl (Nat.le_of_ble_eq_true rfl) rfl (fun γ hγ hnm X Y => ?_)
  subst hγ
  have X : gX o γ cX6_spread 6 RX6 := X
  refine g_iconst (pc := 0) X dX6_spread_0 kiconst_1 ?_
  refine g_iload_1 (pc := 1) X dX6_spread_1 ?_
  refine g_ishl (pc := 2) X dX6_spread_2 ?_
  refine g_istore_2 (pc := 3) X dX6_spread_3 (by decide) rfl ?_
  refine g_aload_0 (pc := 4) X dX6_spread_4 ?_
  refine g_getRf (pc := 5) X dX6_spread_5 fl_X6_9 rfl (by decide) rfl hR rfl ?_
  refine g_iload_1 (pc := 8) X dX6_spread_8 ?_
  refine g_iload_1 (pc := 9) X dX6_spread_9 ?_
  refine g_iastore_w (pc := 10) X dX6_spread_10 rfl (by decide) hR h (fun s1 hR h => ?_)
  refine g_iconst (pc := 11) X dX6_spread_11 kiconst_0 ?_
  refine g_istore_3 (pc := 12) X dX6_spread_12 (by decide) rfl ?_
  obtain ⟨n25, h⟩ := h
  have hL : ∀ (c2 : Int32) (K : Int32 → gSt → Prop) (_ : ∀ (y6 : Int32) (s7 : gSt), s7.2.2 = gRf b → K y6 s7 → G o γ 0 0 116 s7 88 [some (.ref (ad o 46)), some (.int c2), some (.int y6), none, none, none] []) (n : Nat) (v3 : Int32) (v4 : Int32) (s5 : gSt), s5.2.2 = gRf b → L_X6_spread_13 Q c2 K n v3 v4 s5 → G o γ 0 0 116 s5 13 [some (.ref (ad o 46)), some (.int c2), some (.int v3), some (.int v4), none, none] [] := by
    intro c2 K hK n
    induction n with
    | zero => intro v3 v4 s5 hR h; exact False.elim h
    | succ n ih =>
      intro v3 v4 s5 hR h
      rw [L_X6_spread_13] at h
      refine g_iload_3 (pc := 13) X dX6_spread_13 ?_
      refine g_bipush (pc := 14) X dX6_spread_14 kbipush_30 ?_
      refine g_icmp_ge (pc := 16) X dX6_spread_16 (tgt := 88) (by decide) (fun q8 => ?_) (fun q8 => ?_)
      · replace h := h.1 q8
        exact g_drop (by simp [lsub]) (hK v3 s5 hR h)
      · replace h := h.2 q8
        refine g_iload_2 (pc := 19) X dX6_spread_19 ?_
        refine g_istore_4 (pc := 20) X dX6_spread_20 (by decide) rfl ?_
        refine g_iconst (pc := 22) X dX6_spread_22 kiconst_0 ?_
        refine g_istore_5 (pc := 23) X dX6_spread_23 (by decide) rfl ?_
        obtain ⟨n21, h⟩ := h
        have hL : ∀ (c9 : Int32) (c10 : Int32) (c11 : Int32) (K : Int32 → gSt → Prop) (_ : ∀ (y15 : Int32) (s16 : gSt), s16.2.2 = gRf b → K y15 s16 → G o γ 0 0 116 s16 73 [some (.ref (ad o 46)), some (.int c9), some (.int y15), some (.int c10), some (.int c11), none] []) (n : Nat) (v12 : Int32) (v13 : Int32) (s14 : gSt), s14.2.2 = gRf b → L_X6_spread_25 Q c9 c10 c11 K n v12 v13 s14 → G o γ 0 0 116 s14 25 [some (.ref (ad o 46)), some (.int c9), some (.int v12), some (.int c10), some (.int c11), some (.int v13)] [] := by
          intro c9 c10 c11 K hK n
          induction n with
          | zero => intro v12 v13 s14 hR h; exact False.elim h
          | succ n ih =>
            intro v12 v13 s14 hR h
            rw [L_X6_spread_25] at h
            refine g_iload_5 (pc := 25) X dX6_spread_25 ?_
            refine g_aload_0 (pc := 27) X dX6_spread_27 ?_
            refine g_getRf (pc := 28) X dX6_spread_28 fl_X6_21 rfl (by decide) rfl hR rfl ?_
            refine g_getRf (pc := 31) X dX6_spread_31 fl_X6_39 rfl (by decide) rfl hR rfl ?_
            refine g_getI (pc := 34) X dX6_spread_34 rfl (by decide) fl_X6_45 (Or.inl rfl) ?_
            refine g_icmp_ge (pc := 37) X dX6_spread_37 (tgt := 73) (by decide) (fun q17 => ?_) (fun q17 => ?_)
            · replace h := h.1 q17
              exact g_drop (by simp [lsub]) (hK v12 s14 hR h)
            · replace h := h.2 q17
              refine g_iload_2 (pc := 40) X dX6_spread_40 ?_
              refine g_iload_5 (pc := 41) X dX6_spread_41 ?_
              refine g_iushr (pc := 43) X dX6_spread_43 ?_
              refine g_iconst (pc := 44) X dX6_spread_44 kiconst_1 ?_
              refine g_iand (pc := 45) X dX6_spread_45 ?_
              refine g_if_eq (pc := 46) X dX6_spread_46 (tgt := 67) (by decide) (fun q18 => ?_) (fun q18 => ?_)
              · replace h := h.1 q18
                refine g_iinc_5 (pc := 67) X dX6_spread_67 (v := v13 + nI 1) rfl (by decide) rfl ?_
                refine g_goto (pc := 70) X dX6_spread_70 (tgt := 25) (by decide) ?_
                exact ih v12 (v13 + nI 1) s14 hR h
              · replace h := h.2 q18
                refine g_aload_0 (pc := 49) X dX6_spread_49 ?_
                refine g_getRf (pc := 50) X dX6_spread_50 fl_X6_9 rfl (by decide) rfl hR rfl ?_
                refine g_iload_5 (pc := 53) X dX6_spread_53 ?_
                refine g_iload_1 (pc := 55) X dX6_spread_55 ?_
                refine g_iastore_w (pc := 56) X dX6_spread_56 rfl (by decide) hR h (fun s19 hR h => ?_)
                refine g_iload_2 (pc := 57) X dX6_spread_57 ?_
                refine g_aload_0 (pc := 58) X dX6_spread_58 ?_
                refine g_getRf (pc := 59) X dX6_spread_59 fl_X6_15 rfl (by decide) rfl hR rfl ?_
                refine g_iload_5 (pc := 62) X dX6_spread_62 ?_
                refine g_iaload_w (pc := 64) X dX6_spread_64 rfl (by decide) h (fun x20 h => ?_)
                refine g_ior (pc := 65) X dX6_spread_65 ?_
                refine g_istore_2 (pc := 66) X dX6_spread_66 (by decide) rfl ?_
                refine g_iinc_5 (pc := 67) X dX6_spread_67 (v := v13 + nI 1) rfl (by decide) rfl ?_
                refine g_goto (pc := 70) X dX6_spread_70 (tgt := 25) (by decide) ?_
                exact ih (v12 ||| x20) (v13 + nI 1) s19 hR h
        refine hL c2 v4 v3 _ (fun y22 s23 hR h => ?_) n21 v3 (nI 0) s5 hR h
        · refine g_iload_4 (pc := 73) X dX6_spread_73 ?_
          refine g_iload_2 (pc := 75) X dX6_spread_75 ?_
          refine g_icmp_ne (pc := 76) X dX6_spread_76 (tgt := 82) (by decide) (fun q24 => ?_) (fun q24 => ?_)
          · replace h := h.2 q24
            refine g_iinc_3 (pc := 82) X dX6_spread_82 (v := v4 + nI 1) rfl (by decide) rfl ?_
            refine g_goto (pc := 85) X dX6_spread_85 (tgt := 13) (by decide) ?_
            exact g_drop (by simp [lsub]) (ih y22 (v4 + nI 1) s23 hR h)
          · replace h := h.1 q24
            refine g_goto (pc := 79) X dX6_spread_79 (tgt := 88) (by decide) ?_
            exact g_drop (by simp [lsub]) (hK y22 s23 hR h)
  refine hL p0 _ (fun y26 s27 hR h => ?_) n25 ((nI 1) <<< (p0 &&& 31)) (nI 0) s1 hR h
  · refine g_aload_0 (pc := 88) X dX6_spread_88 ?_
    refine g_getRf (pc := 89) X dX6_spread_89 fl_X6_18 rfl (by decide) rfl hR rfl ?_
    refine g_iload_1 (pc := 92) X dX6_spread_92 ?_
    refine g_iload_2 (pc := 93) X dX6_spread_93 ?_
    refine g_iastore_w (pc := 94) X dX6_spread_94 rfl (by decide) hR h (fun s28 hR h => ?_)
    exact g_return (pc := 95) X Y dX6_spread_95 (Nat.le_of_ble_eq_true rfl) (Nat.le_of_ble_eq_true rfl) ⟨rfl, hR, h⟩
def L_X6_find_17 (Q : Int32 → gSt → Prop) (c3 : Int32) (K : Int32 → gSt → Prop) : Nat → Int32 → Int32 → gSt → Prop
  | 0, _, _, _ => False
  | n17 + 1, v4, v5, s6 => (((s6.1 1 0) ≤ v5 → (K v4 s6)) ∧ (¬ (s6.1 1 0) ≤ v5 → (((((ushr c3 v5) &&& (nI 1)) = 0 → (L_X6_find_17 Q c3 K n17 v4 (v5 + nI 1) s6)) ∧ (¬ ((ushr c3 v5) &&& (nI 1)) = 0 → (rI s6 47 30 v5 (fun x11 => ((x11 = ((-1 : Int32)) → (W_X6_spread v5 (fun s13 => L_X6_find_17 Q c3 K n17 (v4 + nI 1) (v5 + nI 1) s13) s6)) ∧ (¬ x11 = ((-1 : Int32)) → (L_X6_find_17 Q c3 K n17 v4 (v5 + nI 1) s6))))))))))
def W_X6_find (p0 : Int32) (Q : Int32 → gSt → Prop) (σ : gSt) : Prop := W_X6_link p0 (fun s1 => W_J7_fill_53178 47 ((-1 : Int32)) (fun s2 => ∃ m17, L_X6_find_17 Q p0 (fun y15 s16 => Q y15 s16) m17 (nI 0) (nI 0) s2) s1) σ
set_option maxHeartbeats 4000000 in
theorem t_X6_find {o : gOm} {l : Launch} {b : Bool}   {σ : gSt} (hR : σ.2.2 = gRf b) {p0 : Int32} {Q : Int32 → gSt → Prop} (h : W_X6_find p0 Q σ) : Sp o l mX6_find 3 0 0 [.ref (ad o 46), .int p0] 116 116 σ (pI (fun x s => s.2.2 = gRf b ∧ Q x s)) := by
  unfold W_X6_find at h
  refine Sp.of (ls0 := [some (.ref (ad o 46)), some (.int p0), none, none]) miX6_find rfl (Nat.le_of_ble_eq_true rfl) rfl (fun γ hγ hnm X Y => ?_)
  subst hγ
  have X : gX o γ cX6_find 4 RX6 := X
  refine g_aload_0 (pc := 0) X dX6_find_0 ?_
  refine g_iload_1 (pc := 1) X dX6_find_1 ?_
  refine g_callV_V (pc := 2) X Y dX6_find_2 miX6_link li_X6_29 (t_X6_link hR  h) rfl (by decide) rfl ⟨_, rfl⟩ rfl ⟨Nat.le_of_ble_eq_true rfl, Nat.le_of_ble_eq_true rfl⟩ (Nat.le_of_ble_eq_true rfl) (Nat.le_of_ble_eq_true rfl) rfl (by exact Nat.le_of_ble_eq_true rfl) (fun s1 hp => ?_)
  obtain ⟨hR, h⟩ := hp
  refine g_aload_0 (pc := 5) X dX6_find_5 ?_
  refine g_getRf (pc := 6) X dX6_find_6 fl_X6_9 rfl (by decide) rfl hR rfl ?_
  refine g_iconst (pc := 9) X dX6_find_9 kiconst_m1 ?_
  refine g_callS_V (pc := 10) X Y dX6_find_10 miJ7_fill_53178 li_X6_33 (t_J7_fill_53178 hR (by decide) (by decide) h) rfl ⟨Nat.le_of_ble_eq_true rfl, Nat.le_of_ble_eq_true rfl⟩ (Nat.le_of_ble_eq_true rfl) (Nat.le_of_ble_eq_true rfl) rfl (by exact Nat.le_of_ble_eq_true rfl) (fun s2 hp => ?_)
  obtain ⟨hR, h⟩ := hp
  refine g_iconst (pc := 13) X dX6_find_13 kiconst_0 ?_
  refine g_istore_2 (pc := 14) X dX6_find_14 (by decide) rfl ?_
  refine g_iconst (pc := 15) X dX6_find_15 kiconst_0 ?_
  refine g_istore_3 (pc := 16) X dX6_find_16 (by decide) rfl ?_
  obtain ⟨n14, h⟩ := h
  have hL : ∀ (c3 : Int32) (K : Int32 → gSt → Prop) (_ : ∀ (y7 : Int32) (s8 : gSt), s8.2.2 = gRf b → K y7 s8 → G o γ 0 0 116 s8 63 [some (.ref (ad o 46)), some (.int c3), some (.int y7), none] []) (n : Nat) (v4 : Int32) (v5 : Int32) (s6 : gSt), s6.2.2 = gRf b → L_X6_find_17 Q c3 K n v4 v5 s6 → G o γ 0 0 116 s6 17 [some (.ref (ad o 46)), some (.int c3), some (.int v4), some (.int v5)] [] := by
    intro c3 K hK n
    induction n with
    | zero => intro v4 v5 s6 hR h; exact False.elim h
    | succ n ih =>
      intro v4 v5 s6 hR h
      rw [L_X6_find_17] at h
      refine g_iload_3 (pc := 17) X dX6_find_17 ?_
      refine g_aload_0 (pc := 18) X dX6_find_18 ?_
      refine g_getRf (pc := 19) X dX6_find_19 fl_X6_21 rfl (by decide) rfl hR rfl ?_
      refine g_getRf (pc := 22) X dX6_find_22 fl_X6_39 rfl (by decide) rfl hR rfl ?_
      refine g_getI (pc := 25) X dX6_find_25 rfl (by decide) fl_X6_45 (Or.inl rfl) ?_
      refine g_icmp_ge (pc := 28) X dX6_find_28 (tgt := 63) (by decide) (fun q9 => ?_) (fun q9 => ?_)
      · replace h := h.1 q9
        exact g_drop (by simp [lsub]) (hK v4 s6 hR h)
      · replace h := h.2 q9
        refine g_iload_1 (pc := 31) X dX6_find_31 ?_
        refine g_iload_3 (pc := 32) X dX6_find_32 ?_
        refine g_iushr (pc := 33) X dX6_find_33 ?_
        refine g_iconst (pc := 34) X dX6_find_34 kiconst_1 ?_
        refine g_iand (pc := 35) X dX6_find_35 ?_
        refine g_if_eq (pc := 36) X dX6_find_36 (tgt := 57) (by decide) (fun q10 => ?_) (fun q10 => ?_)
        · replace h := h.1 q10
          refine g_iinc_3 (pc := 57) X dX6_find_57 (v := v5 + nI 1) rfl (by decide) rfl ?_
          refine g_goto (pc := 60) X dX6_find_60 (tgt := 17) (by decide) ?_
          exact ih v4 (v5 + nI 1) s6 hR h
        · replace h := h.2 q10
          refine g_aload_0 (pc := 39) X dX6_find_39 ?_
          refine g_getRf (pc := 40) X dX6_find_40 fl_X6_9 rfl (by decide) rfl hR rfl ?_
          refine g_iload_3 (pc := 43) X dX6_find_43 ?_
          refine g_iaload_w (pc := 44) X dX6_find_44 rfl (by decide) h (fun x11 h => ?_)
          refine g_iconst (pc := 45) X dX6_find_45 kiconst_m1 ?_
          refine g_icmp_ne (pc := 46) X dX6_find_46 (tgt := 57) (by decide) (fun q12 => ?_) (fun q12 => ?_)
          · replace h := h.2 q12
            refine g_iinc_3 (pc := 57) X dX6_find_57 (v := v5 + nI 1) rfl (by decide) rfl ?_
            refine g_goto (pc := 60) X dX6_find_60 (tgt := 17) (by decide) ?_
            exact ih v4 (v5 + nI 1) s6 hR h
          · replace h := h.1 q12
            refine g_aload_0 (pc := 49) X dX6_find_49 ?_
            refine g_iload_3 (pc := 50) X dX6_find_50 ?_
            refine g_callV_V (pc := 51) X Y dX6_find_51 miX6_spread li_X6_51 (t_X6_spread hR  h) rfl (by decide) rfl ⟨_, rfl⟩ rfl ⟨Nat.le_of_ble_eq_true rfl, Nat.le_of_ble_eq_true rfl⟩ (Nat.le_of_ble_eq_true rfl) (Nat.le_of_ble_eq_true rfl) rfl (by exact Nat.le_of_ble_eq_true rfl) (fun s13 hp => ?_)
            obtain ⟨hR, h⟩ := hp
            refine g_iinc_2 (pc := 54) X dX6_find_54 (v := v4 + nI 1) rfl (by decide) rfl ?_
            refine g_iinc_3 (pc := 57) X dX6_find_57 (v := v5 + nI 1) rfl (by decide) rfl ?_
            refine g_goto (pc := 60) X dX6_find_60 (tgt := 17) (by decide) ?_
            exact ih (v4 + nI 1) (v5 + nI 1) s13 hR h
  refine hL p0 _ (fun y15 s16 hR h => ?_) n14 (nI 0) (nI 0) s2 hR h
  · refine g_iload_2 (pc := 63) X dX6_find_63 ?_
    exact g_ireturn (pc := 64) X Y dX6_find_64 (Nat.le_of_ble_eq_true rfl) (Nat.le_of_ble_eq_true rfl) ⟨_, rfl, hR, h⟩
def W_X6_membersWith (p0 : Int32) (Q : Int32 → Prop) (σ : gSt) : Prop := rI σ 47 30 p0 (fun x1 => ((x1 = ((-1 : Int32)) → (Q (nI 0))) ∧ (¬ x1 = ((-1 : Int32)) → (rI σ 47 30 p0 (fun x3 => rI σ 49 30 x3 (fun x4 => Q x4))))))
set_option maxHeartbeats 4000000 in
theorem t_X6_membersWith {o : gOm} {l : Launch} {b : Bool}   {σ : gSt} (hR : σ.2.2 = gRf b) {p0 : Int32} {Q : Int32 → Prop} (h : W_X6_membersWith p0 Q σ) : Sp o l mX6_membersWith 1 0 0 [.ref (ad o 46), .int p0] 116 116 σ (pI (fun x s => σ = s ∧ Q x)) := by
  unfold W_X6_membersWith at h
  refine Sp.of (ls0 := [some (.ref (ad o 46)), some (.int p0)]) miX6_membersWith rfl (Nat.le_of_ble_eq_true rfl) rfl (fun γ hγ hnm X Y => ?_)
  subst hγ
  have X : gX o γ cX6_membersWith 2 RX6 := X
  refine g_aload_0 (pc := 0) X dX6_membersWith_0 ?_
  refine g_getRf (pc := 1) X dX6_membersWith_1 fl_X6_9 rfl (by decide) rfl hR rfl ?_
  refine g_iload_1 (pc := 4) X dX6_membersWith_4 ?_
  refine g_iaload_w (pc := 5) X dX6_membersWith_5 rfl (by decide) h (fun x1 h => ?_)
  refine g_iconst (pc := 6) X dX6_membersWith_6 kiconst_m1 ?_
  refine g_icmp_ne (pc := 7) X dX6_membersWith_7 (tgt := 14) (by decide) (fun q2 => ?_) (fun q2 => ?_)
  · replace h := h.2 q2
    refine g_aload_0 (pc := 14) X dX6_membersWith_14 ?_
    refine g_getRf (pc := 15) X dX6_membersWith_15 fl_X6_18 rfl (by decide) rfl hR rfl ?_
    refine g_aload_0 (pc := 18) X dX6_membersWith_18 ?_
    refine g_getRf (pc := 19) X dX6_membersWith_19 fl_X6_9 rfl (by decide) rfl hR rfl ?_
    refine g_iload_1 (pc := 22) X dX6_membersWith_22 ?_
    refine g_iaload_w (pc := 23) X dX6_membersWith_23 rfl (by decide) h (fun x3 h => ?_)
    refine g_iaload_w (pc := 24) X dX6_membersWith_24 rfl (by decide) h (fun x4 h => ?_)
    exact g_ireturn (pc := 25) X Y dX6_membersWith_25 (Nat.le_of_ble_eq_true rfl) (Nat.le_of_ble_eq_true rfl) ⟨_, rfl, rfl, h⟩
  · replace h := h.1 q2
    refine g_iconst (pc := 10) X dX6_membersWith_10 kiconst_0 ?_
    refine g_goto (pc := 11) X dX6_membersWith_11 (tgt := 25) (by decide) ?_
    exact g_ireturn (pc := 25) X Y dX6_membersWith_25 (Nat.le_of_ble_eq_true rfl) (Nat.le_of_ble_eq_true rfl) ⟨_, rfl, rfl, h⟩
def L_X5_load_18 (Q : gSt → Prop) (c4 : Int32) (K : gSt → Prop) : Nat → Int32 → gSt → Prop
  | 0, _, _ => False
  | n18 + 1, v5, s6 => (((nI 30) ≤ v5 → (K s6)) ∧ (¬ (nI 30) ≤ v5 → (((((ushr c4 v5) &&& (nI 1)) = 0 → (L_X5_load_18 Q c4 K n18 (v5 + nI 1) s6)) ∧ (¬ ((ushr c4 v5) &&& (nI 1)) = 0 → ((((nI 10) ≤ (s6.1 50 0) → (L_X5_load_18 Q c4 K n18 (v5 + nI 1) s6)) ∧ (¬ (nI 10) ≤ (s6.1 50 0) → (wI s6 51 10 (s6.1 50 0) v5 (fun s11 => fI s11 50 0 ((s11.1 50 0) + (nI 1)) (fun s12 => L_X5_load_18 Q c4 K n18 (v5 + nI 1) s12)))))))))))
def L_X5_load_103 (Q : gSt → Prop) (c22 : Int32) (c23 : Int32) (K : gSt → Prop) : Nat → Int32 → gSt → Prop
  | 0, _, _ => False
  | n103 + 1, v24, s25 => ((c22 ≤ v24 → (K s25)) ∧ (¬ c22 ≤ v24 → (rI s25 51 10 v24 (fun x28 => WPI mX4_pull 1 (fun o => [.ref (ad o 16), .int c23, .int x28]) (fun x29 => wI s25 52 100 ((c22 * (nI 10)) + v24) x29 (fun s30 => WPI mX3_partsThem 3 (fun o => [.ref (ad o 30), .int c23, .int x28]) (fun x31 => WSV mX11_setBit 1 (fun o => [.ref (ad o 53), .int c22, .int v24, .int x31]) (fun s32 => rI s32 31 30 c23 (fun x33 => ∀ J35 : Int32 → Prop, (∀ x34, (WSV mX11_setBit 1 (fun o => [.ref (ad o 54), .int c22, .int v24, .int x34]) (fun s36 => L_X5_load_103 Q c22 c23 K n103 (v24 + nI 1) s36) s32) → J35 x34) → ((((ushr x33 x28) &&& (nI 1)) = 0 → (J35 (nI 0))) ∧ (¬ ((ushr x33 x28) &&& (nI 1)) = 0 → (J35 (nI 1)))))) s30) s30)) s25))))
def L_X5_load_85 (Q : gSt → Prop)  (K : gSt → Prop) : Nat → Int32 → gSt → Prop
  | 0, _, _ => False
  | n85 + 1, v17, s18 => (((s18.1 50 0) ≤ v17 → (K s18)) ∧ (¬ (s18.1 50 0) ≤ v17 → (rI s18 51 10 v17 (fun x21 => ∃ m103, L_X5_load_103 Q v17 x21 (fun s39 => L_X5_load_85 Q K n85 (v17 + nI 1) s39) m103 (nI 0) s18))))
def W_X5_load (p0 : Int32) (Q : gSt → Prop) (σ : gSt) : Prop := fI σ 50 0 (nI 0) (fun s1 => WPI mX3_roomOfHeap 1 (fun o => [.ref (ad o 30)]) (fun x2 => fI s1 50 1 x2 (fun s3 => ∃ m18, L_X5_load_18 Q p0 (fun s14 => W_J7_fill_53178 53 (nI 0) (fun s15 => W_J7_fill_53178 54 (nI 0) (fun s16 => ∃ m85, L_X5_load_85 Q (fun s41 => Q s41) m85 (nI 1) s16) s15) s14) m18 (nI 0) s3)) s1)
set_option maxHeartbeats 4000000 in
theorem t_X5_load {o : gOm} {l : Launch} {b : Bool}   {σ : gSt} (hR : σ.2.2 = gRf b) {p0 : Int32} {Q : gSt → Prop} (h : W_X5_load p0 Q σ) : Sp o l mX5_load 4 0 0 [.ref (ad o 50), .int p0] 116 116 σ (pV (fun s => s.2.2 = gRf b ∧ Q s)) := by
  unfold W_X5_load at h
  refine Sp.of (ls0 := [some (.ref (ad o 50)), some (.int p0), none, none, none, none]) miX5_load rfl (Nat.le_of_ble_eq_true rfl) rfl (fun γ hγ hnm X Y => ?_)
  subst hγ
  have X : gX o γ cX5_load 6 RX5 := X
  refine g_aload_0 (pc := 0) X dX5_load_0 ?_
  refine g_iconst (pc := 1) X dX5_load_1 kiconst_0 ?_
  refine g_putI_w (pc := 2) X dX5_load_2 fl_X5_35 rfl (by decide) rfl rfl hR h (fun s1 hR h => ?_)
  refine g_aload_0 (pc := 5) X dX5_load_5 ?_
  refine g_aload_0 (pc := 6) X dX5_load_6 ?_
  refine g_getRf (pc := 7) X dX5_load_7 fl_X5_31 rfl (by decide) rfl hR rfl ?_
  refine g_callV_I (pc := 10) X Y dX5_load_10 miX3_roomOfHeap li_X5_39 (t_WPI hR  h) rfl (by decide) rfl ⟨_, rfl⟩ rfl ⟨Nat.le_of_ble_eq_true rfl, Nat.le_of_ble_eq_true rfl⟩ (Nat.le_of_ble_eq_true rfl) (Nat.le_of_ble_eq_true rfl) rfl (by exact Nat.le_of_ble_eq_true rfl) (fun x2 σ9 hp => ?_)
  obtain ⟨rfl, h⟩ := hp
  refine g_putI_w (pc := 13) X dX5_load_13 fl_X5_45 rfl (by decide) rfl rfl hR h (fun s3 hR h => ?_)
  refine g_iconst (pc := 16) X dX5_load_16 kiconst_0 ?_
  refine g_istore_2 (pc := 17) X dX5_load_17 (by decide) rfl ?_
  obtain ⟨n13, h⟩ := h
  have hL : ∀ (c4 : Int32) (K : gSt → Prop) (_ : ∀  (s7 : gSt), s7.2.2 = gRf b → K s7 → G o γ 0 0 116 s7 67 [some (.ref (ad o 50)), some (.int c4), none, none, none, none] []) (n : Nat) (v5 : Int32) (s6 : gSt), s6.2.2 = gRf b → L_X5_load_18 Q c4 K n v5 s6 → G o γ 0 0 116 s6 18 [some (.ref (ad o 50)), some (.int c4), some (.int v5), none, none, none] [] := by
    intro c4 K hK n
    induction n with
    | zero => intro v5 s6 hR h; exact False.elim h
    | succ n ih =>
      intro v5 s6 hR h
      rw [L_X5_load_18] at h
      refine g_iload_2 (pc := 18) X dX5_load_18 ?_
      refine g_bipush (pc := 19) X dX5_load_19 kbipush_30 ?_
      refine g_icmp_ge (pc := 21) X dX5_load_21 (tgt := 67) (by decide) (fun q8 => ?_) (fun q8 => ?_)
      · replace h := h.1 q8
        exact g_drop (by simp [lsub]) (hK s6 hR h)
      · replace h := h.2 q8
        refine g_iload_1 (pc := 24) X dX5_load_24 ?_
        refine g_iload_2 (pc := 25) X dX5_load_25 ?_
        refine g_iushr (pc := 26) X dX5_load_26 ?_
        refine g_iconst (pc := 27) X dX5_load_27 kiconst_1 ?_
        refine g_iand (pc := 28) X dX5_load_28 ?_
        refine g_if_eq (pc := 29) X dX5_load_29 (tgt := 61) (by decide) (fun q9 => ?_) (fun q9 => ?_)
        · replace h := h.1 q9
          refine g_iinc_2 (pc := 61) X dX5_load_61 (v := v5 + nI 1) rfl (by decide) rfl ?_
          refine g_goto (pc := 64) X dX5_load_64 (tgt := 18) (by decide) ?_
          exact ih (v5 + nI 1) s6 hR h
        · replace h := h.2 q9
          refine g_aload_0 (pc := 32) X dX5_load_32 ?_
          refine g_getI (pc := 33) X dX5_load_33 rfl (by decide) fl_X5_35 (Or.inl rfl) ?_
          refine g_bipush (pc := 36) X dX5_load_36 kbipush_10 ?_
          refine g_icmp_ge (pc := 38) X dX5_load_38 (tgt := 61) (by decide) (fun q10 => ?_) (fun q10 => ?_)
          · replace h := h.1 q10
            refine g_iinc_2 (pc := 61) X dX5_load_61 (v := v5 + nI 1) rfl (by decide) rfl ?_
            refine g_goto (pc := 64) X dX5_load_64 (tgt := 18) (by decide) ?_
            exact ih (v5 + nI 1) s6 hR h
          · replace h := h.2 q10
            refine g_aload_0 (pc := 41) X dX5_load_41 ?_
            refine g_getRf (pc := 42) X dX5_load_42 fl_X5_9 rfl (by decide) rfl hR rfl ?_
            refine g_aload_0 (pc := 45) X dX5_load_45 ?_
            refine g_getI (pc := 46) X dX5_load_46 rfl (by decide) fl_X5_35 (Or.inl rfl) ?_
            refine g_iload_2 (pc := 49) X dX5_load_49 ?_
            refine g_iastore_w (pc := 50) X dX5_load_50 rfl (by decide) hR h (fun s11 hR h => ?_)
            refine g_aload_0 (pc := 51) X dX5_load_51 ?_
            refine g_dup (pc := 52) X dX5_load_52 rfl ?_
            refine g_getI (pc := 53) X dX5_load_53 rfl (by decide) fl_X5_35 (Or.inl rfl) ?_
            refine g_iconst (pc := 56) X dX5_load_56 kiconst_1 ?_
            refine g_iadd (pc := 57) X dX5_load_57 ?_
            refine g_putI_w (pc := 58) X dX5_load_58 fl_X5_35 rfl (by decide) rfl rfl hR h (fun s12 hR h => ?_)
            refine g_iinc_2 (pc := 61) X dX5_load_61 (v := v5 + nI 1) rfl (by decide) rfl ?_
            refine g_goto (pc := 64) X dX5_load_64 (tgt := 18) (by decide) ?_
            exact ih (v5 + nI 1) s12 hR h
  refine hL p0 _ (fun s14 hR h => ?_) n13 (nI 0) s3 hR h
  · refine g_aload_0 (pc := 67) X dX5_load_67 ?_
    refine g_getRf (pc := 68) X dX5_load_68 fl_X5_18 rfl (by decide) rfl hR rfl ?_
    refine g_iconst (pc := 71) X dX5_load_71 kiconst_0 ?_
    refine g_callS_V (pc := 72) X Y dX5_load_72 miJ7_fill_53178 li_X5_48 (t_J7_fill_53178 hR (by decide) (by decide) h) rfl ⟨Nat.le_of_ble_eq_true rfl, Nat.le_of_ble_eq_true rfl⟩ (Nat.le_of_ble_eq_true rfl) (Nat.le_of_ble_eq_true rfl) rfl (by exact Nat.le_of_ble_eq_true rfl) (fun s15 hp => ?_)
    obtain ⟨hR, h⟩ := hp
    refine g_aload_0 (pc := 75) X dX5_load_75 ?_
    refine g_getRf (pc := 76) X dX5_load_76 fl_X5_21 rfl (by decide) rfl hR rfl ?_
    refine g_iconst (pc := 79) X dX5_load_79 kiconst_0 ?_
    refine g_callS_V (pc := 80) X Y dX5_load_80 miJ7_fill_53178 li_X5_48 (t_J7_fill_53178 hR (by decide) (by decide) h) rfl ⟨Nat.le_of_ble_eq_true rfl, Nat.le_of_ble_eq_true rfl⟩ (Nat.le_of_ble_eq_true rfl) (Nat.le_of_ble_eq_true rfl) rfl (by exact Nat.le_of_ble_eq_true rfl) (fun s16 hp => ?_)
    obtain ⟨hR, h⟩ := hp
    refine g_iconst (pc := 83) X dX5_load_83 kiconst_1 ?_
    refine g_istore_2 (pc := 84) X dX5_load_84 (by decide) rfl ?_
    obtain ⟨n40, h⟩ := h
    have hL : ∀  (K : gSt → Prop) (_ : ∀  (s19 : gSt), s19.2.2 = gRf b → K s19 → G o γ 0 0 116 s19 204 [some (.ref (ad o 50)), none, none, none, none, none] []) (n : Nat) (v17 : Int32) (s18 : gSt), s18.2.2 = gRf b → L_X5_load_85 Q K n v17 s18 → G o γ 0 0 116 s18 85 [some (.ref (ad o 50)), none, some (.int v17), none, none, none] [] := by
      intro K hK n
      induction n with
      | zero => intro v17 s18 hR h; exact False.elim h
      | succ n ih =>
        intro v17 s18 hR h
        rw [L_X5_load_85] at h
        refine g_iload_2 (pc := 85) X dX5_load_85 ?_
        refine g_aload_0 (pc := 86) X dX5_load_86 ?_
        refine g_getI (pc := 87) X dX5_load_87 rfl (by decide) fl_X5_35 (Or.inl rfl) ?_
        refine g_icmp_ge (pc := 90) X dX5_load_90 (tgt := 204) (by decide) (fun q20 => ?_) (fun q20 => ?_)
        · replace h := h.1 q20
          exact g_drop (by simp [lsub]) (hK s18 hR h)
        · replace h := h.2 q20
          refine g_aload_0 (pc := 93) X dX5_load_93 ?_
          refine g_getRf (pc := 94) X dX5_load_94 fl_X5_9 rfl (by decide) rfl hR rfl ?_
          refine g_iload_2 (pc := 97) X dX5_load_97 ?_
          refine g_iaload_w (pc := 98) X dX5_load_98 rfl (by decide) h (fun x21 h => ?_)
          refine g_istore_3 (pc := 99) X dX5_load_99 (by decide) rfl ?_
          refine g_iconst (pc := 100) X dX5_load_100 kiconst_0 ?_
          refine g_istore_4 (pc := 101) X dX5_load_101 (by decide) rfl ?_
          obtain ⟨n38, h⟩ := h
          have hL : ∀ (c22 : Int32) (c23 : Int32) (K : gSt → Prop) (_ : ∀  (s26 : gSt), s26.2.2 = gRf b → K s26 → G o γ 0 0 116 s26 198 [some (.ref (ad o 50)), none, some (.int c22), some (.int c23), none, none] []) (n : Nat) (v24 : Int32) (s25 : gSt), s25.2.2 = gRf b → L_X5_load_103 Q c22 c23 K n v24 s25 → G o γ 0 0 116 s25 103 [some (.ref (ad o 50)), none, some (.int c22), some (.int c23), some (.int v24), none] [] := by
            intro c22 c23 K hK n
            induction n with
            | zero => intro v24 s25 hR h; exact False.elim h
            | succ n ih =>
              intro v24 s25 hR h
              rw [L_X5_load_103] at h
              refine g_iload_4 (pc := 103) X dX5_load_103 ?_
              refine g_iload_2 (pc := 105) X dX5_load_105 ?_
              refine g_icmp_ge (pc := 106) X dX5_load_106 (tgt := 198) (by decide) (fun q27 => ?_) (fun q27 => ?_)
              · replace h := h.1 q27
                exact g_drop (by simp [lsub]) (hK s25 hR h)
              · replace h := h.2 q27
                refine g_aload_0 (pc := 109) X dX5_load_109 ?_
                refine g_getRf (pc := 110) X dX5_load_110 fl_X5_9 rfl (by decide) rfl hR rfl ?_
                refine g_iload_4 (pc := 113) X dX5_load_113 ?_
                refine g_iaload_w (pc := 115) X dX5_load_115 rfl (by decide) h (fun x28 h => ?_)
                refine g_istore_5 (pc := 116) X dX5_load_116 (by decide) rfl ?_
                refine g_aload_0 (pc := 118) X dX5_load_118 ?_
                refine g_getRf (pc := 119) X dX5_load_119 fl_X5_15 rfl (by decide) rfl hR rfl ?_
                refine g_iload_2 (pc := 122) X dX5_load_122 ?_
                refine g_bipush (pc := 123) X dX5_load_123 kbipush_10 ?_
                refine g_imul (pc := 125) X dX5_load_125 ?_
                refine g_iload_4 (pc := 126) X dX5_load_126 ?_
                refine g_iadd (pc := 128) X dX5_load_128 ?_
                refine g_aload_0 (pc := 129) X dX5_load_129 ?_
                refine g_getRf (pc := 130) X dX5_load_130 fl_X5_27 rfl (by decide) rfl hR rfl ?_
                refine g_iload_3 (pc := 133) X dX5_load_133 ?_
                refine g_iload_5 (pc := 134) X dX5_load_134 ?_
                refine g_callV_I (pc := 136) X Y dX5_load_136 miX4_pull li_X5_54 (t_WPI hR  h) rfl (by decide) rfl ⟨_, rfl⟩ rfl ⟨Nat.le_of_ble_eq_true rfl, Nat.le_of_ble_eq_true rfl⟩ (Nat.le_of_ble_eq_true rfl) (Nat.le_of_ble_eq_true rfl) rfl (by exact Nat.le_of_ble_eq_true rfl) (fun x29 σ9 hp => ?_)
                obtain ⟨rfl, h⟩ := hp
                refine g_iastore_w (pc := 139) X dX5_load_139 rfl (by decide) hR h (fun s30 hR h => ?_)
                refine g_aload_0 (pc := 140) X dX5_load_140 ?_
                refine g_getRf (pc := 141) X dX5_load_141 fl_X5_18 rfl (by decide) rfl hR rfl ?_
                refine g_iload_2 (pc := 144) X dX5_load_144 ?_
                refine g_iload_4 (pc := 145) X dX5_load_145 ?_
                refine g_aload_0 (pc := 147) X dX5_load_147 ?_
                refine g_getRf (pc := 148) X dX5_load_148 fl_X5_31 rfl (by decide) rfl hR rfl ?_
                refine g_iload_3 (pc := 151) X dX5_load_151 ?_
                refine g_iload_5 (pc := 152) X dX5_load_152 ?_
                refine g_callV_I (pc := 154) X Y dX5_load_154 miX3_partsThem li_X5_60 (t_WPI hR  h) rfl (by decide) rfl ⟨_, rfl⟩ rfl ⟨Nat.le_of_ble_eq_true rfl, Nat.le_of_ble_eq_true rfl⟩ (Nat.le_of_ble_eq_true rfl) (Nat.le_of_ble_eq_true rfl) rfl (by exact Nat.le_of_ble_eq_true rfl) (fun x31 σ9 hp => ?_)
                obtain ⟨rfl, h⟩ := hp
                refine g_callSN_V (pc := 157) X Y dX5_load_157 miX11_setBit li_X5_64 (t_WSV hR  h) rfl ⟨Nat.le_of_ble_eq_true rfl, Nat.le_of_ble_eq_true rfl⟩ (Nat.le_of_ble_eq_true rfl) (Nat.le_of_ble_eq_true rfl) rfl (by exact Nat.le_of_ble_eq_true rfl) (fun s32 hp => ?_)
                obtain ⟨hR, h⟩ := hp
                refine g_aload_0 (pc := 160) X dX5_load_160 ?_
                refine g_getRf (pc := 161) X dX5_load_161 fl_X5_21 rfl (by decide) rfl hR rfl ?_
                refine g_iload_2 (pc := 164) X dX5_load_164 ?_
                refine g_iload_4 (pc := 165) X dX5_load_165 ?_
                refine g_aload_0 (pc := 167) X dX5_load_167 ?_
                refine g_getRf (pc := 168) X dX5_load_168 fl_X5_31 rfl (by decide) rfl hR rfl ?_
                refine g_getRf (pc := 171) X dX5_load_171 fl_X5_68 rfl (by decide) rfl hR rfl ?_
                refine g_iload_3 (pc := 174) X dX5_load_174 ?_
                refine g_iaload_w (pc := 175) X dX5_load_175 rfl (by decide) h (fun x33 h => ?_)
                refine g_iload_5 (pc := 176) X dX5_load_176 ?_
                refine g_iushr (pc := 178) X dX5_load_178 ?_
                refine g_iconst (pc := 179) X dX5_load_179 kiconst_1 ?_
                refine g_iand (pc := 180) X dX5_load_180 ?_
                replace h := h (fun x34 => G o γ 0 0 116 s32 189 [some (.ref (ad o 50)), none, some (.int c22), some (.int c23), some (.int v24), none] [.int x34, .int v24, .int c22, .ref (ad o 54)]) (by
                    intro x34 h
                    refine g_callSN_V (pc := 189) X Y dX5_load_189 miX11_setBit li_X5_64 (t_WSV hR  h) rfl ⟨Nat.le_of_ble_eq_true rfl, Nat.le_of_ble_eq_true rfl⟩ (Nat.le_of_ble_eq_true rfl) (Nat.le_of_ble_eq_true rfl) rfl (by exact Nat.le_of_ble_eq_true rfl) (fun s36 hp => ?_)
                    obtain ⟨hR, h⟩ := hp
                    refine g_iinc_4 (pc := 192) X dX5_load_192 (v := v24 + nI 1) rfl (by decide) rfl ?_
                    refine g_goto (pc := 195) X dX5_load_195 (tgt := 103) (by decide) ?_
                    exact ih (v24 + nI 1) s36 hR h)
                refine g_if_eq (pc := 181) X dX5_load_181 (tgt := 188) (by decide) (fun q37 => ?_) (fun q37 => ?_)
                · replace h := h.1 q37
                  refine g_iconst (pc := 188) X dX5_load_188 kiconst_0 ?_
                  exact g_drop (by simp [lsub]) (h)
                · replace h := h.2 q37
                  refine g_iconst (pc := 184) X dX5_load_184 kiconst_1 ?_
                  refine g_goto (pc := 185) X dX5_load_185 (tgt := 189) (by decide) ?_
                  exact g_drop (by simp [lsub]) (h)
          refine hL v17 x21 _ (fun s39 hR h => ?_) n38 (nI 0) s18 hR h
          · refine g_iinc_2 (pc := 198) X dX5_load_198 (v := v17 + nI 1) rfl (by decide) rfl ?_
            refine g_goto (pc := 201) X dX5_load_201 (tgt := 85) (by decide) ?_
            exact g_drop (by simp [lsub]) (ih (v17 + nI 1) s39 hR h)
    refine g_drop (by simp [lsub]) (hL  _ (fun s41 hR h => ?_) n40 (nI 1) s16 hR h)
    · exact g_return (pc := 204) X Y dX5_load_204 (Nat.le_of_ble_eq_true rfl) (Nat.le_of_ble_eq_true rfl) ⟨rfl, hR, h⟩
def W_X5_pull (p0 : Int32) (p1 : Int32) (Q : Int32 → Prop) (σ : gSt) : Prop := rI σ 52 100 ((p0 * (nI 10)) + p1) (fun x1 => Q x1)
set_option maxHeartbeats 4000000 in
theorem t_X5_pull {o : gOm} {l : Launch} {b : Bool}   {σ : gSt} (hR : σ.2.2 = gRf b) {p0 : Int32} {p1 : Int32} {Q : Int32 → Prop} (h : W_X5_pull p0 p1 Q σ) : Sp o l mX5_pull 1 0 0 [.ref (ad o 50), .int p0, .int p1] 116 116 σ (pI (fun x s => σ = s ∧ Q x)) := by
  unfold W_X5_pull at h
  refine Sp.of (ls0 := [some (.ref (ad o 50)), some (.int p0), some (.int p1)]) miX5_pull rfl (Nat.le_of_ble_eq_true rfl) rfl (fun γ hγ hnm X Y => ?_)
  subst hγ
  have X : gX o γ cX5_pull 3 RX5 := X
  refine g_aload_0 (pc := 0) X dX5_pull_0 ?_
  refine g_getRf (pc := 1) X dX5_pull_1 fl_X5_15 rfl (by decide) rfl hR rfl ?_
  refine g_iload_1 (pc := 4) X dX5_pull_4 ?_
  refine g_bipush (pc := 5) X dX5_pull_5 kbipush_10 ?_
  refine g_imul (pc := 7) X dX5_pull_7 ?_
  refine g_iload_2 (pc := 8) X dX5_pull_8 ?_
  refine g_iadd (pc := 9) X dX5_pull_9 ?_
  refine g_iaload_w (pc := 10) X dX5_pull_10 rfl (by decide) h (fun x1 h => ?_)
  exact g_ireturn (pc := 11) X Y dX5_pull_11 (Nat.le_of_ble_eq_true rfl) (Nat.le_of_ble_eq_true rfl) ⟨_, rfl, rfl, h⟩
def L_X5_placeOf_2 (Q : Int32 → Prop) (c1 : Int32) (σ : gSt) (K : Prop) : Nat → Int32 → Prop
  | 0, _ => False
  | n2 + 1, v2 => (((σ.1 50 0) ≤ v2 → K) ∧ (¬ (σ.1 50 0) ≤ v2 → (rI σ 51 10 v2 (fun x4 => ((x4 = c1 → (Q v2)) ∧ (¬ x4 = c1 → (L_X5_placeOf_2 Q c1 σ K n2 (v2 + nI 1))))))))
def W_X5_placeOf (p0 : Int32) (Q : Int32 → Prop) (σ : gSt) : Prop := ∃ m2, L_X5_placeOf_2 Q p0 σ (Q ((-1 : Int32))) m2 (nI 0)
set_option maxHeartbeats 4000000 in
theorem t_X5_placeOf {o : gOm} {l : Launch} {b : Bool}   {σ : gSt} (hR : σ.2.2 = gRf b) {p0 : Int32} {Q : Int32 → Prop} (h : W_X5_placeOf p0 Q σ) : Sp o l mX5_placeOf 1 0 0 [.ref (ad o 50), .int p0] 116 116 σ (pI (fun x s => σ = s ∧ Q x)) := by
  unfold W_X5_placeOf at h
  refine Sp.of (ls0 := [some (.ref (ad o 50)), some (.int p0), none]) miX5_placeOf rfl (Nat.le_of_ble_eq_true rfl) rfl (fun γ hγ hnm X Y => ?_)
  subst hγ
  have X : gX o γ cX5_placeOf 3 RX5 := X
  refine g_iconst (pc := 0) X dX5_placeOf_0 kiconst_0 ?_
  refine g_istore_2 (pc := 1) X dX5_placeOf_1 (by decide) rfl ?_
  obtain ⟨n6, h⟩ := h
  have hL : ∀ (c1 : Int32) (K : Prop) (_ : K → G o γ 0 0 116 σ 28 [some (.ref (ad o 50)), some (.int c1), none] []) (n : Nat) (v2 : Int32), L_X5_placeOf_2 Q c1 σ K n v2 → G o γ 0 0 116 σ 2 [some (.ref (ad o 50)), some (.int c1), some (.int v2)] [] := by
    intro c1 K hK n
    induction n with
    | zero => intro v2 h; exact False.elim h
    | succ n ih =>
      intro v2 h
      rw [L_X5_placeOf_2] at h
      refine g_iload_2 (pc := 2) X dX5_placeOf_2 ?_
      refine g_aload_0 (pc := 3) X dX5_placeOf_3 ?_
      refine g_getI (pc := 4) X dX5_placeOf_4 rfl (by decide) fl_X5_35 (Or.inl rfl) ?_
      refine g_icmp_ge (pc := 7) X dX5_placeOf_7 (tgt := 28) (by decide) (fun q3 => ?_) (fun q3 => ?_)
      · replace h := h.1 q3
        exact g_drop (by simp [lsub]) (hK  h)
      · replace h := h.2 q3
        refine g_aload_0 (pc := 10) X dX5_placeOf_10 ?_
        refine g_getRf (pc := 11) X dX5_placeOf_11 fl_X5_9 rfl (by decide) rfl hR rfl ?_
        refine g_iload_2 (pc := 14) X dX5_placeOf_14 ?_
        refine g_iaload_w (pc := 15) X dX5_placeOf_15 rfl (by decide) h (fun x4 h => ?_)
        refine g_iload_1 (pc := 16) X dX5_placeOf_16 ?_
        refine g_icmp_ne (pc := 17) X dX5_placeOf_17 (tgt := 22) (by decide) (fun q5 => ?_) (fun q5 => ?_)
        · replace h := h.2 q5
          refine g_iinc_2 (pc := 22) X dX5_placeOf_22 (v := v2 + nI 1) rfl (by decide) rfl ?_
          refine g_goto (pc := 25) X dX5_placeOf_25 (tgt := 2) (by decide) ?_
          exact ih (v2 + nI 1) h
        · replace h := h.1 q5
          refine g_iload_2 (pc := 20) X dX5_placeOf_20 ?_
          exact g_ireturn (pc := 21) X Y dX5_placeOf_21 (Nat.le_of_ble_eq_true rfl) (Nat.le_of_ble_eq_true rfl) ⟨_, rfl, rfl, h⟩
  refine hL p0 _ (fun h => ?_) n6 (nI 0) h
  · refine g_iconst (pc := 28) X dX5_placeOf_28 kiconst_m1 ?_
    exact g_ireturn (pc := 29) X Y dX5_placeOf_29 (Nat.le_of_ble_eq_true rfl) (Nat.le_of_ble_eq_true rfl) ⟨_, rfl, rfl, h⟩
def W_X5_settle (p0 : Int32) (p1 : Int32) (p2 : Int32) (Q : gSt → Prop) (σ : gSt) : Prop := W_X5_placeOf p0 (fun x1 => W_X5_placeOf p1 (fun x2 => ((x1 = ((-1 : Int32)) → (Q σ)) ∧ (¬ x1 = ((-1 : Int32)) → (((x2 = ((-1 : Int32)) → (Q σ)) ∧ (¬ x2 = ((-1 : Int32)) → (((p2 = 0 → (WSV mX11_setBit 1 (fun o => [.ref (ad o 53), .int x1, .int x2, .int (nI 1)]) (fun s6 => Q s6) σ)) ∧ (¬ p2 = 0 → (WSV mX11_setBit 1 (fun o => [.ref (ad o 54), .int x1, .int x2, .int (nI 1)]) (fun s7 => Q s7) σ)))))))))) σ) σ
set_option maxHeartbeats 4000000 in
theorem t_X5_settle {o : gOm} {l : Launch} {b : Bool}   {σ : gSt} (hR : σ.2.2 = gRf b) {p0 : Int32} {p1 : Int32} {p2 : Int32} {Q : gSt → Prop} (h : W_X5_settle p0 p1 p2 Q σ) : Sp o l mX5_settle 2 0 0 [.ref (ad o 50), .int p0, .int p1, .int p2] 116 116 σ (pV (fun s => s.2.2 = gRf b ∧ Q s)) := by
  unfold W_X5_settle at h
  refine Sp.of (ls0 := [some (.ref (ad o 50)), some (.int p0), some (.int p1), some (.int p2), none, none]) miX5_settle rfl (Nat.le_of_ble_eq_true rfl) rfl (fun γ hγ hnm X Y => ?_)
  subst hγ
  have X : gX o γ cX5_settle 6 RX5 := X
  refine g_aload_0 (pc := 0) X dX5_settle_0 ?_
  refine g_iload_1 (pc := 1) X dX5_settle_1 ?_
  refine g_callV_I (pc := 2) X Y dX5_settle_2 miX5_placeOf li_X5_71 (t_X5_placeOf hR  h) rfl (by decide) rfl ⟨_, rfl⟩ rfl ⟨Nat.le_of_ble_eq_true rfl, Nat.le_of_ble_eq_true rfl⟩ (Nat.le_of_ble_eq_true rfl) (Nat.le_of_ble_eq_true rfl) rfl (by exact Nat.le_of_ble_eq_true rfl) (fun x1 σ9 hp => ?_)
  obtain ⟨rfl, h⟩ := hp
  refine g_istore_4 (pc := 5) X dX5_settle_5 (by decide) rfl ?_
  refine g_aload_0 (pc := 7) X dX5_settle_7 ?_
  refine g_iload_2 (pc := 8) X dX5_settle_8 ?_
  refine g_callV_I (pc := 9) X Y dX5_settle_9 miX5_placeOf li_X5_71 (t_X5_placeOf hR  h) rfl (by decide) rfl ⟨_, rfl⟩ rfl ⟨Nat.le_of_ble_eq_true rfl, Nat.le_of_ble_eq_true rfl⟩ (Nat.le_of_ble_eq_true rfl) (Nat.le_of_ble_eq_true rfl) rfl (by exact Nat.le_of_ble_eq_true rfl) (fun x2 σ9 hp => ?_)
  obtain ⟨rfl, h⟩ := hp
  refine g_istore_5 (pc := 12) X dX5_settle_12 (by decide) rfl ?_
  refine g_iload_4 (pc := 14) X dX5_settle_14 ?_
  refine g_iconst (pc := 16) X dX5_settle_16 kiconst_m1 ?_
  refine g_icmp_eq (pc := 17) X dX5_settle_17 (tgt := 49) (by decide) (fun q3 => ?_) (fun q3 => ?_)
  · replace h := h.1 q3
    exact g_return (pc := 49) X Y dX5_settle_49 (Nat.le_of_ble_eq_true rfl) (Nat.le_of_ble_eq_true rfl) ⟨rfl, hR, h⟩
  · replace h := h.2 q3
    refine g_iload_5 (pc := 20) X dX5_settle_20 ?_
    refine g_iconst (pc := 22) X dX5_settle_22 kiconst_m1 ?_
    refine g_icmp_eq (pc := 23) X dX5_settle_23 (tgt := 49) (by decide) (fun q4 => ?_) (fun q4 => ?_)
    · replace h := h.1 q4
      exact g_return (pc := 49) X Y dX5_settle_49 (Nat.le_of_ble_eq_true rfl) (Nat.le_of_ble_eq_true rfl) ⟨rfl, hR, h⟩
    · replace h := h.2 q4
      refine g_iload_3 (pc := 26) X dX5_settle_26 ?_
      refine g_if_eq (pc := 27) X dX5_settle_27 (tgt := 37) (by decide) (fun q5 => ?_) (fun q5 => ?_)
      · replace h := h.1 q5
        refine g_aload_0 (pc := 37) X dX5_settle_37 ?_
        refine g_getRf (pc := 38) X dX5_settle_38 fl_X5_18 rfl (by decide) rfl hR rfl ?_
        refine g_iload_4 (pc := 41) X dX5_settle_41 ?_
        refine g_iload_5 (pc := 43) X dX5_settle_43 ?_
        refine g_iconst (pc := 45) X dX5_settle_45 kiconst_1 ?_
        refine g_callSN_V (pc := 46) X Y dX5_settle_46 miX11_setBit li_X5_64 (t_WSV hR  h) rfl ⟨Nat.le_of_ble_eq_true rfl, Nat.le_of_ble_eq_true rfl⟩ (Nat.le_of_ble_eq_true rfl) (Nat.le_of_ble_eq_true rfl) rfl (by exact Nat.le_of_ble_eq_true rfl) (fun s6 hp => ?_)
        obtain ⟨hR, h⟩ := hp
        exact g_return (pc := 49) X Y dX5_settle_49 (Nat.le_of_ble_eq_true rfl) (Nat.le_of_ble_eq_true rfl) ⟨rfl, hR, h⟩
      · replace h := h.2 q5
        refine g_aload_0 (pc := 30) X dX5_settle_30 ?_
        refine g_getRf (pc := 31) X dX5_settle_31 fl_X5_21 rfl (by decide) rfl hR rfl ?_
        refine g_goto (pc := 34) X dX5_settle_34 (tgt := 41) (by decide) ?_
        refine g_iload_4 (pc := 41) X dX5_settle_41 ?_
        refine g_iload_5 (pc := 43) X dX5_settle_43 ?_
        refine g_iconst (pc := 45) X dX5_settle_45 kiconst_1 ?_
        refine g_callSN_V (pc := 46) X Y dX5_settle_46 miX11_setBit li_X5_64 (t_WSV hR  h) rfl ⟨Nat.le_of_ble_eq_true rfl, Nat.le_of_ble_eq_true rfl⟩ (Nat.le_of_ble_eq_true rfl) (Nat.le_of_ble_eq_true rfl) rfl (by exact Nat.le_of_ble_eq_true rfl) (fun s7 hp => ?_)
        obtain ⟨hR, h⟩ := hp
        exact g_return (pc := 49) X Y dX5_settle_49 (Nat.le_of_ble_eq_true rfl) (Nat.le_of_ble_eq_true rfl) ⟨rfl, hR, h⟩
def L_X5_lookAt_20 (k0 : Nat) (Q : gSt → Prop) (c6 : Int32) (K : gSt → Prop) : Nat → Int32 → gSt → Prop
  | 0, _, _ => False
  | n20 + 1, v7, s8 => ((c6 ≤ v7 → (K s8)) ∧ (¬ c6 ≤ v7 → (rI s8 51 10 c6 (fun x11 => rI s8 k0 ((lay k0).2) x11 (fun x12 => rI s8 51 10 v7 (fun x13 => rI s8 k0 ((lay k0).2) x13 (fun x14 => ∀ J16 : Int32 → Prop, (∀ x15, (WSV mX11_setBit 1 (fun o => [.ref (ad o 55), .int c6, .int v7, .int x15]) (fun s17 => L_X5_lookAt_20 k0 Q c6 K n20 (v7 + nI 1) s17) s8) → J16 x15) → ((x12 = x14 → (J16 (nI 1))) ∧ (¬ x12 = x14 → (J16 (nI 0)))))))))))
def L_X5_lookAt_10 (k0 : Nat) (Q : gSt → Prop)  (K : gSt → Prop) : Nat → Int32 → gSt → Prop
  | 0, _, _ => False
  | n10 + 1, v2, s3 => (((s3.1 50 0) ≤ v2 → (K s3)) ∧ (¬ (s3.1 50 0) ≤ v2 → (∃ m20, L_X5_lookAt_20 k0 Q v2 (fun s20 => L_X5_lookAt_10 k0 Q K n10 (v2 + nI 1) s20) m20 (nI 0) s3)))
def W_X5_lookAt (k0 : Nat) (Q : gSt → Prop) (σ : gSt) : Prop := W_J7_fill_53178 55 (nI 0) (fun s1 => ∃ m10, L_X5_lookAt_10 k0 Q (fun s22 => Q s22) m10 (nI 1) s1) σ
set_option maxHeartbeats 4000000 in
theorem t_X5_lookAt {o : gOm} {l : Launch} {b : Bool}   {σ : gSt} (hR : σ.2.2 = gRf b) {k0 : Nat} {Q : gSt → Prop} (hk0 : k0 < 116) (hk00 : (lay k0).1 = 0) (h : W_X5_lookAt k0 Q σ) : Sp o l mX5_lookAt 2 0 0 [.ref (ad o 50), .ref (ad o k0)] 116 116 σ (pV (fun s => s.2.2 = gRf b ∧ Q s)) := by
  have hk0y : lay k0 = (0, (lay k0).2) := Prod.ext hk00 rfl
  unfold W_X5_lookAt at h
  refine Sp.of (ls0 := [some (.ref (ad o 50)), some (.ref (ad o k0)), none, none]) miX5_lookAt rfl (Nat.le_of_ble_eq_true rfl) rfl (fun γ hγ hnm X Y => ?_)
  subst hγ
  have X : gX o γ cX5_lookAt 4 RX5 := X
  refine g_aload_0 (pc := 0) X dX5_lookAt_0 ?_
  refine g_getRf (pc := 1) X dX5_lookAt_1 fl_X5_24 rfl (by decide) rfl hR rfl ?_
  refine g_iconst (pc := 4) X dX5_lookAt_4 kiconst_0 ?_
  refine g_callS_V (pc := 5) X Y dX5_lookAt_5 miJ7_fill_53178 li_X5_48 (t_J7_fill_53178 hR (by decide) (by decide) h) rfl ⟨Nat.le_of_ble_eq_true rfl, Nat.le_of_ble_eq_true rfl⟩ (Nat.le_of_ble_eq_true rfl) (Nat.le_of_ble_eq_true rfl) rfl (by exact Nat.le_of_ble_eq_true rfl) (fun s1 hp => ?_)
  obtain ⟨hR, h⟩ := hp
  refine g_iconst (pc := 8) X dX5_lookAt_8 kiconst_1 ?_
  refine g_istore_2 (pc := 9) X dX5_lookAt_9 (by decide) rfl ?_
  obtain ⟨n21, h⟩ := h
  have hL : ∀  (K : gSt → Prop) (_ : ∀  (s4 : gSt), s4.2.2 = gRf b → K s4 → G o γ 0 0 116 s4 70 [some (.ref (ad o 50)), some (.ref (ad o k0)), none, none] []) (n : Nat) (v2 : Int32) (s3 : gSt), s3.2.2 = gRf b → L_X5_lookAt_10 k0 Q K n v2 s3 → G o γ 0 0 116 s3 10 [some (.ref (ad o 50)), some (.ref (ad o k0)), some (.int v2), none] [] := by
    intro K hK n
    induction n with
    | zero => intro v2 s3 hR h; exact False.elim h
    | succ n ih =>
      intro v2 s3 hR h
      rw [L_X5_lookAt_10] at h
      refine g_iload_2 (pc := 10) X dX5_lookAt_10 ?_
      refine g_aload_0 (pc := 11) X dX5_lookAt_11 ?_
      refine g_getI (pc := 12) X dX5_lookAt_12 rfl (by decide) fl_X5_35 (Or.inl rfl) ?_
      refine g_icmp_ge (pc := 15) X dX5_lookAt_15 (tgt := 70) (by decide) (fun q5 => ?_) (fun q5 => ?_)
      · replace h := h.1 q5
        exact g_drop (by simp [lsub]) (hK s3 hR h)
      · replace h := h.2 q5
        refine g_iconst (pc := 18) X dX5_lookAt_18 kiconst_0 ?_
        refine g_istore_3 (pc := 19) X dX5_lookAt_19 (by decide) rfl ?_
        obtain ⟨n19, h⟩ := h
        have hL : ∀ (c6 : Int32) (K : gSt → Prop) (_ : ∀  (s9 : gSt), s9.2.2 = gRf b → K s9 → G o γ 0 0 116 s9 64 [some (.ref (ad o 50)), some (.ref (ad o k0)), some (.int c6), none] []) (n : Nat) (v7 : Int32) (s8 : gSt), s8.2.2 = gRf b → L_X5_lookAt_20 k0 Q c6 K n v7 s8 → G o γ 0 0 116 s8 20 [some (.ref (ad o 50)), some (.ref (ad o k0)), some (.int c6), some (.int v7)] [] := by
          intro c6 K hK n
          induction n with
          | zero => intro v7 s8 hR h; exact False.elim h
          | succ n ih =>
            intro v7 s8 hR h
            rw [L_X5_lookAt_20] at h
            refine g_iload_3 (pc := 20) X dX5_lookAt_20 ?_
            refine g_iload_2 (pc := 21) X dX5_lookAt_21 ?_
            refine g_icmp_ge (pc := 22) X dX5_lookAt_22 (tgt := 64) (by decide) (fun q10 => ?_) (fun q10 => ?_)
            · replace h := h.1 q10
              exact g_drop (by simp [lsub]) (hK s8 hR h)
            · replace h := h.2 q10
              refine g_aload_0 (pc := 25) X dX5_lookAt_25 ?_
              refine g_getRf (pc := 26) X dX5_lookAt_26 fl_X5_24 rfl (by decide) rfl hR rfl ?_
              refine g_iload_2 (pc := 29) X dX5_lookAt_29 ?_
              refine g_iload_3 (pc := 30) X dX5_lookAt_30 ?_
              refine g_aload_1 (pc := 31) X dX5_lookAt_31 ?_
              refine g_aload_0 (pc := 32) X dX5_lookAt_32 ?_
              refine g_getRf (pc := 33) X dX5_lookAt_33 fl_X5_9 rfl (by decide) rfl hR rfl ?_
              refine g_iload_2 (pc := 36) X dX5_lookAt_36 ?_
              refine g_iaload_w (pc := 37) X dX5_lookAt_37 rfl (by decide) h (fun x11 h => ?_)
              refine g_iaload_w (pc := 38) X dX5_lookAt_38 hk0y hk0 h (fun x12 h => ?_)
              refine g_aload_1 (pc := 39) X dX5_lookAt_39 ?_
              refine g_aload_0 (pc := 40) X dX5_lookAt_40 ?_
              refine g_getRf (pc := 41) X dX5_lookAt_41 fl_X5_9 rfl (by decide) rfl hR rfl ?_
              refine g_iload_3 (pc := 44) X dX5_lookAt_44 ?_
              refine g_iaload_w (pc := 45) X dX5_lookAt_45 rfl (by decide) h (fun x13 h => ?_)
              refine g_iaload_w (pc := 46) X dX5_lookAt_46 hk0y hk0 h (fun x14 h => ?_)
              replace h := h (fun x15 => G o γ 0 0 116 s8 55 [some (.ref (ad o 50)), some (.ref (ad o k0)), some (.int c6), some (.int v7)] [.int x15, .int v7, .int c6, .ref (ad o 55)]) (by
                  intro x15 h
                  refine g_callSN_V (pc := 55) X Y dX5_lookAt_55 miX11_setBit li_X5_64 (t_WSV hR  h) rfl ⟨Nat.le_of_ble_eq_true rfl, Nat.le_of_ble_eq_true rfl⟩ (Nat.le_of_ble_eq_true rfl) (Nat.le_of_ble_eq_true rfl) rfl (by exact Nat.le_of_ble_eq_true rfl) (fun s17 hp => ?_)
                  obtain ⟨hR, h⟩ := hp
                  refine g_iinc_3 (pc := 58) X dX5_lookAt_58 (v := v7 + nI 1) rfl (by decide) rfl ?_
                  refine g_goto (pc := 61) X dX5_lookAt_61 (tgt := 20) (by decide) ?_
                  exact ih (v7 + nI 1) s17 hR h)
              refine g_icmp_ne (pc := 47) X dX5_lookAt_47 (tgt := 54) (by decide) (fun q18 => ?_) (fun q18 => ?_)
              · replace h := h.2 q18
                refine g_iconst (pc := 54) X dX5_lookAt_54 kiconst_0 ?_
                exact h
              · replace h := h.1 q18
                refine g_iconst (pc := 50) X dX5_lookAt_50 kiconst_1 ?_
                refine g_goto (pc := 51) X dX5_lookAt_51 (tgt := 55) (by decide) ?_
                exact h
        refine hL v2 _ (fun s20 hR h => ?_) n19 (nI 0) s3 hR h
        · refine g_iinc_2 (pc := 64) X dX5_lookAt_64 (v := v2 + nI 1) rfl (by decide) rfl ?_
          refine g_goto (pc := 67) X dX5_lookAt_67 (tgt := 10) (by decide) ?_
          exact ih (v2 + nI 1) s20 hR h
  refine hL  _ (fun s22 hR h => ?_) n21 (nI 1) s1 hR h
  · exact g_return (pc := 70) X Y dX5_lookAt_70 (Nat.le_of_ble_eq_true rfl) (Nat.le_of_ble_eq_true rfl) ⟨rfl, hR, h⟩
def L_X5_amounts_15 (Q : Int64 → Prop) (c5 : Int32) (σ : gSt) (K : Int64 → Prop) : Nat → Int64 → Int32 → Prop
  | 0, _, _ => False
  | n15 + 1, v6, v7 => ((c5 ≤ v7 → (K v6)) ∧ (¬ c5 ≤ v7 → (W_X5_pull c5 v7 (fun x10 => L_X5_amounts_15 Q c5 σ K n15 (v6 + (i2l (absI x10))) (v7 + nI 1)) σ)))
def L_X5_amounts_4 (Q : Int64 → Prop)  (σ : gSt) (K : Int64 → Prop) : Nat → Int64 → Int32 → Prop
  | 0, _, _ => False
  | n4 + 1, v1, v2 => (((σ.1 50 0) ≤ v2 → (K v1)) ∧ (¬ (σ.1 50 0) ≤ v2 → (∃ m15, L_X5_amounts_15 Q v2 σ (fun y12 => L_X5_amounts_4 Q σ K n4 y12 (v2 + nI 1)) m15 v1 (nI 0))))
def W_X5_amounts  (Q : Int64 → Prop) (σ : gSt) : Prop := ∃ m4, L_X5_amounts_4 Q σ (fun y14 => Q y14) m4 (lN 0) (nI 1)
set_option maxHeartbeats 4000000 in
theorem t_X5_amounts {o : gOm} {l : Launch} {b : Bool}   {σ : gSt} (hR : σ.2.2 = gRf b)  {Q : Int64 → Prop} (h : W_X5_amounts  Q σ) : Sp o l mX5_amounts 2 0 0 [.ref (ad o 50)] 116 116 σ (pL (fun x s => σ = s ∧ Q x)) := by
  unfold W_X5_amounts at h
  refine Sp.of (ls0 := [some (.ref (ad o 50)), none, none, none, none]) miX5_amounts rfl (Nat.le_of_ble_eq_true rfl) rfl (fun γ hγ hnm X Y => ?_)
  subst hγ
  have X : gX o γ cX5_amounts 5 RX5 := X
  refine g_lconst (pc := 0) X dX5_amounts_0 (v := lN 0) rfl ?_
  refine g_lstore_1 (pc := 1) X dX5_amounts_1 (by decide) rfl ?_
  refine g_iconst (pc := 2) X dX5_amounts_2 kiconst_1 ?_
  refine g_istore_3 (pc := 3) X dX5_amounts_3 (by decide) rfl ?_
  obtain ⟨n13, h⟩ := h
  have hL : ∀  (K : Int64 → Prop) (_ : ∀ (y3 : Int64), K y3 → G o γ 0 0 116 σ 47 [some (.ref (ad o 50)), some (.long y3), none, none, none] []) (n : Nat) (v1 : Int64) (v2 : Int32), L_X5_amounts_4 Q σ K n v1 v2 → G o γ 0 0 116 σ 4 [some (.ref (ad o 50)), some (.long v1), none, some (.int v2), none] [] := by
    intro K hK n
    induction n with
    | zero => intro v1 v2 h; exact False.elim h
    | succ n ih =>
      intro v1 v2 h
      rw [L_X5_amounts_4] at h
      refine g_iload_3 (pc := 4) X dX5_amounts_4 ?_
      refine g_aload_0 (pc := 5) X dX5_amounts_5 ?_
      refine g_getI (pc := 6) X dX5_amounts_6 rfl (by decide) fl_X5_35 (Or.inl rfl) ?_
      refine g_icmp_ge (pc := 9) X dX5_amounts_9 (tgt := 47) (by decide) (fun q4 => ?_) (fun q4 => ?_)
      · replace h := h.1 q4
        exact g_drop (by simp [lsub]) (hK v1 h)
      · replace h := h.2 q4
        refine g_iconst (pc := 12) X dX5_amounts_12 kiconst_0 ?_
        refine g_istore_4 (pc := 13) X dX5_amounts_13 (by decide) rfl ?_
        obtain ⟨n11, h⟩ := h
        have hL : ∀ (c5 : Int32) (K : Int64 → Prop) (_ : ∀ (y8 : Int64), K y8 → G o γ 0 0 116 σ 41 [some (.ref (ad o 50)), some (.long y8), none, some (.int c5), none] []) (n : Nat) (v6 : Int64) (v7 : Int32), L_X5_amounts_15 Q c5 σ K n v6 v7 → G o γ 0 0 116 σ 15 [some (.ref (ad o 50)), some (.long v6), none, some (.int c5), some (.int v7)] [] := by
          intro c5 K hK n
          induction n with
          | zero => intro v6 v7 h; exact False.elim h
          | succ n ih =>
            intro v6 v7 h
            rw [L_X5_amounts_15] at h
            refine g_iload_4 (pc := 15) X dX5_amounts_15 ?_
            refine g_iload_3 (pc := 17) X dX5_amounts_17 ?_
            refine g_icmp_ge (pc := 18) X dX5_amounts_18 (tgt := 41) (by decide) (fun q9 => ?_) (fun q9 => ?_)
            · replace h := h.1 q9
              exact g_drop (by simp [lsub]) (hK v6 h)
            · replace h := h.2 q9
              refine g_lload_1 (pc := 21) X dX5_amounts_21 ?_
              refine g_aload_0 (pc := 22) X dX5_amounts_22 ?_
              refine g_iload_3 (pc := 23) X dX5_amounts_23 ?_
              refine g_iload_4 (pc := 24) X dX5_amounts_24 ?_
              refine g_callV_I (pc := 26) X Y dX5_amounts_26 miX5_pull li_X5_75 (t_X5_pull hR  h) rfl (by decide) rfl ⟨_, rfl⟩ rfl ⟨Nat.le_of_ble_eq_true rfl, Nat.le_of_ble_eq_true rfl⟩ (Nat.le_of_ble_eq_true rfl) (Nat.le_of_ble_eq_true rfl) rfl (by exact Nat.le_of_ble_eq_true rfl) (fun x10 σ9 hp => ?_)
              obtain ⟨rfl, h⟩ := hp
              refine g_mabs_w (pc := 29) X Y dX5_amounts_29 li_X5_76 (by decide) (Nat.le_refl _) (Nat.le_refl _) (by exact Nat.le_of_ble_eq_true rfl) ?_
              refine g_i2l (pc := 32) X dX5_amounts_32 ?_
              refine g_ladd (pc := 33) X dX5_amounts_33 ?_
              refine g_lstore_1 (pc := 34) X dX5_amounts_34 (by decide) rfl ?_
              refine g_iinc_4 (pc := 35) X dX5_amounts_35 (v := v7 + nI 1) rfl (by decide) rfl ?_
              refine g_goto (pc := 38) X dX5_amounts_38 (tgt := 15) (by decide) ?_
              exact ih (v6 + (i2l (absI x10))) (v7 + nI 1) h
        refine hL v2 _ (fun y12 h => ?_) n11 v1 (nI 0) h
        · refine g_iinc_3 (pc := 41) X dX5_amounts_41 (v := v2 + nI 1) rfl (by decide) rfl ?_
          refine g_goto (pc := 44) X dX5_amounts_44 (tgt := 4) (by decide) ?_
          exact ih y12 (v2 + nI 1) h
  refine hL  _ (fun y14 h => ?_) n13 (lN 0) (nI 1) h
  · refine g_lload_1 (pc := 47) X dX5_amounts_47 ?_
    exact g_lreturn (pc := 48) X Y dX5_amounts_48 (Nat.le_of_ble_eq_true rfl) (Nat.le_of_ble_eq_true rfl) ⟨_, rfl, rfl, h⟩
def W_X10_record (p0 : Int32) (p1 : Int32) (p2 : Int64) (Q : gSt → Prop) (σ : gSt) : Prop := (((σ.1 56 13) = 0 → (fI σ 56 0 p0 (fun s17 => fI s17 56 12 (p0 - (nI 1)) (fun s18 => Q s18)))) ∧ (¬ (σ.1 56 13) = 0 → (∀ J3 : gSt → Prop, (∀ s2, ((((s2.1 56 13) = (nI 2) → (fI s2 56 2 p1 (fun s12 => Q s12))) ∧ (¬ (s2.1 56 13) = (nI 2) → (fL s2 56 14 ((s2.2.1 56 14) &&& p2) (fun s5 => fL s5 56 15 ((s5.2.1 56 15) ||| p2) (fun s6 => ∀ J8 : gSt → Prop, (∀ s7, (fI s7 56 1 ((s7.1 56 1) + (nI 1)) (fun s9 => Q s9)) → J8 s7) → (((nI 200) ≤ (s6.1 56 1) → (J8 s6)) ∧ (¬ (nI 200) ≤ (s6.1 56 1) → (wL s6 62 200 (s6.1 56 1) p2 (fun s11 => J8 s11)))))))))) → J3 s2) → ∀ J13 : Prop, ((cpy σ 60 10 61 10 (nI 0) (nI 0) (nI 10) (fun s14 => J3 s14)) → J13) → (((σ.1 56 13) = (nI 2) → J13) ∧ (¬ (σ.1 56 13) = (nI 2) → ((((σ.1 56 1) = 0 → J13) ∧ (¬ (σ.1 56 1) = 0 → (J3 σ)))))))))
set_option maxHeartbeats 4000000 in
theorem t_X10_record {o : gOm} {l : Launch} {b : Bool}   {σ : gSt} (hR : σ.2.2 = gRf b) {p0 : Int32} {p1 : Int32} {p2 : Int64} {Q : gSt → Prop} (h : W_X10_record p0 p1 p2 Q σ) : Sp o l mX10_record 2 0 0 [.ref (ad o 56), .int p0, .int p1, .long p2] 116 116 σ (pV (fun s => s.2.2 = gRf b ∧ Q s)) := by
  unfold W_X10_record at h
  refine Sp.of (ls0 := [some (.ref (ad o 56)), some (.int p0), some (.int p1), some (.long p2), none]) miX10_record rfl (Nat.le_of_ble_eq_true rfl) rfl (fun γ hγ hnm X Y => ?_)
  subst hγ
  have X : gX o γ cX10_record 5 RX10 := X
  refine g_aload_0 (pc := 0) X dX10_record_0 ?_
  refine g_getI (pc := 1) X dX10_record_1 rfl (by decide) fl_X10_35 (Or.inl rfl) ?_
  refine g_if_ne (pc := 4) X dX10_record_4 (tgt := 20) (by decide) (fun q1 => ?_) (fun q1 => ?_)
  · replace h := h.2 q1
    refine g_aload_0 (pc := 20) X dX10_record_20 ?_
    refine g_getI (pc := 21) X dX10_record_21 rfl (by decide) fl_X10_35 (Or.inl rfl) ?_
    refine g_iconst (pc := 24) X dX10_record_24 kiconst_2 ?_
    replace h := h (fun s2 => s2.2.2 = gRf b → G o γ 0 0 116 s2 50 [some (.ref (ad o 56)), none, some (.int p1), some (.long p2), none] []) (by
        intro s2 h hR
        refine g_aload_0 (pc := 50) X dX10_record_50 ?_
        refine g_getI (pc := 51) X dX10_record_51 rfl (by decide) fl_X10_35 (Or.inl rfl) ?_
        refine g_iconst (pc := 54) X dX10_record_54 kiconst_2 ?_
        refine g_icmp_ne (pc := 55) X dX10_record_55 (tgt := 64) (by decide) (fun q4 => ?_) (fun q4 => ?_)
        · replace h := h.2 q4
          refine g_aload_0 (pc := 64) X dX10_record_64 ?_
          refine g_dup (pc := 65) X dX10_record_65 rfl ?_
          refine g_getL (pc := 66) X dX10_record_66 rfl (by decide) fl_X10_66 rfl ?_
          refine g_lload_3 (pc := 69) X dX10_record_69 ?_
          refine g_land (pc := 70) X dX10_record_70 ?_
          refine g_putL_w (pc := 71) X dX10_record_71 fl_X10_66 rfl (by decide) rfl rfl hR h (fun s5 hR h => ?_)
          refine g_aload_0 (pc := 74) X dX10_record_74 ?_
          refine g_dup (pc := 75) X dX10_record_75 rfl ?_
          refine g_getL (pc := 76) X dX10_record_76 rfl (by decide) fl_X10_70 rfl ?_
          refine g_lload_3 (pc := 79) X dX10_record_79 ?_
          refine g_lor (pc := 80) X dX10_record_80 ?_
          refine g_putL_w (pc := 81) X dX10_record_81 fl_X10_70 rfl (by decide) rfl rfl hR h (fun s6 hR h => ?_)
          refine g_aload_0 (pc := 84) X dX10_record_84 ?_
          refine g_getI (pc := 85) X dX10_record_85 rfl (by decide) fl_X10_61 (Or.inl rfl) ?_
          refine g_sipush (pc := 88) X dX10_record_88 ksipush_200 ?_
          replace h := h (fun s7 => s7.2.2 = gRf b → G o γ 0 0 116 s7 104 [some (.ref (ad o 56)), none, none, none, none] []) (by
              intro s7 h hR
              refine g_aload_0 (pc := 104) X dX10_record_104 ?_
              refine g_dup (pc := 105) X dX10_record_105 rfl ?_
              refine g_getI (pc := 106) X dX10_record_106 rfl (by decide) fl_X10_61 (Or.inl rfl) ?_
              refine g_iconst (pc := 109) X dX10_record_109 kiconst_1 ?_
              refine g_iadd (pc := 110) X dX10_record_110 ?_
              refine g_putI_w (pc := 111) X dX10_record_111 fl_X10_61 rfl (by decide) rfl rfl hR h (fun s9 hR h => ?_)
              exact g_return (pc := 114) X Y dX10_record_114 (Nat.le_of_ble_eq_true rfl) (Nat.le_of_ble_eq_true rfl) ⟨rfl, hR, h⟩)
          refine g_icmp_ge (pc := 91) X dX10_record_91 (tgt := 104) (by decide) (fun q10 => ?_) (fun q10 => ?_)
          · replace h := h.1 q10
            exact g_drop (by simp [lsub]) (h hR)
          · replace h := h.2 q10
            refine g_aload_0 (pc := 94) X dX10_record_94 ?_
            refine g_getRf (pc := 95) X dX10_record_95 fl_X10_27 rfl (by decide) rfl hR rfl ?_
            refine g_aload_0 (pc := 98) X dX10_record_98 ?_
            refine g_getI (pc := 99) X dX10_record_99 rfl (by decide) fl_X10_61 (Or.inl rfl) ?_
            refine g_lload_3 (pc := 102) X dX10_record_102 ?_
            refine g_lastore_w (pc := 103) X dX10_record_103 rfl (by decide) hR h (fun s11 hR h => ?_)
            exact g_drop (by simp [lsub]) (h hR)
        · replace h := h.1 q4
          refine g_aload_0 (pc := 58) X dX10_record_58 ?_
          refine g_iload_2 (pc := 59) X dX10_record_59 ?_
          refine g_putI_w (pc := 60) X dX10_record_60 fl_X10_40 rfl (by decide) rfl rfl hR h (fun s12 hR h => ?_)
          exact g_return (pc := 63) X Y dX10_record_63 (Nat.le_of_ble_eq_true rfl) (Nat.le_of_ble_eq_true rfl) ⟨rfl, hR, h⟩)
    replace h := h (G o γ 0 0 116 σ 35 [some (.ref (ad o 56)), none, some (.int p1), some (.long p2), none] []) (by
        intro  h
        refine g_aload_0 (pc := 35) X dX10_record_35 ?_
        refine g_getRf (pc := 36) X dX10_record_36 fl_X10_21 rfl (by decide) rfl hR rfl ?_
        refine g_iconst (pc := 39) X dX10_record_39 kiconst_0 ?_
        refine g_aload_0 (pc := 40) X dX10_record_40 ?_
        refine g_getRf (pc := 41) X dX10_record_41 fl_X10_24 rfl (by decide) rfl hR rfl ?_
        refine g_iconst (pc := 44) X dX10_record_44 kiconst_0 ?_
        refine g_bipush (pc := 45) X dX10_record_45 kbipush_10 ?_
        refine g_copy_w (pc := 47) X Y dX10_record_47 cl_X10_117 (by decide) rfl rfl (by decide) (by decide) (Nat.le_of_ble_eq_true rfl) hR h (fun s14 hR h => ?_)
        exact h hR)
    refine g_icmp_eq (pc := 25) X dX10_record_25 (tgt := 35) (by decide) (fun q15 => ?_) (fun q15 => ?_)
    · replace h := h.1 q15
      exact g_drop (by simp [lsub]) (h)
    · replace h := h.2 q15
      refine g_aload_0 (pc := 28) X dX10_record_28 ?_
      refine g_getI (pc := 29) X dX10_record_29 rfl (by decide) fl_X10_61 (Or.inl rfl) ?_
      refine g_if_ne (pc := 32) X dX10_record_32 (tgt := 50) (by decide) (fun q16 => ?_) (fun q16 => ?_)
      · replace h := h.2 q16
        exact g_drop (by simp [lsub]) (h hR)
      · replace h := h.1 q16
        exact g_drop (by simp [lsub]) (h)
  · replace h := h.1 q1
    refine g_aload_0 (pc := 7) X dX10_record_7 ?_
    refine g_iload_1 (pc := 8) X dX10_record_8 ?_
    refine g_putI_w (pc := 9) X dX10_record_9 fl_X10_43 rfl (by decide) rfl rfl hR h (fun s17 hR h => ?_)
    refine g_aload_0 (pc := 12) X dX10_record_12 ?_
    refine g_iload_1 (pc := 13) X dX10_record_13 ?_
    refine g_iconst (pc := 14) X dX10_record_14 kiconst_1 ?_
    refine g_isub (pc := 15) X dX10_record_15 ?_
    refine g_putI_w (pc := 16) X dX10_record_16 fl_X10_51 rfl (by decide) rfl rfl hR h (fun s18 hR h => ?_)
    exact g_return (pc := 19) X Y dX10_record_19 (Nat.le_of_ble_eq_true rfl) (Nat.le_of_ble_eq_true rfl) ⟨rfl, hR, h⟩
def L_X10_drawn_7 (Q : Int32 → Prop) (c1 : Int32) (σ : gSt) (K : Int32 → Prop) : Nat → Int32 → Int32 → Prop
  | 0, _, _ => False
  | n7 + 1, v2, v3 => ((c1 ≤ v3 → (K v2)) ∧ (¬ c1 ≤ v3 → (W_X5_pull c1 v3 (fun x6 => L_X10_drawn_7 Q c1 σ K n7 (v2 + (mxI (nI 0) x6)) (v3 + nI 1)) σ)))
def W_X10_drawn (p0 : Int32) (Q : Int32 → Prop) (σ : gSt) : Prop := ∃ m7, L_X10_drawn_7 Q p0 σ (fun y8 => Q y8) m7 (nI 0) (σ.1 56 11)
set_option maxHeartbeats 4000000 in
theorem t_X10_drawn {o : gOm} {l : Launch} {b : Bool}   {σ : gSt} (hR : σ.2.2 = gRf b) {p0 : Int32} {Q : Int32 → Prop} (h : W_X10_drawn p0 Q σ) : Sp o l mX10_drawn 2 0 0 [.ref (ad o 56), .int p0] 116 116 σ (pI (fun x s => σ = s ∧ Q x)) := by
  unfold W_X10_drawn at h
  refine Sp.of (ls0 := [some (.ref (ad o 56)), some (.int p0), none, none]) miX10_drawn rfl (Nat.le_of_ble_eq_true rfl) rfl (fun γ hγ hnm X Y => ?_)
  subst hγ
  have X : gX o γ cX10_drawn 4 RX10 := X
  refine g_iconst (pc := 0) X dX10_drawn_0 kiconst_0 ?_
  refine g_istore_2 (pc := 1) X dX10_drawn_1 (by decide) rfl ?_
  refine g_aload_0 (pc := 2) X dX10_drawn_2 ?_
  refine g_getI (pc := 3) X dX10_drawn_3 rfl (by decide) fl_X10_54 (Or.inl rfl) ?_
  refine g_istore_3 (pc := 6) X dX10_drawn_6 (by decide) rfl ?_
  obtain ⟨n7, h⟩ := h
  have hL : ∀ (c1 : Int32) (K : Int32 → Prop) (_ : ∀ (y4 : Int32), K y4 → G o γ 0 0 116 σ 34 [some (.ref (ad o 56)), some (.int c1), some (.int y4), none] []) (n : Nat) (v2 : Int32) (v3 : Int32), L_X10_drawn_7 Q c1 σ K n v2 v3 → G o γ 0 0 116 σ 7 [some (.ref (ad o 56)), some (.int c1), some (.int v2), some (.int v3)] [] := by
    intro c1 K hK n
    induction n with
    | zero => intro v2 v3 h; exact False.elim h
    | succ n ih =>
      intro v2 v3 h
      rw [L_X10_drawn_7] at h
      refine g_iload_3 (pc := 7) X dX10_drawn_7 ?_
      refine g_iload_1 (pc := 8) X dX10_drawn_8 ?_
      refine g_icmp_ge (pc := 9) X dX10_drawn_9 (tgt := 34) (by decide) (fun q5 => ?_) (fun q5 => ?_)
      · replace h := h.1 q5
        exact g_drop (by simp [lsub]) (hK v2 h)
      · replace h := h.2 q5
        refine g_iload_2 (pc := 12) X dX10_drawn_12 ?_
        refine g_iconst (pc := 13) X dX10_drawn_13 kiconst_0 ?_
        refine g_aload_0 (pc := 14) X dX10_drawn_14 ?_
        refine g_getRf (pc := 15) X dX10_drawn_15 fl_X10_31 rfl (by decide) rfl hR rfl ?_
        refine g_iload_1 (pc := 18) X dX10_drawn_18 ?_
        refine g_iload_3 (pc := 19) X dX10_drawn_19 ?_
        refine g_callV_I (pc := 20) X Y dX10_drawn_20 miX5_pull li_X10_109 (t_X5_pull hR  h) rfl (by decide) rfl ⟨_, rfl⟩ rfl ⟨Nat.le_of_ble_eq_true rfl, Nat.le_of_ble_eq_true rfl⟩ (Nat.le_of_ble_eq_true rfl) (Nat.le_of_ble_eq_true rfl) rfl (by exact Nat.le_of_ble_eq_true rfl) (fun x6 σ9 hp => ?_)
        obtain ⟨rfl, h⟩ := hp
        refine g_mmax_w (pc := 23) X Y dX10_drawn_23 li_X10_112 (by decide) (Nat.le_refl _) (Nat.le_refl _) (by exact Nat.le_of_ble_eq_true rfl) ?_
        refine g_iadd (pc := 26) X dX10_drawn_26 ?_
        refine g_istore_2 (pc := 27) X dX10_drawn_27 (by decide) rfl ?_
        refine g_iinc_3 (pc := 28) X dX10_drawn_28 (v := v3 + nI 1) rfl (by decide) rfl ?_
        refine g_goto (pc := 31) X dX10_drawn_31 (tgt := 7) (by decide) ?_
        exact ih (v2 + (mxI (nI 0) x6)) (v3 + nI 1) h
  refine hL p0 _ (fun y8 h => ?_) n7 (nI 0) (σ.1 56 11) h
  · refine g_iload_2 (pc := 34) X dX10_drawn_34 ?_
    exact g_ireturn (pc := 35) X Y dX10_drawn_35 (Nat.le_of_ble_eq_true rfl) (Nat.le_of_ble_eq_true rfl) ⟨_, rfl, rfl, h⟩
def L_X10_pullTo_8 (Q : Int32 → Prop) (c1 : Int32) (c2 : Int32) (σ : gSt) (K : Int32 → Prop) : Nat → Int32 → Int32 → Prop
  | 0, _, _ => False
  | n8 + 1, v3, v4 => ((c1 ≤ v4 → (K v3)) ∧ (¬ c1 ≤ v4 → (((((ushr c2 v4) &&& (nI 1)) = 0 → (L_X10_pullTo_8 Q c1 c2 σ K n8 v3 (v4 + nI 1))) ∧ (¬ ((ushr c2 v4) &&& (nI 1)) = 0 → (W_X5_pull c1 v4 (fun x8 => L_X10_pullTo_8 Q c1 c2 σ K n8 (v3 + x8) (v4 + nI 1)) σ))))))
def W_X10_pullTo (p0 : Int32) (p1 : Int32) (Q : Int32 → Prop) (σ : gSt) : Prop := ∃ m8, L_X10_pullTo_8 Q p0 p1 σ (fun y10 => Q y10) m8 (nI 0) (σ.1 56 11)
set_option maxHeartbeats 4000000 in
theorem t_X10_pullTo {o : gOm} {l : Launch} {b : Bool}   {σ : gSt} (hR : σ.2.2 = gRf b) {p0 : Int32} {p1 : Int32} {Q : Int32 → Prop} (h : W_X10_pullTo p0 p1 Q σ) : Sp o l mX10_pullTo 2 0 0 [.ref (ad o 56), .int p0, .int p1] 116 116 σ (pI (fun x s => σ = s ∧ Q x)) := by
  unfold W_X10_pullTo at h
  refine Sp.of (ls0 := [some (.ref (ad o 56)), some (.int p0), some (.int p1), none, none]) miX10_pullTo rfl (Nat.le_of_ble_eq_true rfl) rfl (fun γ hγ hnm X Y => ?_)
  subst hγ
  have X : gX o γ cX10_pullTo 5 RX10 := X
  refine g_iconst (pc := 0) X dX10_pullTo_0 kiconst_0 ?_
  refine g_istore_3 (pc := 1) X dX10_pullTo_1 (by decide) rfl ?_
  refine g_aload_0 (pc := 2) X dX10_pullTo_2 ?_
  refine g_getI (pc := 3) X dX10_pullTo_3 rfl (by decide) fl_X10_54 (Or.inl rfl) ?_
  refine g_istore_4 (pc := 6) X dX10_pullTo_6 (by decide) rfl ?_
  obtain ⟨n9, h⟩ := h
  have hL : ∀ (c1 : Int32) (c2 : Int32) (K : Int32 → Prop) (_ : ∀ (y5 : Int32), K y5 → G o γ 0 0 116 σ 42 [some (.ref (ad o 56)), some (.int c1), some (.int c2), some (.int y5), none] []) (n : Nat) (v3 : Int32) (v4 : Int32), L_X10_pullTo_8 Q c1 c2 σ K n v3 v4 → G o γ 0 0 116 σ 8 [some (.ref (ad o 56)), some (.int c1), some (.int c2), some (.int v3), some (.int v4)] [] := by
    intro c1 c2 K hK n
    induction n with
    | zero => intro v3 v4 h; exact False.elim h
    | succ n ih =>
      intro v3 v4 h
      rw [L_X10_pullTo_8] at h
      refine g_iload_4 (pc := 8) X dX10_pullTo_8 ?_
      refine g_iload_1 (pc := 10) X dX10_pullTo_10 ?_
      refine g_icmp_ge (pc := 11) X dX10_pullTo_11 (tgt := 42) (by decide) (fun q6 => ?_) (fun q6 => ?_)
      · replace h := h.1 q6
        exact g_drop (by simp [lsub]) (hK v3 h)
      · replace h := h.2 q6
        refine g_iload_2 (pc := 14) X dX10_pullTo_14 ?_
        refine g_iload_4 (pc := 15) X dX10_pullTo_15 ?_
        refine g_iushr (pc := 17) X dX10_pullTo_17 ?_
        refine g_iconst (pc := 18) X dX10_pullTo_18 kiconst_1 ?_
        refine g_iand (pc := 19) X dX10_pullTo_19 ?_
        refine g_if_eq (pc := 20) X dX10_pullTo_20 (tgt := 36) (by decide) (fun q7 => ?_) (fun q7 => ?_)
        · replace h := h.1 q7
          refine g_iinc_4 (pc := 36) X dX10_pullTo_36 (v := v4 + nI 1) rfl (by decide) rfl ?_
          refine g_goto (pc := 39) X dX10_pullTo_39 (tgt := 8) (by decide) ?_
          exact ih v3 (v4 + nI 1) h
        · replace h := h.2 q7
          refine g_iload_3 (pc := 23) X dX10_pullTo_23 ?_
          refine g_aload_0 (pc := 24) X dX10_pullTo_24 ?_
          refine g_getRf (pc := 25) X dX10_pullTo_25 fl_X10_31 rfl (by decide) rfl hR rfl ?_
          refine g_iload_1 (pc := 28) X dX10_pullTo_28 ?_
          refine g_iload_4 (pc := 29) X dX10_pullTo_29 ?_
          refine g_callV_I (pc := 31) X Y dX10_pullTo_31 miX5_pull li_X10_109 (t_X5_pull hR  h) rfl (by decide) rfl ⟨_, rfl⟩ rfl ⟨Nat.le_of_ble_eq_true rfl, Nat.le_of_ble_eq_true rfl⟩ (Nat.le_of_ble_eq_true rfl) (Nat.le_of_ble_eq_true rfl) rfl (by exact Nat.le_of_ble_eq_true rfl) (fun x8 σ9 hp => ?_)
          obtain ⟨rfl, h⟩ := hp
          refine g_iadd (pc := 34) X dX10_pullTo_34 ?_
          refine g_istore_3 (pc := 35) X dX10_pullTo_35 (by decide) rfl ?_
          refine g_iinc_4 (pc := 36) X dX10_pullTo_36 (v := v4 + nI 1) rfl (by decide) rfl ?_
          refine g_goto (pc := 39) X dX10_pullTo_39 (tgt := 8) (by decide) ?_
          exact ih (v3 + x8) (v4 + nI 1) h
  refine hL p0 p1 _ (fun y10 h => ?_) n9 (nI 0) (σ.1 56 11) h
  · refine g_iload_3 (pc := 42) X dX10_pullTo_42 ?_
    exact g_ireturn (pc := 43) X Y dX10_pullTo_43 (Nat.le_of_ble_eq_true rfl) (Nat.le_of_ble_eq_true rfl) ⟨_, rfl, rfl, h⟩
def S_X10_enter (R_X10_enter : Int32 → Int32 → Int32 → Int32 → Int64 → (gSt → Prop) → gSt → Prop) (R_X10_place : Int32 → Int32 → Int32 → Int64 → (gSt → Prop) → gSt → Prop) (p0 : Int32) (p1 : Int32) (p2 : Int32) (p3 : Int32) (p4 : Int64) (Q : gSt → Prop) (σ : gSt) : Prop := rI σ 58 10 p1 (fun x1 => rI σ 53 10 p0 (fun x2 => ∀ J4 : Int32 → Prop, (∀ x3, (((x3 = 0 → (W_J6_bitCount_0f7a4 x1 (fun x6 => ((x6 < (σ.1 50 1) → (W_X10_pullTo p0 x1 (fun x8 => ∀ J10 : Int32 → Prop, (∀ x9, (rI σ 57 11 (p0 + (nI 1)) (fun x11 => (((σ.1 56 12) < ((p2 - x8) + x11) → (Q σ)) ∧ (¬ (σ.1 56 12) < ((p2 - x8) + x11) → ((((σ.1 56 2) ≤ x9 → (Q σ)) ∧ (¬ (σ.1 56 2) ≤ x9 → (wI σ 58 10 p1 (x1 ||| ((nI 1) <<< (p0 &&& 31))) (fun s14 => rI s14 59 10 p1 (fun x15 => wI s14 60 10 p0 x15 (fun s16 => ¬ (nI 2) = 0 ∧ R_X10_place (p0 + (nI 1)) (p2 - x8) x9 (p4 ||| (shlL (i2l x1) ((p0 * (p0 - (nI 1))) / (nI 2)))) (fun s17 => wI s17 58 10 p1 x1 (fun s18 => Q s18)) s16))))))))))) → J10 x9) → (((σ.1 56 13) = (nI 2) → (rI σ 55 10 p0 (fun x20 => W_J6_bitCount_0f7a4 ((x1 ^^^ x20) &&& (((nI 1) <<< (p0 &&& 31)) - ((nI 1) <<< ((σ.1 56 11) &&& 31)))) (fun x21 => J10 (p3 + x21)) σ))) ∧ (¬ (σ.1 56 13) = (nI 2) → (J10 p3)))) σ)) ∧ (¬ x6 < (σ.1 50 1) → (Q σ)))) σ)) ∧ (¬ x3 = 0 → (Q σ)))) → J4 x3) → ∀ J22 : Prop, ((J4 (nI 1)) → J22) → (((x2 &&& x1) = 0 → (rI σ 54 10 p0 (fun x24 => ((((x24 &&& (((nI 1) <<< (p0 &&& 31)) - ((nI 1) <<< ((σ.1 56 11) &&& 31)))) &&& (x1 ^^^ ((-1 : Int32)))) = 0 → (J4 (nI 0))) ∧ (¬ ((x24 &&& (((nI 1) <<< (p0 &&& 31)) - ((nI 1) <<< ((σ.1 56 11) &&& 31)))) &&& (x1 ^^^ ((-1 : Int32)))) = 0 → J22))))) ∧ (¬ (x2 &&& x1) = 0 → J22))))
set_option maxHeartbeats 4000000 in
theorem ts_X10_enter {o : gOm} {l : Launch} {d1 : Nat} {b : Bool} {R_X10_enter : Int32 → Int32 → Int32 → Int32 → Int64 → (gSt → Prop) → gSt → Prop} {R_X10_place : Int32 → Int32 → Int32 → Int64 → (gSt → Prop) → gSt → Prop} (hR_X10_enter : ∀ {σ : gSt} (_ : σ.2.2 = gRf b) {a0 : Int32} {a1 : Int32} {a2 : Int32} {a3 : Int32} {a4 : Int64} {Q : gSt → Prop} (_ : R_X10_enter a0 a1 a2 a3 a4 Q σ), Sp o l mX10_enter d1 0 0 [.ref (ad o 56), .int a0, .int a1, .int a2, .int a3, .long a4] 116 116 σ (pV (fun s => s.2.2 = gRf b ∧ Q s))) (hR_X10_place : ∀ {σ : gSt} (_ : σ.2.2 = gRf b) {a0 : Int32} {a1 : Int32} {a2 : Int32} {a3 : Int64} {Q : gSt → Prop} (_ : R_X10_place a0 a1 a2 a3 Q σ), Sp o l mX10_place d1 0 0 [.ref (ad o 56), .int a0, .int a1, .int a2, .long a3] 116 116 σ (pV (fun s => s.2.2 = gRf b ∧ Q s))) (hd1 : 2 ≤ d1) {σ : gSt} (hR : σ.2.2 = gRf b) {p0 : Int32} {p1 : Int32} {p2 : Int32} {p3 : Int32} {p4 : Int64} {Q : gSt → Prop} (h : S_X10_enter R_X10_enter R_X10_place p0 p1 p2 p3 p4 Q σ) : Sp o l mX10_enter (d1 + 1) 0 0 [.ref (ad o 56), .int p0, .int p1, .int p2, .int p3, .long p4] 116 116 σ (pV (fun s => s.2.2 = gRf b ∧ Q s)) := by
  unfold S_X10_enter at h
  refine Sp.of (ls0 := [some (.ref (ad o 56)), some (.int p0), some (.int p1), some (.int p2), some (.int p3), some (.long p4), none, none, none, none, none, none]) miX10_enter rfl (Nat.le_of_ble_eq_true rfl) rfl (fun γ hγ hnm X Y => ?_)
  subst hγ
  have X : gX o γ cX10_enter 12 RX10 := X
  refine g_aload_0 (pc := 0) X dX10_enter_0 ?_
  refine g_getRf (pc := 1) X dX10_enter_1 fl_X10_15 rfl (by decide) rfl hR rfl ?_
  refine g_iload_2 (pc := 4) X dX10_enter_4 ?_
  refine g_iaload_w (pc := 5) X dX10_enter_5 rfl (by decide) h (fun x1 h => ?_)
  refine g_istore_7 (pc := 6) X dX10_enter_6 (by decide) rfl ?_
  refine g_iconst (pc := 8) X dX10_enter_8 kiconst_1 ?_
  refine g_iload_1 (pc := 9) X dX10_enter_9 ?_
  refine g_ishl (pc := 10) X dX10_enter_10 ?_
  refine g_iconst (pc := 11) X dX10_enter_11 kiconst_1 ?_
  refine g_aload_0 (pc := 12) X dX10_enter_12 ?_
  refine g_getI (pc := 13) X dX10_enter_13 rfl (by decide) fl_X10_54 (Or.inl rfl) ?_
  refine g_ishl (pc := 16) X dX10_enter_16 ?_
  refine g_isub (pc := 17) X dX10_enter_17 ?_
  refine g_istore_8 (pc := 18) X dX10_enter_18 (by decide) rfl ?_
  refine g_aload_0 (pc := 20) X dX10_enter_20 ?_
  refine g_getRf (pc := 21) X dX10_enter_21 fl_X10_31 rfl (by decide) rfl hR rfl ?_
  refine g_getRf (pc := 24) X dX10_enter_24 fl_X10_88 rfl (by decide) rfl hR rfl ?_
  refine g_iload_1 (pc := 27) X dX10_enter_27 ?_
  refine g_iaload_w (pc := 28) X dX10_enter_28 rfl (by decide) h (fun x2 h => ?_)
  refine g_iload_7 (pc := 29) X dX10_enter_29 ?_
  refine g_iand (pc := 31) X dX10_enter_31 ?_
  replace h := h (fun x3 => G o γ 0 0 116 σ 60 [some (.ref (ad o 56)), some (.int p0), some (.int p1), some (.int p2), some (.int p3), some (.long p4), none, some (.int x1), some (.int (((nI 1) <<< (p0 &&& 31)) - ((nI 1) <<< ((σ.1 56 11) &&& 31)))), none, none, none] [.int x3]) (by
      intro x3 h
      refine g_istore_9 (pc := 60) X dX10_enter_60 (by decide) rfl ?_
      refine g_iload_9 (pc := 62) X dX10_enter_62 ?_
      refine g_if_ne (pc := 64) X dX10_enter_64 (tgt := 82) (by decide) (fun q5 => ?_) (fun q5 => ?_)
      · replace h := h.2 q5
        exact g_return (pc := 82) X Y dX10_enter_82 (Nat.le_of_ble_eq_true rfl) (Nat.le_of_ble_eq_true rfl) ⟨rfl, hR, h⟩
      · replace h := h.1 q5
        refine g_iload_7 (pc := 67) X dX10_enter_67 ?_
        refine g_callS_I (pc := 69) X Y dX10_enter_69 miJ6_bitCount_0f7a4 li_X10_94 (t_J6_bitCount_0f7a4 hR  h) rfl ⟨by omega, by show 8 + (1 + 11) + 40 * 1 ≤ 40 * (d1 + 1); omega⟩ (Nat.le_of_ble_eq_true rfl) (Nat.le_of_ble_eq_true rfl) rfl (by exact Nat.le_of_ble_eq_true rfl) (fun x6 σ9 hp => ?_)
        obtain ⟨rfl, h⟩ := hp
        refine g_aload_0 (pc := 72) X dX10_enter_72 ?_
        refine g_getRf (pc := 73) X dX10_enter_73 fl_X10_31 rfl (by decide) rfl hR rfl ?_
        refine g_getI (pc := 76) X dX10_enter_76 rfl (by decide) fl_X10_99 (Or.inl rfl) ?_
        refine g_icmp_lt (pc := 79) X dX10_enter_79 (tgt := 83) (by decide) (fun q7 => ?_) (fun q7 => ?_)
        · replace h := h.1 q7
          refine g_iload_3 (pc := 83) X dX10_enter_83 ?_
          refine g_aload_0 (pc := 84) X dX10_enter_84 ?_
          refine g_iload_1 (pc := 85) X dX10_enter_85 ?_
          refine g_iload_7 (pc := 86) X dX10_enter_86 ?_
          refine g_callV_I (pc := 88) X Y dX10_enter_88 miX10_pullTo li_X10_102 (t_X10_pullTo hR  h) rfl (by decide) rfl ⟨_, rfl⟩ rfl ⟨by omega, by show 8 + (5 + 11) + 40 * 2 ≤ 40 * (d1 + 1); omega⟩ (Nat.le_of_ble_eq_true rfl) (Nat.le_of_ble_eq_true rfl) rfl (by exact Nat.le_of_ble_eq_true rfl) (fun x8 σ9 hp => ?_)
          obtain ⟨rfl, h⟩ := hp
          refine g_isub (pc := 91) X dX10_enter_91 ?_
          refine g_istore_10 (pc := 92) X dX10_enter_92 (by decide) rfl ?_
          refine g_aload_0 (pc := 94) X dX10_enter_94 ?_
          refine g_getI (pc := 95) X dX10_enter_95 rfl (by decide) fl_X10_35 (Or.inl rfl) ?_
          refine g_iconst (pc := 98) X dX10_enter_98 kiconst_2 ?_
          replace h := h (fun x9 => G o γ 0 0 116 σ 128 [some (.ref (ad o 56)), some (.int p0), some (.int p1), none, none, some (.long p4), none, some (.int x1), none, none, some (.int (p2 - x8)), none] [.int x9]) (by
              intro x9 h
              refine g_istore_11 (pc := 128) X dX10_enter_128 (by decide) rfl ?_
              refine g_iload_10 (pc := 130) X dX10_enter_130 ?_
              refine g_aload_0 (pc := 132) X dX10_enter_132 ?_
              refine g_getRf (pc := 133) X dX10_enter_133 fl_X10_9 rfl (by decide) rfl hR rfl ?_
              refine g_iload_1 (pc := 136) X dX10_enter_136 ?_
              refine g_iconst (pc := 137) X dX10_enter_137 kiconst_1 ?_
              refine g_iadd (pc := 138) X dX10_enter_138 ?_
              refine g_iaload_w (pc := 139) X dX10_enter_139 rfl (by decide) h (fun x11 h => ?_)
              refine g_iadd (pc := 140) X dX10_enter_140 ?_
              refine g_aload_0 (pc := 141) X dX10_enter_141 ?_
              refine g_getI (pc := 142) X dX10_enter_142 rfl (by decide) fl_X10_51 (Or.inl rfl) ?_
              refine g_icmp_gt (pc := 145) X dX10_enter_145 (tgt := 214) (by decide) (fun q12 => ?_) (fun q12 => ?_)
              · replace h := h.1 q12
                exact g_return (pc := 214) X Y dX10_enter_214 (Nat.le_of_ble_eq_true rfl) (Nat.le_of_ble_eq_true rfl) ⟨rfl, hR, h⟩
              · replace h := h.2 q12
                refine g_iload_11 (pc := 148) X dX10_enter_148 ?_
                refine g_aload_0 (pc := 150) X dX10_enter_150 ?_
                refine g_getI (pc := 151) X dX10_enter_151 rfl (by decide) fl_X10_40 (Or.inl rfl) ?_
                refine g_icmp_ge (pc := 154) X dX10_enter_154 (tgt := 214) (by decide) (fun q13 => ?_) (fun q13 => ?_)
                · replace h := h.1 q13
                  exact g_return (pc := 214) X Y dX10_enter_214 (Nat.le_of_ble_eq_true rfl) (Nat.le_of_ble_eq_true rfl) ⟨rfl, hR, h⟩
                · replace h := h.2 q13
                  refine g_aload_0 (pc := 157) X dX10_enter_157 ?_
                  refine g_getRf (pc := 158) X dX10_enter_158 fl_X10_15 rfl (by decide) rfl hR rfl ?_
                  refine g_iload_2 (pc := 161) X dX10_enter_161 ?_
                  refine g_iload_7 (pc := 162) X dX10_enter_162 ?_
                  refine g_iconst (pc := 164) X dX10_enter_164 kiconst_1 ?_
                  refine g_iload_1 (pc := 165) X dX10_enter_165 ?_
                  refine g_ishl (pc := 166) X dX10_enter_166 ?_
                  refine g_ior (pc := 167) X dX10_enter_167 ?_
                  refine g_iastore_w (pc := 168) X dX10_enter_168 rfl (by decide) hR h (fun s14 hR h => ?_)
                  refine g_aload_0 (pc := 169) X dX10_enter_169 ?_
                  refine g_getRf (pc := 170) X dX10_enter_170 fl_X10_21 rfl (by decide) rfl hR rfl ?_
                  refine g_iload_1 (pc := 173) X dX10_enter_173 ?_
                  refine g_aload_0 (pc := 174) X dX10_enter_174 ?_
                  refine g_getRf (pc := 175) X dX10_enter_175 fl_X10_18 rfl (by decide) rfl hR rfl ?_
                  refine g_iload_2 (pc := 178) X dX10_enter_178 ?_
                  refine g_iaload_w (pc := 179) X dX10_enter_179 rfl (by decide) h (fun x15 h => ?_)
                  refine g_iastore_w (pc := 180) X dX10_enter_180 rfl (by decide) hR h (fun s16 hR h => ?_)
                  refine g_aload_0 (pc := 181) X dX10_enter_181 ?_
                  refine g_iload_1 (pc := 182) X dX10_enter_182 ?_
                  refine g_iconst (pc := 183) X dX10_enter_183 kiconst_1 ?_
                  refine g_iadd (pc := 184) X dX10_enter_184 ?_
                  refine g_iload_10 (pc := 185) X dX10_enter_185 ?_
                  refine g_iload_11 (pc := 187) X dX10_enter_187 ?_
                  refine g_lload_5 (pc := 189) X dX10_enter_189 ?_
                  refine g_iload_7 (pc := 191) X dX10_enter_191 ?_
                  refine g_i2l (pc := 193) X dX10_enter_193 ?_
                  refine g_iload_1 (pc := 194) X dX10_enter_194 ?_
                  refine g_iload_1 (pc := 195) X dX10_enter_195 ?_
                  refine g_iconst (pc := 196) X dX10_enter_196 kiconst_1 ?_
                  refine g_isub (pc := 197) X dX10_enter_197 ?_
                  refine g_imul (pc := 198) X dX10_enter_198 ?_
                  refine g_iconst (pc := 199) X dX10_enter_199 kiconst_2 ?_
                  obtain ⟨q, h⟩ := h
                  refine g_idiv (pc := 200) X dX10_enter_200 q ?_
                  refine g_lshl (pc := 201) X dX10_enter_201 ?_
                  refine g_lor (pc := 202) X dX10_enter_202 ?_
                  refine g_callV_V (pc := 203) X Y dX10_enter_203 miX10_place li_X10_57 (hR_X10_place hR  h) rfl (by decide) rfl ⟨_, rfl⟩ rfl ⟨by omega, by show 8 + (9 + 11) + 40 * d1 ≤ 40 * (d1 + 1); omega⟩ (Nat.le_of_ble_eq_true rfl) (Nat.le_of_ble_eq_true rfl) rfl (by exact Nat.le_of_ble_eq_true rfl) (fun s17 hp => ?_)
                  obtain ⟨hR, h⟩ := hp
                  refine g_aload_0 (pc := 206) X dX10_enter_206 ?_
                  refine g_getRf (pc := 207) X dX10_enter_207 fl_X10_15 rfl (by decide) rfl hR rfl ?_
                  refine g_iload_2 (pc := 210) X dX10_enter_210 ?_
                  refine g_iload_7 (pc := 211) X dX10_enter_211 ?_
                  refine g_iastore_w (pc := 213) X dX10_enter_213 rfl (by decide) hR h (fun s18 hR h => ?_)
                  exact g_return (pc := 214) X Y dX10_enter_214 (Nat.le_of_ble_eq_true rfl) (Nat.le_of_ble_eq_true rfl) ⟨rfl, hR, h⟩)
          refine g_icmp_ne (pc := 99) X dX10_enter_99 (tgt := 126) (by decide) (fun q19 => ?_) (fun q19 => ?_)
          · replace h := h.2 q19
            refine g_iload_4 (pc := 126) X dX10_enter_126 ?_
            exact g_drop (by simp [lsub]) (h)
          · replace h := h.1 q19
            refine g_iload_4 (pc := 102) X dX10_enter_102 ?_
            refine g_iload_7 (pc := 104) X dX10_enter_104 ?_
            refine g_aload_0 (pc := 106) X dX10_enter_106 ?_
            refine g_getRf (pc := 107) X dX10_enter_107 fl_X10_31 rfl (by decide) rfl hR rfl ?_
            refine g_getRf (pc := 110) X dX10_enter_110 fl_X10_106 rfl (by decide) rfl hR rfl ?_
            refine g_iload_1 (pc := 113) X dX10_enter_113 ?_
            refine g_iaload_w (pc := 114) X dX10_enter_114 rfl (by decide) h (fun x20 h => ?_)
            refine g_ixor (pc := 115) X dX10_enter_115 ?_
            refine g_iload_8 (pc := 116) X dX10_enter_116 ?_
            refine g_iand (pc := 118) X dX10_enter_118 ?_
            refine g_callS_I (pc := 119) X Y dX10_enter_119 miJ6_bitCount_0f7a4 li_X10_94 (t_J6_bitCount_0f7a4 hR  h) rfl ⟨by omega, by show 8 + (1 + 11) + 40 * 1 ≤ 40 * (d1 + 1); omega⟩ (Nat.le_of_ble_eq_true rfl) (Nat.le_of_ble_eq_true rfl) rfl (by exact Nat.le_of_ble_eq_true rfl) (fun x21 σ9 hp => ?_)
            obtain ⟨rfl, h⟩ := hp
            refine g_iadd (pc := 122) X dX10_enter_122 ?_
            refine g_goto (pc := 123) X dX10_enter_123 (tgt := 128) (by decide) ?_
            exact g_drop (by simp [lsub]) (h)
        · replace h := h.2 q7
          exact g_return (pc := 82) X Y dX10_enter_82 (Nat.le_of_ble_eq_true rfl) (Nat.le_of_ble_eq_true rfl) ⟨rfl, hR, h⟩)
  replace h := h (G o γ 0 0 116 σ 55 [some (.ref (ad o 56)), some (.int p0), some (.int p1), some (.int p2), some (.int p3), some (.long p4), none, some (.int x1), some (.int (((nI 1) <<< (p0 &&& 31)) - ((nI 1) <<< ((σ.1 56 11) &&& 31)))), none, none, none] []) (by
      intro  h
      refine g_iconst (pc := 55) X dX10_enter_55 kiconst_1 ?_
      refine g_goto (pc := 56) X dX10_enter_56 (tgt := 60) (by decide) ?_
      exact h)
  refine g_if_ne (pc := 32) X dX10_enter_32 (tgt := 55) (by decide) (fun q23 => ?_) (fun q23 => ?_)
  · replace h := h.2 q23
    exact h
  · replace h := h.1 q23
    refine g_aload_0 (pc := 35) X dX10_enter_35 ?_
    refine g_getRf (pc := 36) X dX10_enter_36 fl_X10_31 rfl (by decide) rfl hR rfl ?_
    refine g_getRf (pc := 39) X dX10_enter_39 fl_X10_91 rfl (by decide) rfl hR rfl ?_
    refine g_iload_1 (pc := 42) X dX10_enter_42 ?_
    refine g_iaload_w (pc := 43) X dX10_enter_43 rfl (by decide) h (fun x24 h => ?_)
    refine g_iload_8 (pc := 44) X dX10_enter_44 ?_
    refine g_iand (pc := 46) X dX10_enter_46 ?_
    refine g_iload_7 (pc := 47) X dX10_enter_47 ?_
    refine g_iconst (pc := 49) X dX10_enter_49 kiconst_m1 ?_
    refine g_ixor (pc := 50) X dX10_enter_50 ?_
    refine g_iand (pc := 51) X dX10_enter_51 ?_
    refine g_if_eq (pc := 52) X dX10_enter_52 (tgt := 59) (by decide) (fun q25 => ?_) (fun q25 => ?_)
    · replace h := h.1 q25
      refine g_iconst (pc := 59) X dX10_enter_59 kiconst_0 ?_
      exact h
    · replace h := h.2 q25
      exact h
def L_X10_place_44 (R_X10_enter : Int32 → Int32 → Int32 → Int32 → Int64 → (gSt → Prop) → gSt → Prop) (R_X10_place : Int32 → Int32 → Int32 → Int64 → (gSt → Prop) → gSt → Prop) (Q : gSt → Prop) (c6 : Int32) (c7 : Int32) (c8 : Int64) (c9 : Int32) (c10 : Int32) (K : gSt → Prop) : Nat → Int32 → gSt → Prop
  | 0, _, _ => False
  | n44 + 1, v11, s12 => ((c10 ≤ v11 → (K s12)) ∧ (¬ c10 ≤ v11 → (R_X10_enter c6 v11 c9 c7 c8 (fun s15 => L_X10_place_44 R_X10_enter R_X10_place Q c6 c7 c8 c9 c10 K n44 (v11 + nI 1) s15) s12)))
def S_X10_place (R_X10_enter : Int32 → Int32 → Int32 → Int32 → Int64 → (gSt → Prop) → gSt → Prop) (R_X10_place : Int32 → Int32 → Int32 → Int64 → (gSt → Prop) → gSt → Prop) (p0 : Int32) (p1 : Int32) (p2 : Int32) (p3 : Int64) (Q : gSt → Prop) (σ : gSt) : Prop := ∀ J1 : Prop, ((W_X10_record p1 p2 p3 (fun s2 => Q s2) σ) → J1) → (((σ.1 50 0) ≤ p0 → J1) ∧ (¬ (σ.1 50 0) ≤ p0 → (((p0 < (nI 10) → (W_X10_drawn p0 (fun x5 => ∃ m44, L_X10_place_44 R_X10_enter R_X10_place Q p0 p2 p3 (p1 + x5) (σ.1 56 10) (fun s17 => wI s17 58 10 (σ.1 56 10) (nI 0) (fun s18 => wI s18 59 10 (σ.1 56 10) p0 (fun s19 => fI s19 56 10 ((σ.1 56 10) + (nI 1)) (fun s20 => R_X10_enter p0 (σ.1 56 10) (p1 + x5) p2 p3 (fun s21 => fI s21 56 10 (σ.1 56 10) (fun s22 => Q s22)) s20)))) m44 (nI 0) σ) σ)) ∧ (¬ p0 < (nI 10) → J1)))))
set_option maxHeartbeats 4000000 in
theorem ts_X10_place {o : gOm} {l : Launch} {d1 : Nat} {b : Bool} {R_X10_enter : Int32 → Int32 → Int32 → Int32 → Int64 → (gSt → Prop) → gSt → Prop} {R_X10_place : Int32 → Int32 → Int32 → Int64 → (gSt → Prop) → gSt → Prop} (hR_X10_enter : ∀ {σ : gSt} (_ : σ.2.2 = gRf b) {a0 : Int32} {a1 : Int32} {a2 : Int32} {a3 : Int32} {a4 : Int64} {Q : gSt → Prop} (_ : R_X10_enter a0 a1 a2 a3 a4 Q σ), Sp o l mX10_enter d1 0 0 [.ref (ad o 56), .int a0, .int a1, .int a2, .int a3, .long a4] 116 116 σ (pV (fun s => s.2.2 = gRf b ∧ Q s))) (hR_X10_place : ∀ {σ : gSt} (_ : σ.2.2 = gRf b) {a0 : Int32} {a1 : Int32} {a2 : Int32} {a3 : Int64} {Q : gSt → Prop} (_ : R_X10_place a0 a1 a2 a3 Q σ), Sp o l mX10_place d1 0 0 [.ref (ad o 56), .int a0, .int a1, .int a2, .long a3] 116 116 σ (pV (fun s => s.2.2 = gRf b ∧ Q s))) (hd1 : 2 ≤ d1) {σ : gSt} (hR : σ.2.2 = gRf b) {p0 : Int32} {p1 : Int32} {p2 : Int32} {p3 : Int64} {Q : gSt → Prop} (h : S_X10_place R_X10_enter R_X10_place p0 p1 p2 p3 Q σ) : Sp o l mX10_place (d1 + 1) 0 0 [.ref (ad o 56), .int p0, .int p1, .int p2, .long p3] 116 116 σ (pV (fun s => s.2.2 = gRf b ∧ Q s)) := by
  unfold S_X10_place at h
  refine Sp.of (ls0 := [some (.ref (ad o 56)), some (.int p0), some (.int p1), some (.int p2), some (.long p3), none, none, none, none]) miX10_place rfl (Nat.le_of_ble_eq_true rfl) rfl (fun γ hγ hnm X Y => ?_)
  subst hγ
  have X : gX o γ cX10_place 9 RX10 := X
  refine g_iload_1 (pc := 0) X dX10_place_0 ?_
  refine g_aload_0 (pc := 1) X dX10_place_1 ?_
  refine g_getRf (pc := 2) X dX10_place_2 fl_X10_31 rfl (by decide) rfl hR rfl ?_
  refine g_getI (pc := 5) X dX10_place_5 rfl (by decide) fl_X10_46 (Or.inl rfl) ?_
  replace h := h (G o γ 0 0 116 σ 17 [some (.ref (ad o 56)), none, some (.int p1), some (.int p2), some (.long p3), none, none, none, none] []) (by
      intro  h
      refine g_aload_0 (pc := 17) X dX10_place_17 ?_
      refine g_iload_2 (pc := 18) X dX10_place_18 ?_
      refine g_iload_3 (pc := 19) X dX10_place_19 ?_
      refine g_lload_4 (pc := 20) X dX10_place_20 ?_
      refine g_callV_V (pc := 22) X Y dX10_place_22 miX10_record li_X10_73 (t_X10_record hR  h) rfl (by decide) rfl ⟨_, rfl⟩ rfl ⟨by omega, by show 8 + (5 + 11) + 40 * 2 ≤ 40 * (d1 + 1); omega⟩ (Nat.le_of_ble_eq_true rfl) (Nat.le_of_ble_eq_true rfl) rfl (by exact Nat.le_of_ble_eq_true rfl) (fun s2 hp => ?_)
      obtain ⟨hR, h⟩ := hp
      exact g_return (pc := 25) X Y dX10_place_25 (Nat.le_of_ble_eq_true rfl) (Nat.le_of_ble_eq_true rfl) ⟨rfl, hR, h⟩)
  refine g_icmp_ge (pc := 8) X dX10_place_8 (tgt := 17) (by decide) (fun q3 => ?_) (fun q3 => ?_)
  · replace h := h.1 q3
    exact g_drop (by simp [lsub]) (h)
  · replace h := h.2 q3
    refine g_iload_1 (pc := 11) X dX10_place_11 ?_
    refine g_bipush (pc := 12) X dX10_place_12 kbipush_10 ?_
    refine g_icmp_lt (pc := 14) X dX10_place_14 (tgt := 26) (by decide) (fun q4 => ?_) (fun q4 => ?_)
    · replace h := h.1 q4
      refine g_iload_2 (pc := 26) X dX10_place_26 ?_
      refine g_aload_0 (pc := 27) X dX10_place_27 ?_
      refine g_iload_1 (pc := 28) X dX10_place_28 ?_
      refine g_callV_I (pc := 29) X Y dX10_place_29 miX10_drawn li_X10_77 (t_X10_drawn hR  h) rfl (by decide) rfl ⟨_, rfl⟩ rfl ⟨by omega, by show 8 + (4 + 11) + 40 * 2 ≤ 40 * (d1 + 1); omega⟩ (Nat.le_of_ble_eq_true rfl) (Nat.le_of_ble_eq_true rfl) rfl (by exact Nat.le_of_ble_eq_true rfl) (fun x5 σ9 hp => ?_)
      obtain ⟨rfl, h⟩ := hp
      refine g_iadd (pc := 32) X dX10_place_32 ?_
      refine g_istore_6 (pc := 33) X dX10_place_33 (by decide) rfl ?_
      refine g_aload_0 (pc := 35) X dX10_place_35 ?_
      refine g_getI (pc := 36) X dX10_place_36 rfl (by decide) fl_X10_81 (Or.inl rfl) ?_
      refine g_istore_7 (pc := 39) X dX10_place_39 (by decide) rfl ?_
      refine g_iconst (pc := 41) X dX10_place_41 kiconst_0 ?_
      refine g_istore_8 (pc := 42) X dX10_place_42 (by decide) rfl ?_
      obtain ⟨n16, h⟩ := h
      have hL : ∀ (c6 : Int32) (c7 : Int32) (c8 : Int64) (c9 : Int32) (c10 : Int32) (K : gSt → Prop) (_ : ∀  (s13 : gSt), s13.2.2 = gRf b → K s13 → G o γ 0 0 116 s13 69 [some (.ref (ad o 56)), some (.int c6), none, some (.int c7), some (.long c8), none, some (.int c9), some (.int c10), none] []) (n : Nat) (v11 : Int32) (s12 : gSt), s12.2.2 = gRf b → L_X10_place_44 R_X10_enter R_X10_place Q c6 c7 c8 c9 c10 K n v11 s12 → G o γ 0 0 116 s12 44 [some (.ref (ad o 56)), some (.int c6), none, some (.int c7), some (.long c8), none, some (.int c9), some (.int c10), some (.int v11)] [] := by
        intro c6 c7 c8 c9 c10 K hK n
        induction n with
        | zero => intro v11 s12 hR h; exact False.elim h
        | succ n ih =>
          intro v11 s12 hR h
          rw [L_X10_place_44] at h
          refine g_iload_8 (pc := 44) X dX10_place_44 ?_
          refine g_iload_7 (pc := 46) X dX10_place_46 ?_
          refine g_icmp_ge (pc := 48) X dX10_place_48 (tgt := 69) (by decide) (fun q14 => ?_) (fun q14 => ?_)
          · replace h := h.1 q14
            exact g_drop (by simp [lsub]) (hK s12 hR h)
          · replace h := h.2 q14
            refine g_aload_0 (pc := 51) X dX10_place_51 ?_
            refine g_iload_1 (pc := 52) X dX10_place_52 ?_
            refine g_iload_8 (pc := 53) X dX10_place_53 ?_
            refine g_iload_6 (pc := 55) X dX10_place_55 ?_
            refine g_iload_3 (pc := 57) X dX10_place_57 ?_
            refine g_lload_4 (pc := 58) X dX10_place_58 ?_
            refine g_callV_V (pc := 60) X Y dX10_place_60 miX10_enter li_X10_84 (hR_X10_enter hR  h) rfl (by decide) rfl ⟨_, rfl⟩ rfl ⟨by omega, by show 8 + (12 + 11) + 40 * d1 ≤ 40 * (d1 + 1); omega⟩ (Nat.le_of_ble_eq_true rfl) (Nat.le_of_ble_eq_true rfl) rfl (by exact Nat.le_of_ble_eq_true rfl) (fun s15 hp => ?_)
            obtain ⟨hR, h⟩ := hp
            refine g_iinc_8 (pc := 63) X dX10_place_63 (v := v11 + nI 1) rfl (by decide) rfl ?_
            refine g_goto (pc := 66) X dX10_place_66 (tgt := 44) (by decide) ?_
            exact ih (v11 + nI 1) s15 hR h
      refine g_drop (by simp [lsub]) (hL p0 p2 p3 (p1 + x5) (σ.1 56 10) _ (fun s17 hR h => ?_) n16 (nI 0) σ hR h)
      · refine g_aload_0 (pc := 69) X dX10_place_69 ?_
        refine g_getRf (pc := 70) X dX10_place_70 fl_X10_15 rfl (by decide) rfl hR rfl ?_
        refine g_iload_7 (pc := 73) X dX10_place_73 ?_
        refine g_iconst (pc := 75) X dX10_place_75 kiconst_0 ?_
        refine g_iastore_w (pc := 76) X dX10_place_76 rfl (by decide) hR h (fun s18 hR h => ?_)
        refine g_aload_0 (pc := 77) X dX10_place_77 ?_
        refine g_getRf (pc := 78) X dX10_place_78 fl_X10_18 rfl (by decide) rfl hR rfl ?_
        refine g_iload_7 (pc := 81) X dX10_place_81 ?_
        refine g_iload_1 (pc := 83) X dX10_place_83 ?_
        refine g_iastore_w (pc := 84) X dX10_place_84 rfl (by decide) hR h (fun s19 hR h => ?_)
        refine g_aload_0 (pc := 85) X dX10_place_85 ?_
        refine g_iload_7 (pc := 86) X dX10_place_86 ?_
        refine g_iconst (pc := 88) X dX10_place_88 kiconst_1 ?_
        refine g_iadd (pc := 89) X dX10_place_89 ?_
        refine g_putI_w (pc := 90) X dX10_place_90 fl_X10_81 rfl (by decide) rfl rfl hR h (fun s20 hR h => ?_)
        refine g_aload_0 (pc := 93) X dX10_place_93 ?_
        refine g_iload_1 (pc := 94) X dX10_place_94 ?_
        refine g_iload_7 (pc := 95) X dX10_place_95 ?_
        refine g_iload_6 (pc := 97) X dX10_place_97 ?_
        refine g_iload_3 (pc := 99) X dX10_place_99 ?_
        refine g_lload_4 (pc := 100) X dX10_place_100 ?_
        refine g_callV_V (pc := 102) X Y dX10_place_102 miX10_enter li_X10_84 (hR_X10_enter hR  h) rfl (by decide) rfl ⟨_, rfl⟩ rfl ⟨by omega, by show 8 + (12 + 11) + 40 * d1 ≤ 40 * (d1 + 1); omega⟩ (Nat.le_of_ble_eq_true rfl) (Nat.le_of_ble_eq_true rfl) rfl (by exact Nat.le_of_ble_eq_true rfl) (fun s21 hp => ?_)
        obtain ⟨hR, h⟩ := hp
        refine g_aload_0 (pc := 105) X dX10_place_105 ?_
        refine g_iload_7 (pc := 106) X dX10_place_106 ?_
        refine g_putI_w (pc := 108) X dX10_place_108 fl_X10_81 rfl (by decide) rfl rfl hR h (fun s22 hR h => ?_)
        exact g_return (pc := 111) X Y dX10_place_111 (Nat.le_of_ble_eq_true rfl) (Nat.le_of_ble_eq_true rfl) ⟨rfl, hR, h⟩
    · replace h := h.2 q4
      exact g_drop (by simp [lsub]) (h)
def WR_X10_enter : Nat → (Int32 → Int32 → Int32 → Int32 → Int64 → (gSt → Prop) → gSt → Prop) × (Int32 → Int32 → Int32 → Int64 → (gSt → Prop) → gSt → Prop)
  | 0 => ((fun _ _ _ _ _ _ _ => False), (fun _ _ _ _ _ _ => False))
  | n + 1 => (S_X10_enter ((WR_X10_enter n).1) ((WR_X10_enter n).2), S_X10_place ((WR_X10_enter n).1) ((WR_X10_enter n).2))
theorem tr_X10_enter {o : gOm} {l : Launch} {b : Bool} : ∀ n : Nat, (∀ {σ : gSt} (_ : σ.2.2 = gRf b) {a0 : Int32} {a1 : Int32} {a2 : Int32} {a3 : Int32} {a4 : Int64} {Q : gSt → Prop} (_ : (WR_X10_enter n).1 a0 a1 a2 a3 a4 Q σ), Sp o l mX10_enter (2 + n) 0 0 [.ref (ad o 56), .int a0, .int a1, .int a2, .int a3, .long a4] 116 116 σ (pV (fun s => s.2.2 = gRf b ∧ Q s))) ∧ (∀ {σ : gSt} (_ : σ.2.2 = gRf b) {a0 : Int32} {a1 : Int32} {a2 : Int32} {a3 : Int64} {Q : gSt → Prop} (_ : (WR_X10_enter n).2 a0 a1 a2 a3 Q σ), Sp o l mX10_place (2 + n) 0 0 [.ref (ad o 56), .int a0, .int a1, .int a2, .long a3] 116 116 σ (pV (fun s => s.2.2 = gRf b ∧ Q s)))
  | 0 => ⟨fun {_} _ {_} {_} {_} {_} {_} {_} h => False.elim h, fun {_} _ {_} {_} {_} {_} {_} h => False.elim h⟩
  | n + 1 => ⟨fun {_} hR {_} {_} {_} {_} {_} {_} h => ts_X10_enter (d1 := 2 + n) ((tr_X10_enter (o := o) (l := l) (b := b) n).1) ((tr_X10_enter (o := o) (l := l) (b := b) n).2) (by omega) hR h, fun {_} hR {_} {_} {_} {_} {_} h => ts_X10_place (d1 := 2 + n) ((tr_X10_enter (o := o) (l := l) (b := b) n).1) ((tr_X10_enter (o := o) (l := l) (b := b) n).2) (by omega) hR h⟩
def W_X10_enter (a0 : Int32) (a1 : Int32) (a2 : Int32) (a3 : Int32) (a4 : Int64) (Q : gSt → Prop) (σ : gSt) : Prop := (WR_X10_enter 24).1 a0 a1 a2 a3 a4 Q σ
theorem t_X10_enter {o : gOm} {l : Launch} {b : Bool} {σ : gSt} (hR : σ.2.2 = gRf b) {a0 : Int32} {a1 : Int32} {a2 : Int32} {a3 : Int32} {a4 : Int64} {Q : gSt → Prop} (h : W_X10_enter a0 a1 a2 a3 a4 Q σ) : Sp o l mX10_enter 26 0 0 [.ref (ad o 56), .int a0, .int a1, .int a2, .int a3, .long a4] 116 116 σ (pV (fun s => s.2.2 = gRf b ∧ Q s)) := (tr_X10_enter (o := o) (l := l) (b := b) 24).1 hR h
def W_X10_place (a0 : Int32) (a1 : Int32) (a2 : Int32) (a3 : Int64) (Q : gSt → Prop) (σ : gSt) : Prop := (WR_X10_enter 24).2 a0 a1 a2 a3 Q σ
theorem t_X10_place {o : gOm} {l : Launch} {b : Bool} {σ : gSt} (hR : σ.2.2 = gRf b) {a0 : Int32} {a1 : Int32} {a2 : Int32} {a3 : Int64} {Q : gSt → Prop} (h : W_X10_place a0 a1 a2 a3 Q σ) : Sp o l mX10_place 26 0 0 [.ref (ad o 56), .int a0, .int a1, .int a2, .long a3] 116 116 σ (pV (fun s => s.2.2 = gRf b ∧ Q s)) := (tr_X10_enter (o := o) (l := l) (b := b) 24).2 hR h
def L_X10_measure_39 (Q : Int32 → gSt → Prop)  (K : gSt → Prop) : Nat → Int32 → gSt → Prop
  | 0, _, _ => False
  | n39 + 1, v5, s6 => ((v5 < 0 → (K s6)) ∧ (¬ v5 < 0 → (fI s6 56 0 ((1073741823 : Int32)) (fun s9 => fI s9 56 12 ((1073741823 : Int32)) (fun s10 => fI s10 56 11 v5 (fun s11 => W_X10_place v5 (nI 0) (nI 0) (lN 0) (fun s12 => (((s12.1 56 0) = ((1073741823 : Int32)) → (Q (nI 0) s12)) ∧ (¬ (s12.1 56 0) = ((1073741823 : Int32)) → (wI s12 57 11 v5 (s12.1 56 0) (fun s14 => L_X10_measure_39 Q K n39 (v5 + (-1 : Int32)) s14))))) s11))))))
def W_X10_measure  (Q : Int32 → gSt → Prop) (σ : gSt) : Prop := fI σ 56 13 (nI 0) (fun s1 => fI s1 56 2 ((1073741823 : Int32)) (fun s2 => fI s2 56 0 (nI 0) (fun s3 => wI s3 57 11 (s3.1 50 0) (nI 0) (fun s4 => ∃ m39, L_X10_measure_39 Q (fun s16 => Q (nI 1) s16) m39 ((s4.1 50 0) - (nI 1)) s4))))
set_option maxHeartbeats 4000000 in
theorem t_X10_measure {o : gOm} {l : Launch} {b : Bool}   {σ : gSt} (hR : σ.2.2 = gRf b)  {Q : Int32 → gSt → Prop} (h : W_X10_measure  Q σ) : Sp o l mX10_measure 27 0 0 [.ref (ad o 56)] 116 116 σ (pI (fun x s => s.2.2 = gRf b ∧ Q x s)) := by
  unfold W_X10_measure at h
  refine Sp.of (ls0 := [some (.ref (ad o 56)), none]) miX10_measure rfl (Nat.le_of_ble_eq_true rfl) rfl (fun γ hγ hnm X Y => ?_)
  subst hγ
  have X : gX o γ cX10_measure 2 RX10 := X
  refine g_aload_0 (pc := 0) X dX10_measure_0 ?_
  refine g_iconst (pc := 1) X dX10_measure_1 kiconst_0 ?_
  refine g_putI_w (pc := 2) X dX10_measure_2 fl_X10_35 rfl (by decide) rfl rfl hR h (fun s1 hR h => ?_)
  refine g_aload_0 (pc := 5) X dX10_measure_5 ?_
  refine g_ldc (pc := 6) X dX10_measure_6 ct_X10_39 ?_
  refine g_putI_w (pc := 8) X dX10_measure_8 fl_X10_40 rfl (by decide) rfl rfl hR h (fun s2 hR h => ?_)
  refine g_aload_0 (pc := 11) X dX10_measure_11 ?_
  refine g_iconst (pc := 12) X dX10_measure_12 kiconst_0 ?_
  refine g_putI_w (pc := 13) X dX10_measure_13 fl_X10_43 rfl (by decide) rfl rfl hR h (fun s3 hR h => ?_)
  refine g_aload_0 (pc := 16) X dX10_measure_16 ?_
  refine g_getRf (pc := 17) X dX10_measure_17 fl_X10_9 rfl (by decide) rfl hR rfl ?_
  refine g_aload_0 (pc := 20) X dX10_measure_20 ?_
  refine g_getRf (pc := 21) X dX10_measure_21 fl_X10_31 rfl (by decide) rfl hR rfl ?_
  refine g_getI (pc := 24) X dX10_measure_24 rfl (by decide) fl_X10_46 (Or.inl rfl) ?_
  refine g_iconst (pc := 27) X dX10_measure_27 kiconst_0 ?_
  refine g_iastore_w (pc := 28) X dX10_measure_28 rfl (by decide) hR h (fun s4 hR h => ?_)
  refine g_aload_0 (pc := 29) X dX10_measure_29 ?_
  refine g_getRf (pc := 30) X dX10_measure_30 fl_X10_31 rfl (by decide) rfl hR rfl ?_
  refine g_getI (pc := 33) X dX10_measure_33 rfl (by decide) fl_X10_46 (Or.inl rfl) ?_
  refine g_iconst (pc := 36) X dX10_measure_36 kiconst_1 ?_
  refine g_isub (pc := 37) X dX10_measure_37 ?_
  refine g_istore_1 (pc := 38) X dX10_measure_38 (by decide) rfl ?_
  obtain ⟨n15, h⟩ := h
  have hL : ∀  (K : gSt → Prop) (_ : ∀  (s7 : gSt), s7.2.2 = gRf b → K s7 → G o γ 0 0 116 s7 95 [some (.ref (ad o 56)), none] []) (n : Nat) (v5 : Int32) (s6 : gSt), s6.2.2 = gRf b → L_X10_measure_39 Q K n v5 s6 → G o γ 0 0 116 s6 39 [some (.ref (ad o 56)), some (.int v5)] [] := by
    intro K hK n
    induction n with
    | zero => intro v5 s6 hR h; exact False.elim h
    | succ n ih =>
      intro v5 s6 hR h
      rw [L_X10_measure_39] at h
      refine g_iload_1 (pc := 39) X dX10_measure_39 ?_
      refine g_if_lt (pc := 40) X dX10_measure_40 (tgt := 95) (by decide) (fun q8 => ?_) (fun q8 => ?_)
      · replace h := h.1 q8
        exact g_drop (by simp [lsub]) (hK s6 hR h)
      · replace h := h.2 q8
        refine g_aload_0 (pc := 43) X dX10_measure_43 ?_
        refine g_ldc (pc := 44) X dX10_measure_44 ct_X10_39 ?_
        refine g_putI_w (pc := 46) X dX10_measure_46 fl_X10_43 rfl (by decide) rfl rfl hR h (fun s9 hR h => ?_)
        refine g_aload_0 (pc := 49) X dX10_measure_49 ?_
        refine g_ldc (pc := 50) X dX10_measure_50 ct_X10_39 ?_
        refine g_putI_w (pc := 52) X dX10_measure_52 fl_X10_51 rfl (by decide) rfl rfl hR h (fun s10 hR h => ?_)
        refine g_aload_0 (pc := 55) X dX10_measure_55 ?_
        refine g_iload_1 (pc := 56) X dX10_measure_56 ?_
        refine g_putI_w (pc := 57) X dX10_measure_57 fl_X10_54 rfl (by decide) rfl rfl hR h (fun s11 hR h => ?_)
        refine g_aload_0 (pc := 60) X dX10_measure_60 ?_
        refine g_iload_1 (pc := 61) X dX10_measure_61 ?_
        refine g_iconst (pc := 62) X dX10_measure_62 kiconst_0 ?_
        refine g_iconst (pc := 63) X dX10_measure_63 kiconst_0 ?_
        refine g_lconst (pc := 64) X dX10_measure_64 (v := lN 0) rfl ?_
        refine g_callV_V (pc := 65) X Y dX10_measure_65 miX10_place li_X10_57 (t_X10_place hR  h) rfl (by decide) rfl ⟨_, rfl⟩ rfl ⟨Nat.le_of_ble_eq_true rfl, Nat.le_of_ble_eq_true rfl⟩ (Nat.le_of_ble_eq_true rfl) (Nat.le_of_ble_eq_true rfl) rfl (by exact Nat.le_of_ble_eq_true rfl) (fun s12 hp => ?_)
        obtain ⟨hR, h⟩ := hp
        refine g_aload_0 (pc := 68) X dX10_measure_68 ?_
        refine g_getI (pc := 69) X dX10_measure_69 rfl (by decide) fl_X10_43 (Or.inl rfl) ?_
        refine g_ldc (pc := 72) X dX10_measure_72 ct_X10_39 ?_
        refine g_icmp_ne (pc := 74) X dX10_measure_74 (tgt := 79) (by decide) (fun q13 => ?_) (fun q13 => ?_)
        · replace h := h.2 q13
          refine g_aload_0 (pc := 79) X dX10_measure_79 ?_
          refine g_getRf (pc := 80) X dX10_measure_80 fl_X10_9 rfl (by decide) rfl hR rfl ?_
          refine g_iload_1 (pc := 83) X dX10_measure_83 ?_
          refine g_aload_0 (pc := 84) X dX10_measure_84 ?_
          refine g_getI (pc := 85) X dX10_measure_85 rfl (by decide) fl_X10_43 (Or.inl rfl) ?_
          refine g_iastore_w (pc := 88) X dX10_measure_88 rfl (by decide) hR h (fun s14 hR h => ?_)
          refine g_iinc_1 (pc := 89) X dX10_measure_89 (v := v5 + (-1 : Int32)) rfl (by decide) rfl ?_
          refine g_goto (pc := 92) X dX10_measure_92 (tgt := 39) (by decide) ?_
          exact ih (v5 + (-1 : Int32)) s14 hR h
        · replace h := h.1 q13
          refine g_iconst (pc := 77) X dX10_measure_77 kiconst_0 ?_
          exact g_zreturn (pc := 78) X Y dX10_measure_78 (by first | exact Or.inl rfl | exact Or.inr rfl) (Nat.le_of_ble_eq_true rfl) (Nat.le_of_ble_eq_true rfl) ⟨_, rfl, hR, h⟩
  refine hL  _ (fun s16 hR h => ?_) n15 ((s4.1 50 0) - (nI 1)) s4 hR h
  · refine g_iconst (pc := 95) X dX10_measure_95 kiconst_1 ?_
    exact g_zreturn (pc := 96) X Y dX10_measure_96 (by first | exact Or.inl rfl | exact Or.inr rfl) (Nat.le_of_ble_eq_true rfl) (Nat.le_of_ble_eq_true rfl) ⟨_, rfl, hR, h⟩
def W_X10_list  (Q : gSt → Prop) (σ : gSt) : Prop := fI σ 56 13 (nI 1) (fun s1 => fI s1 56 12 (s1.1 56 0) (fun s2 => fI s2 56 1 (nI 0) (fun s3 => fL s3 56 14 ((-1 : Int64)) (fun s4 => fL s4 56 15 (lN 0) (fun s5 => W_X10_place (nI 0) (nI 0) (nI 0) (lN 0) (fun s6 => Q s6) s5)))))
set_option maxHeartbeats 4000000 in
theorem t_X10_list {o : gOm} {l : Launch} {b : Bool}   {σ : gSt} (hR : σ.2.2 = gRf b)  {Q : gSt → Prop} (h : W_X10_list  Q σ) : Sp o l mX10_list 27 0 0 [.ref (ad o 56)] 116 116 σ (pV (fun s => s.2.2 = gRf b ∧ Q s)) := by
  unfold W_X10_list at h
  refine Sp.of (ls0 := [some (.ref (ad o 56))]) miX10_list rfl (Nat.le_of_ble_eq_true rfl) rfl (fun γ hγ hnm X Y => ?_)
  subst hγ
  have X : gX o γ cX10_list 1 RX10 := X
  refine g_aload_0 (pc := 0) X dX10_list_0 ?_
  refine g_iconst (pc := 1) X dX10_list_1 kiconst_1 ?_
  refine g_putI_w (pc := 2) X dX10_list_2 fl_X10_35 rfl (by decide) rfl rfl hR h (fun s1 hR h => ?_)
  refine g_aload_0 (pc := 5) X dX10_list_5 ?_
  refine g_aload_0 (pc := 6) X dX10_list_6 ?_
  refine g_getI (pc := 7) X dX10_list_7 rfl (by decide) fl_X10_43 (Or.inl rfl) ?_
  refine g_putI_w (pc := 10) X dX10_list_10 fl_X10_51 rfl (by decide) rfl rfl hR h (fun s2 hR h => ?_)
  refine g_aload_0 (pc := 13) X dX10_list_13 ?_
  refine g_iconst (pc := 14) X dX10_list_14 kiconst_0 ?_
  refine g_putI_w (pc := 15) X dX10_list_15 fl_X10_61 rfl (by decide) rfl rfl hR h (fun s3 hR h => ?_)
  refine g_aload_0 (pc := 18) X dX10_list_18 ?_
  refine g_ldc2 (pc := 19) X dX10_list_19 ct_X10_64 ?_
  refine g_putL_w (pc := 22) X dX10_list_22 fl_X10_66 rfl (by decide) rfl rfl hR h (fun s4 hR h => ?_)
  refine g_aload_0 (pc := 25) X dX10_list_25 ?_
  refine g_lconst (pc := 26) X dX10_list_26 (v := lN 0) rfl ?_
  refine g_putL_w (pc := 27) X dX10_list_27 fl_X10_70 rfl (by decide) rfl rfl hR h (fun s5 hR h => ?_)
  refine g_aload_0 (pc := 30) X dX10_list_30 ?_
  refine g_iconst (pc := 31) X dX10_list_31 kiconst_0 ?_
  refine g_iconst (pc := 32) X dX10_list_32 kiconst_0 ?_
  refine g_iconst (pc := 33) X dX10_list_33 kiconst_0 ?_
  refine g_lconst (pc := 34) X dX10_list_34 (v := lN 0) rfl ?_
  refine g_callV_V (pc := 35) X Y dX10_list_35 miX10_place li_X10_57 (t_X10_place hR  h) rfl (by decide) rfl ⟨_, rfl⟩ rfl ⟨Nat.le_of_ble_eq_true rfl, Nat.le_of_ble_eq_true rfl⟩ (Nat.le_of_ble_eq_true rfl) (Nat.le_of_ble_eq_true rfl) rfl (by exact Nat.le_of_ble_eq_true rfl) (fun s6 hp => ?_)
  obtain ⟨hR, h⟩ := hp
  exact g_return (pc := 38) X Y dX10_list_38 (Nat.le_of_ble_eq_true rfl) (Nat.le_of_ble_eq_true rfl) ⟨rfl, hR, h⟩
def W_X10_approach (p0 : Int32) (Q : gSt → Prop) (σ : gSt) : Prop := fI σ 56 13 (nI 2) (fun s1 => fI s1 56 12 ((s1.1 56 0) + p0) (fun s2 => W_X10_place (nI 0) (nI 0) (nI 0) (lN 0) (fun s3 => Q s3) s2))
set_option maxHeartbeats 4000000 in
theorem t_X10_approach {o : gOm} {l : Launch} {b : Bool}   {σ : gSt} (hR : σ.2.2 = gRf b) {p0 : Int32} {Q : gSt → Prop} (h : W_X10_approach p0 Q σ) : Sp o l mX10_approach 27 0 0 [.ref (ad o 56), .int p0] 116 116 σ (pV (fun s => s.2.2 = gRf b ∧ Q s)) := by
  unfold W_X10_approach at h
  refine Sp.of (ls0 := [some (.ref (ad o 56)), some (.int p0)]) miX10_approach rfl (Nat.le_of_ble_eq_true rfl) rfl (fun γ hγ hnm X Y => ?_)
  subst hγ
  have X : gX o γ cX10_approach 2 RX10 := X
  refine g_aload_0 (pc := 0) X dX10_approach_0 ?_
  refine g_iconst (pc := 1) X dX10_approach_1 kiconst_2 ?_
  refine g_putI_w (pc := 2) X dX10_approach_2 fl_X10_35 rfl (by decide) rfl rfl hR h (fun s1 hR h => ?_)
  refine g_aload_0 (pc := 5) X dX10_approach_5 ?_
  refine g_aload_0 (pc := 6) X dX10_approach_6 ?_
  refine g_getI (pc := 7) X dX10_approach_7 rfl (by decide) fl_X10_43 (Or.inl rfl) ?_
  refine g_iload_1 (pc := 10) X dX10_approach_10 ?_
  refine g_iadd (pc := 11) X dX10_approach_11 ?_
  refine g_putI_w (pc := 12) X dX10_approach_12 fl_X10_51 rfl (by decide) rfl rfl hR h (fun s2 hR h => ?_)
  refine g_aload_0 (pc := 15) X dX10_approach_15 ?_
  refine g_iconst (pc := 16) X dX10_approach_16 kiconst_0 ?_
  refine g_iconst (pc := 17) X dX10_approach_17 kiconst_0 ?_
  refine g_iconst (pc := 18) X dX10_approach_18 kiconst_0 ?_
  refine g_lconst (pc := 19) X dX10_approach_19 (v := lN 0) rfl ?_
  refine g_callV_V (pc := 20) X Y dX10_approach_20 miX10_place li_X10_57 (t_X10_place hR  h) rfl (by decide) rfl ⟨_, rfl⟩ rfl ⟨Nat.le_of_ble_eq_true rfl, Nat.le_of_ble_eq_true rfl⟩ (Nat.le_of_ble_eq_true rfl) (Nat.le_of_ble_eq_true rfl) rfl (by exact Nat.le_of_ble_eq_true rfl) (fun s3 hp => ?_)
  obtain ⟨hR, h⟩ := hp
  exact g_return (pc := 23) X Y dX10_approach_23 (Nat.le_of_ble_eq_true rfl) (Nat.le_of_ble_eq_true rfl) ⟨rfl, hR, h⟩
def W_X10_heapOf (p0 : Int32) (Q : Int32 → Prop) (σ : gSt) : Prop := W_X5_placeOf p0 (fun x1 => ((x1 = ((-1 : Int32)) → (Q ((-1 : Int32)))) ∧ (¬ x1 = ((-1 : Int32)) → (rI σ 61 10 x1 (fun x3 => rI σ 51 10 x3 (fun x4 => Q x4)))))) σ
set_option maxHeartbeats 4000000 in
theorem t_X10_heapOf {o : gOm} {l : Launch} {b : Bool}   {σ : gSt} (hR : σ.2.2 = gRf b) {p0 : Int32} {Q : Int32 → Prop} (h : W_X10_heapOf p0 Q σ) : Sp o l mX10_heapOf 2 0 0 [.ref (ad o 56), .int p0] 116 116 σ (pI (fun x s => σ = s ∧ Q x)) := by
  unfold W_X10_heapOf at h
  refine Sp.of (ls0 := [some (.ref (ad o 56)), some (.int p0), none]) miX10_heapOf rfl (Nat.le_of_ble_eq_true rfl) rfl (fun γ hγ hnm X Y => ?_)
  subst hγ
  have X : gX o γ cX10_heapOf 3 RX10 := X
  refine g_aload_0 (pc := 0) X dX10_heapOf_0 ?_
  refine g_getRf (pc := 1) X dX10_heapOf_1 fl_X10_31 rfl (by decide) rfl hR rfl ?_
  refine g_iload_1 (pc := 4) X dX10_heapOf_4 ?_
  refine g_callV_I (pc := 5) X Y dX10_heapOf_5 miX5_placeOf li_X10_123 (t_X5_placeOf hR  h) rfl (by decide) rfl ⟨_, rfl⟩ rfl ⟨Nat.le_of_ble_eq_true rfl, Nat.le_of_ble_eq_true rfl⟩ (Nat.le_of_ble_eq_true rfl) (Nat.le_of_ble_eq_true rfl) rfl (by exact Nat.le_of_ble_eq_true rfl) (fun x1 σ9 hp => ?_)
  obtain ⟨rfl, h⟩ := hp
  refine g_istore_2 (pc := 8) X dX10_heapOf_8 (by decide) rfl ?_
  refine g_iload_2 (pc := 9) X dX10_heapOf_9 ?_
  refine g_iconst (pc := 10) X dX10_heapOf_10 kiconst_m1 ?_
  refine g_icmp_ne (pc := 11) X dX10_heapOf_11 (tgt := 18) (by decide) (fun q2 => ?_) (fun q2 => ?_)
  · replace h := h.2 q2
    refine g_aload_0 (pc := 18) X dX10_heapOf_18 ?_
    refine g_getRf (pc := 19) X dX10_heapOf_19 fl_X10_31 rfl (by decide) rfl hR rfl ?_
    refine g_getRf (pc := 22) X dX10_heapOf_22 fl_X10_126 rfl (by decide) rfl hR rfl ?_
    refine g_aload_0 (pc := 25) X dX10_heapOf_25 ?_
    refine g_getRf (pc := 26) X dX10_heapOf_26 fl_X10_24 rfl (by decide) rfl hR rfl ?_
    refine g_iload_2 (pc := 29) X dX10_heapOf_29 ?_
    refine g_iaload_w (pc := 30) X dX10_heapOf_30 rfl (by decide) h (fun x3 h => ?_)
    refine g_iaload_w (pc := 31) X dX10_heapOf_31 rfl (by decide) h (fun x4 h => ?_)
    exact g_ireturn (pc := 32) X Y dX10_heapOf_32 (Nat.le_of_ble_eq_true rfl) (Nat.le_of_ble_eq_true rfl) ⟨_, rfl, rfl, h⟩
  · replace h := h.1 q2
    refine g_iconst (pc := 14) X dX10_heapOf_14 kiconst_m1 ?_
    refine g_goto (pc := 15) X dX10_heapOf_15 (tgt := 32) (by decide) ?_
    exact g_ireturn (pc := 32) X Y dX10_heapOf_32 (Nat.le_of_ble_eq_true rfl) (Nat.le_of_ble_eq_true rfl) ⟨_, rfl, rfl, h⟩
def L_X10_copyFirst_2 (k0 : Nat) (Q : gSt → Prop)  (K : gSt → Prop) : Nat → Int32 → gSt → Prop
  | 0, _, _ => False
  | n2 + 1, v1, s2 => (((s2.1 50 0) ≤ v1 → (K s2)) ∧ (¬ (s2.1 50 0) ≤ v1 → (rI s2 51 10 v1 (fun x5 => rI s2 61 10 v1 (fun x6 => rI s2 51 10 x6 (fun x7 => wI s2 k0 ((lay k0).2) x5 x7 (fun s8 => L_X10_copyFirst_2 k0 Q K n2 (v1 + nI 1) s8)))))))
def W_X10_copyFirst (k0 : Nat) (Q : gSt → Prop) (σ : gSt) : Prop := ∃ m2, L_X10_copyFirst_2 k0 Q (fun s10 => Q s10) m2 (nI 0) σ
set_option maxHeartbeats 4000000 in
theorem t_X10_copyFirst {o : gOm} {l : Launch} {b : Bool}   {σ : gSt} (hR : σ.2.2 = gRf b) {k0 : Nat} {Q : gSt → Prop} (hk0 : k0 < 116) (hk00 : (lay k0).1 = 0) (h : W_X10_copyFirst k0 Q σ) : Sp o l mX10_copyFirst 1 0 0 [.ref (ad o 56), .ref (ad o k0)] 116 116 σ (pV (fun s => s.2.2 = gRf b ∧ Q s)) := by
  have hk0y : lay k0 = (0, (lay k0).2) := Prod.ext hk00 rfl
  unfold W_X10_copyFirst at h
  refine Sp.of (ls0 := [some (.ref (ad o 56)), some (.ref (ad o k0)), none]) miX10_copyFirst rfl (Nat.le_of_ble_eq_true rfl) rfl (fun γ hγ hnm X Y => ?_)
  subst hγ
  have X : gX o γ cX10_copyFirst 3 RX10 := X
  refine g_iconst (pc := 0) X dX10_copyFirst_0 kiconst_0 ?_
  refine g_istore_2 (pc := 1) X dX10_copyFirst_1 (by decide) rfl ?_
  obtain ⟨n9, h⟩ := h
  have hL : ∀  (K : gSt → Prop) (_ : ∀  (s3 : gSt), s3.2.2 = gRf b → K s3 → G o γ 0 0 116 s3 44 [some (.ref (ad o 56)), some (.ref (ad o k0)), none] []) (n : Nat) (v1 : Int32) (s2 : gSt), s2.2.2 = gRf b → L_X10_copyFirst_2 k0 Q K n v1 s2 → G o γ 0 0 116 s2 2 [some (.ref (ad o 56)), some (.ref (ad o k0)), some (.int v1)] [] := by
    intro K hK n
    induction n with
    | zero => intro v1 s2 hR h; exact False.elim h
    | succ n ih =>
      intro v1 s2 hR h
      rw [L_X10_copyFirst_2] at h
      refine g_iload_2 (pc := 2) X dX10_copyFirst_2 ?_
      refine g_aload_0 (pc := 3) X dX10_copyFirst_3 ?_
      refine g_getRf (pc := 4) X dX10_copyFirst_4 fl_X10_31 rfl (by decide) rfl hR rfl ?_
      refine g_getI (pc := 7) X dX10_copyFirst_7 rfl (by decide) fl_X10_46 (Or.inl rfl) ?_
      refine g_icmp_ge (pc := 10) X dX10_copyFirst_10 (tgt := 44) (by decide) (fun q4 => ?_) (fun q4 => ?_)
      · replace h := h.1 q4
        exact g_drop (by simp [lsub]) (hK s2 hR h)
      · replace h := h.2 q4
        refine g_aload_1 (pc := 13) X dX10_copyFirst_13 ?_
        refine g_aload_0 (pc := 14) X dX10_copyFirst_14 ?_
        refine g_getRf (pc := 15) X dX10_copyFirst_15 fl_X10_31 rfl (by decide) rfl hR rfl ?_
        refine g_getRf (pc := 18) X dX10_copyFirst_18 fl_X10_126 rfl (by decide) rfl hR rfl ?_
        refine g_iload_2 (pc := 21) X dX10_copyFirst_21 ?_
        refine g_iaload_w (pc := 22) X dX10_copyFirst_22 rfl (by decide) h (fun x5 h => ?_)
        refine g_aload_0 (pc := 23) X dX10_copyFirst_23 ?_
        refine g_getRf (pc := 24) X dX10_copyFirst_24 fl_X10_31 rfl (by decide) rfl hR rfl ?_
        refine g_getRf (pc := 27) X dX10_copyFirst_27 fl_X10_126 rfl (by decide) rfl hR rfl ?_
        refine g_aload_0 (pc := 30) X dX10_copyFirst_30 ?_
        refine g_getRf (pc := 31) X dX10_copyFirst_31 fl_X10_24 rfl (by decide) rfl hR rfl ?_
        refine g_iload_2 (pc := 34) X dX10_copyFirst_34 ?_
        refine g_iaload_w (pc := 35) X dX10_copyFirst_35 rfl (by decide) h (fun x6 h => ?_)
        refine g_iaload_w (pc := 36) X dX10_copyFirst_36 rfl (by decide) h (fun x7 h => ?_)
        refine g_iastore_w (pc := 37) X dX10_copyFirst_37 hk0y hk0 hR h (fun s8 hR h => ?_)
        refine g_iinc_2 (pc := 38) X dX10_copyFirst_38 (v := v1 + nI 1) rfl (by decide) rfl ?_
        refine g_goto (pc := 41) X dX10_copyFirst_41 (tgt := 2) (by decide) ?_
        exact ih (v1 + nI 1) s8 hR h
  refine hL  _ (fun s10 hR h => ?_) n9 (nI 0) σ hR h
  · exact g_return (pc := 44) X Y dX10_copyFirst_44 (Nat.le_of_ble_eq_true rfl) (Nat.le_of_ble_eq_true rfl) ⟨rfl, hR, h⟩
def W_X10_pairBit (p0 : Int32) (p1 : Int32) (Q : Int64 → Prop) (σ : gSt) : Prop := ¬ (nI 2) = 0 ∧ Q (shlL (lN 1) (((p1 * (p1 - (nI 1))) / (nI 2)) + p0))
set_option maxHeartbeats 4000000 in
theorem t_X10_pairBit {o : gOm} {l : Launch} {b : Bool}   {σ : gSt} (hR : σ.2.2 = gRf b) {p0 : Int32} {p1 : Int32} {Q : Int64 → Prop} (h : W_X10_pairBit p0 p1 Q σ) : Sp o l mX10_pairBit 1 0 0 [.int p0, .int p1] 116 116 σ (pL (fun x s => σ = s ∧ Q x)) := by
  unfold W_X10_pairBit at h
  refine Sp.of (ls0 := [some (.int p0), some (.int p1)]) miX10_pairBit rfl (Nat.le_of_ble_eq_true rfl) rfl (fun γ hγ hnm X Y => ?_)
  subst hγ
  have X : gX o γ cX10_pairBit 2 RX10 := X
  refine g_lconst (pc := 0) X dX10_pairBit_0 (v := lN 1) rfl ?_
  refine g_iload_1 (pc := 1) X dX10_pairBit_1 ?_
  refine g_iload_1 (pc := 2) X dX10_pairBit_2 ?_
  refine g_iconst (pc := 3) X dX10_pairBit_3 kiconst_1 ?_
  refine g_isub (pc := 4) X dX10_pairBit_4 ?_
  refine g_imul (pc := 5) X dX10_pairBit_5 ?_
  refine g_iconst (pc := 6) X dX10_pairBit_6 kiconst_2 ?_
  obtain ⟨q, h⟩ := h
  refine g_idiv (pc := 7) X dX10_pairBit_7 q ?_
  refine g_iload_0 (pc := 8) X dX10_pairBit_8 ?_
  refine g_iadd (pc := 9) X dX10_pairBit_9 ?_
  refine g_lshl (pc := 10) X dX10_pairBit_10 ?_
  exact g_lreturn (pc := 11) X Y dX10_pairBit_11 (Nat.le_of_ble_eq_true rfl) (Nat.le_of_ble_eq_true rfl) ⟨_, rfl, rfl, h⟩
def W_X10_togetherness (p0 : Int32) (p1 : Int32) (Q : Int32 → Prop) (σ : gSt) : Prop := W_X5_placeOf p0 (fun x1 => W_X5_placeOf p1 (fun x2 => ((x1 = ((-1 : Int32)) → (Q ((-2 : Int32)))) ∧ (¬ x1 = ((-1 : Int32)) → (((x2 = ((-1 : Int32)) → (Q ((-2 : Int32)))) ∧ (¬ x2 = ((-1 : Int32)) → (W_X10_pairBit (mnI x1 x2) (mxI x1 x2) (fun x5 => ((((σ.2.1 56 14) &&& x5) = (lN 0) → (((((σ.2.1 56 15) &&& x5) = (lN 0) → (Q ((-1 : Int32)))) ∧ (¬ ((σ.2.1 56 15) &&& x5) = (lN 0) → (Q (nI 0)))))) ∧ (¬ ((σ.2.1 56 14) &&& x5) = (lN 0) → (Q (nI 1))))) σ))))))) σ) σ
set_option maxHeartbeats 4000000 in
theorem t_X10_togetherness {o : gOm} {l : Launch} {b : Bool}   {σ : gSt} (hR : σ.2.2 = gRf b) {p0 : Int32} {p1 : Int32} {Q : Int32 → Prop} (h : W_X10_togetherness p0 p1 Q σ) : Sp o l mX10_togetherness 2 0 0 [.ref (ad o 56), .int p0, .int p1] 116 116 σ (pI (fun x s => σ = s ∧ Q x)) := by
  unfold W_X10_togetherness at h
  refine Sp.of (ls0 := [some (.ref (ad o 56)), some (.int p0), some (.int p1), none, none, none, none]) miX10_togetherness rfl (Nat.le_of_ble_eq_true rfl) rfl (fun γ hγ hnm X Y => ?_)
  subst hγ
  have X : gX o γ cX10_togetherness 7 RX10 := X
  refine g_aload_0 (pc := 0) X dX10_togetherness_0 ?_
  refine g_getRf (pc := 1) X dX10_togetherness_1 fl_X10_31 rfl (by decide) rfl hR rfl ?_
  refine g_iload_1 (pc := 4) X dX10_togetherness_4 ?_
  refine g_callV_I (pc := 5) X Y dX10_togetherness_5 miX5_placeOf li_X10_123 (t_X5_placeOf hR  h) rfl (by decide) rfl ⟨_, rfl⟩ rfl ⟨Nat.le_of_ble_eq_true rfl, Nat.le_of_ble_eq_true rfl⟩ (Nat.le_of_ble_eq_true rfl) (Nat.le_of_ble_eq_true rfl) rfl (by exact Nat.le_of_ble_eq_true rfl) (fun x1 σ9 hp => ?_)
  obtain ⟨rfl, h⟩ := hp
  refine g_istore_3 (pc := 8) X dX10_togetherness_8 (by decide) rfl ?_
  refine g_aload_0 (pc := 9) X dX10_togetherness_9 ?_
  refine g_getRf (pc := 10) X dX10_togetherness_10 fl_X10_31 rfl (by decide) rfl hR rfl ?_
  refine g_iload_2 (pc := 13) X dX10_togetherness_13 ?_
  refine g_callV_I (pc := 14) X Y dX10_togetherness_14 miX5_placeOf li_X10_123 (t_X5_placeOf hR  h) rfl (by decide) rfl ⟨_, rfl⟩ rfl ⟨Nat.le_of_ble_eq_true rfl, Nat.le_of_ble_eq_true rfl⟩ (Nat.le_of_ble_eq_true rfl) (Nat.le_of_ble_eq_true rfl) rfl (by exact Nat.le_of_ble_eq_true rfl) (fun x2 σ9 hp => ?_)
  obtain ⟨rfl, h⟩ := hp
  refine g_istore_4 (pc := 17) X dX10_togetherness_17 (by decide) rfl ?_
  refine g_iload_3 (pc := 19) X dX10_togetherness_19 ?_
  refine g_iconst (pc := 20) X dX10_togetherness_20 kiconst_m1 ?_
  refine g_icmp_eq (pc := 21) X dX10_togetherness_21 (tgt := 30) (by decide) (fun q3 => ?_) (fun q3 => ?_)
  · replace h := h.1 q3
    refine g_bipush (pc := 30) X dX10_togetherness_30 kbipush_m2 ?_
    exact g_ireturn (pc := 32) X Y dX10_togetherness_32 (Nat.le_of_ble_eq_true rfl) (Nat.le_of_ble_eq_true rfl) ⟨_, rfl, rfl, h⟩
  · replace h := h.2 q3
    refine g_iload_4 (pc := 24) X dX10_togetherness_24 ?_
    refine g_iconst (pc := 26) X dX10_togetherness_26 kiconst_m1 ?_
    refine g_icmp_ne (pc := 27) X dX10_togetherness_27 (tgt := 33) (by decide) (fun q4 => ?_) (fun q4 => ?_)
    · replace h := h.2 q4
      refine g_iload_3 (pc := 33) X dX10_togetherness_33 ?_
      refine g_iload_4 (pc := 34) X dX10_togetherness_34 ?_
      refine g_mmin_w (pc := 36) X Y dX10_togetherness_36 li_X10_129 (by decide) (Nat.le_refl _) (Nat.le_refl _) (by exact Nat.le_of_ble_eq_true rfl) ?_
      refine g_iload_3 (pc := 39) X dX10_togetherness_39 ?_
      refine g_iload_4 (pc := 40) X dX10_togetherness_40 ?_
      refine g_mmax_w (pc := 42) X Y dX10_togetherness_42 li_X10_112 (by decide) (Nat.le_refl _) (Nat.le_refl _) (by exact Nat.le_of_ble_eq_true rfl) ?_
      refine g_callS_L (pc := 45) X Y dX10_togetherness_45 miX10_pairBit li_X10_132 (t_X10_pairBit hR  h) rfl ⟨Nat.le_of_ble_eq_true rfl, Nat.le_of_ble_eq_true rfl⟩ (Nat.le_of_ble_eq_true rfl) (Nat.le_of_ble_eq_true rfl) rfl (by exact Nat.le_of_ble_eq_true rfl) (fun x5 σ9 hp => ?_)
      obtain ⟨rfl, h⟩ := hp
      refine g_lstore_5 (pc := 48) X dX10_togetherness_48 (by decide) rfl ?_
      refine g_aload_0 (pc := 50) X dX10_togetherness_50 ?_
      refine g_getL (pc := 51) X dX10_togetherness_51 rfl (by decide) fl_X10_66 rfl ?_
      refine g_lload_5 (pc := 54) X dX10_togetherness_54 ?_
      refine g_land (pc := 56) X dX10_togetherness_56 ?_
      refine g_lconst (pc := 57) X dX10_togetherness_57 (v := lN 0) rfl ?_
      refine g_lcmp_eq (pc := 58) X dX10_togetherness_58 dX10_togetherness_59 (tgt := 66) (by decide) (fun q6 => ?_) (fun q6 => ?_)
      · replace h := h.1 q6
        refine g_aload_0 (pc := 66) X dX10_togetherness_66 ?_
        refine g_getL (pc := 67) X dX10_togetherness_67 rfl (by decide) fl_X10_70 rfl ?_
        refine g_lload_5 (pc := 70) X dX10_togetherness_70 ?_
        refine g_land (pc := 72) X dX10_togetherness_72 ?_
        refine g_lconst (pc := 73) X dX10_togetherness_73 (v := lN 0) rfl ?_
        refine g_lcmp_eq (pc := 74) X dX10_togetherness_74 dX10_togetherness_75 (tgt := 82) (by decide) (fun q7 => ?_) (fun q7 => ?_)
        · replace h := h.1 q7
          refine g_iconst (pc := 82) X dX10_togetherness_82 kiconst_m1 ?_
          exact g_ireturn (pc := 83) X Y dX10_togetherness_83 (Nat.le_of_ble_eq_true rfl) (Nat.le_of_ble_eq_true rfl) ⟨_, rfl, rfl, h⟩
        · replace h := h.2 q7
          refine g_iconst (pc := 78) X dX10_togetherness_78 kiconst_0 ?_
          refine g_goto (pc := 79) X dX10_togetherness_79 (tgt := 83) (by decide) ?_
          exact g_ireturn (pc := 83) X Y dX10_togetherness_83 (Nat.le_of_ble_eq_true rfl) (Nat.le_of_ble_eq_true rfl) ⟨_, rfl, rfl, h⟩
      · replace h := h.2 q6
        refine g_iconst (pc := 62) X dX10_togetherness_62 kiconst_1 ?_
        refine g_goto (pc := 63) X dX10_togetherness_63 (tgt := 83) (by decide) ?_
        exact g_ireturn (pc := 83) X Y dX10_togetherness_83 (Nat.le_of_ble_eq_true rfl) (Nat.le_of_ble_eq_true rfl) ⟨_, rfl, rfl, h⟩
    · replace h := h.1 q4
      refine g_bipush (pc := 30) X dX10_togetherness_30 kbipush_m2 ?_
      exact g_ireturn (pc := 32) X Y dX10_togetherness_32 (Nat.le_of_ble_eq_true rfl) (Nat.le_of_ble_eq_true rfl) ⟨_, rfl, rfl, h⟩
def L_X10_freeLeft_11 (Q : Int32 → Prop) (c1 : Int64) (c2 : Int64) (σ : gSt) (K : Int64 → Int64 → Prop) : Nat → Int64 → Int64 → Int32 → Prop
  | 0, _, _, _ => False
  | n11 + 1, v3, v4, v5 => (((σ.1 56 1) ≤ v5 → (K v3 v4)) ∧ (¬ (σ.1 56 1) ≤ v5 → ((((nI 200) ≤ v5 → (K v3 v4)) ∧ (¬ (nI 200) ≤ v5 → (rL σ 62 200 v5 (fun x10 => (((x10 &&& c1) = c2 → (rL σ 62 200 v5 (fun x12 => rL σ 62 200 v5 (fun x13 => L_X10_freeLeft_11 Q c1 c2 σ K n11 (v3 &&& x12) (v4 ||| x13) (v5 + nI 1))))) ∧ (¬ (x10 &&& c1) = c2 → (L_X10_freeLeft_11 Q c1 c2 σ K n11 v3 v4 (v5 + nI 1)))))))))))
def W_X10_freeLeft (p0 : Int64) (p1 : Int64) (Q : Int32 → Prop) (σ : gSt) : Prop := ∃ m11, L_X10_freeLeft_11 Q p0 p1 σ (fun y15 y16 => W_J13_bitCount_95d88 (y16 &&& (y15 ^^^ ((-1 : Int64)))) (fun x17 => Q x17) σ) m11 ((-1 : Int64)) (lN 0) (nI 0)
set_option maxHeartbeats 4000000 in
theorem t_X10_freeLeft {o : gOm} {l : Launch} {b : Bool}   {σ : gSt} (hR : σ.2.2 = gRf b) {p0 : Int64} {p1 : Int64} {Q : Int32 → Prop} (h : W_X10_freeLeft p0 p1 Q σ) : Sp o l mX10_freeLeft 2 0 0 [.ref (ad o 56), .long p0, .long p1] 116 116 σ (pI (fun x s => σ = s ∧ Q x)) := by
  unfold W_X10_freeLeft at h
  refine Sp.of (ls0 := [some (.ref (ad o 56)), some (.long p0), none, some (.long p1), none, none, none, none, none, none]) miX10_freeLeft rfl (Nat.le_of_ble_eq_true rfl) rfl (fun γ hγ hnm X Y => ?_)
  subst hγ
  have X : gX o γ cX10_freeLeft 10 RX10 := X
  refine g_ldc2 (pc := 0) X dX10_freeLeft_0 ct_X10_64 ?_
  refine g_lstore_5 (pc := 3) X dX10_freeLeft_3 (by decide) rfl ?_
  refine g_lconst (pc := 5) X dX10_freeLeft_5 (v := lN 0) rfl ?_
  refine g_lstore_7 (pc := 6) X dX10_freeLeft_6 (by decide) rfl ?_
  refine g_iconst (pc := 8) X dX10_freeLeft_8 kiconst_0 ?_
  refine g_istore_9 (pc := 9) X dX10_freeLeft_9 (by decide) rfl ?_
  obtain ⟨n14, h⟩ := h
  have hL : ∀ (c1 : Int64) (c2 : Int64) (K : Int64 → Int64 → Prop) (_ : ∀ (y6 : Int64) (y7 : Int64), K y6 y7 → G o γ 0 0 116 σ 72 [some (.ref (ad o 56)), some (.long c1), none, some (.long c2), none, some (.long y6), none, some (.long y7), none, none] []) (n : Nat) (v3 : Int64) (v4 : Int64) (v5 : Int32), L_X10_freeLeft_11 Q c1 c2 σ K n v3 v4 v5 → G o γ 0 0 116 σ 11 [some (.ref (ad o 56)), some (.long c1), none, some (.long c2), none, some (.long v3), none, some (.long v4), none, some (.int v5)] [] := by
    intro c1 c2 K hK n
    induction n with
    | zero => intro v3 v4 v5 h; exact False.elim h
    | succ n ih =>
      intro v3 v4 v5 h
      rw [L_X10_freeLeft_11] at h
      refine g_iload_9 (pc := 11) X dX10_freeLeft_11 ?_
      refine g_aload_0 (pc := 13) X dX10_freeLeft_13 ?_
      refine g_getI (pc := 14) X dX10_freeLeft_14 rfl (by decide) fl_X10_61 (Or.inl rfl) ?_
      refine g_icmp_ge (pc := 17) X dX10_freeLeft_17 (tgt := 72) (by decide) (fun q8 => ?_) (fun q8 => ?_)
      · replace h := h.1 q8
        exact g_drop (by simp [lsub]) (hK v3 v4 h)
      · replace h := h.2 q8
        refine g_iload_9 (pc := 20) X dX10_freeLeft_20 ?_
        refine g_sipush (pc := 22) X dX10_freeLeft_22 ksipush_200 ?_
        refine g_icmp_ge (pc := 25) X dX10_freeLeft_25 (tgt := 72) (by decide) (fun q9 => ?_) (fun q9 => ?_)
        · replace h := h.1 q9
          exact g_drop (by simp [lsub]) (hK v3 v4 h)
        · replace h := h.2 q9
          refine g_aload_0 (pc := 28) X dX10_freeLeft_28 ?_
          refine g_getRf (pc := 29) X dX10_freeLeft_29 fl_X10_27 rfl (by decide) rfl hR rfl ?_
          refine g_iload_9 (pc := 32) X dX10_freeLeft_32 ?_
          refine g_laload_w (pc := 34) X dX10_freeLeft_34 rfl (by decide) h (fun x10 h => ?_)
          refine g_lload_1 (pc := 35) X dX10_freeLeft_35 ?_
          refine g_land (pc := 36) X dX10_freeLeft_36 ?_
          refine g_lload_3 (pc := 37) X dX10_freeLeft_37 ?_
          refine g_lcmp_ne (pc := 38) X dX10_freeLeft_38 dX10_freeLeft_39 (tgt := 66) (by decide) (fun q11 => ?_) (fun q11 => ?_)
          · replace h := h.2 q11
            refine g_iinc_9 (pc := 66) X dX10_freeLeft_66 (v := v5 + nI 1) rfl (by decide) rfl ?_
            refine g_goto (pc := 69) X dX10_freeLeft_69 (tgt := 11) (by decide) ?_
            exact ih v3 v4 (v5 + nI 1) h
          · replace h := h.1 q11
            refine g_lload_5 (pc := 42) X dX10_freeLeft_42 ?_
            refine g_aload_0 (pc := 44) X dX10_freeLeft_44 ?_
            refine g_getRf (pc := 45) X dX10_freeLeft_45 fl_X10_27 rfl (by decide) rfl hR rfl ?_
            refine g_iload_9 (pc := 48) X dX10_freeLeft_48 ?_
            refine g_laload_w (pc := 50) X dX10_freeLeft_50 rfl (by decide) h (fun x12 h => ?_)
            refine g_land (pc := 51) X dX10_freeLeft_51 ?_
            refine g_lstore_5 (pc := 52) X dX10_freeLeft_52 (by decide) rfl ?_
            refine g_lload_7 (pc := 54) X dX10_freeLeft_54 ?_
            refine g_aload_0 (pc := 56) X dX10_freeLeft_56 ?_
            refine g_getRf (pc := 57) X dX10_freeLeft_57 fl_X10_27 rfl (by decide) rfl hR rfl ?_
            refine g_iload_9 (pc := 60) X dX10_freeLeft_60 ?_
            refine g_laload_w (pc := 62) X dX10_freeLeft_62 rfl (by decide) h (fun x13 h => ?_)
            refine g_lor (pc := 63) X dX10_freeLeft_63 ?_
            refine g_lstore_7 (pc := 64) X dX10_freeLeft_64 (by decide) rfl ?_
            refine g_iinc_9 (pc := 66) X dX10_freeLeft_66 (v := v5 + nI 1) rfl (by decide) rfl ?_
            refine g_goto (pc := 69) X dX10_freeLeft_69 (tgt := 11) (by decide) ?_
            exact ih (v3 &&& x12) (v4 ||| x13) (v5 + nI 1) h
  refine hL p0 p1 _ (fun y15 y16 h => ?_) n14 ((-1 : Int64)) (lN 0) (nI 0) h
  · refine g_lload_7 (pc := 72) X dX10_freeLeft_72 ?_
    refine g_lload_5 (pc := 74) X dX10_freeLeft_74 ?_
    refine g_ldc2 (pc := 76) X dX10_freeLeft_76 ct_X10_64 ?_
    refine g_lxor (pc := 79) X dX10_freeLeft_79 ?_
    refine g_land (pc := 80) X dX10_freeLeft_80 ?_
    refine g_callS_I (pc := 81) X Y dX10_freeLeft_81 miJ13_bitCount_95d88 li_X10_140 (t_J13_bitCount_95d88 hR  h) rfl ⟨Nat.le_of_ble_eq_true rfl, Nat.le_of_ble_eq_true rfl⟩ (Nat.le_of_ble_eq_true rfl) (Nat.le_of_ble_eq_true rfl) rfl (by exact Nat.le_of_ble_eq_true rfl) (fun x17 σ9 hp => ?_)
    obtain ⟨rfl, h⟩ := hp
    exact g_ireturn (pc := 84) X Y dX10_freeLeft_84 (Nat.le_of_ble_eq_true rfl) (Nat.le_of_ble_eq_true rfl) ⟨_, rfl, rfl, h⟩
def L_X10_question_41 (Q : Int32 → Prop) (c7 : Int64) (c8 : Int32) (σ : gSt) (K : Int32 → Int32 → Prop) : Nat → Int32 → Int32 → Int32 → Prop
  | 0, _, _, _ => False
  | n41 + 1, v9, v10, v11 => (((σ.1 50 0) ≤ v11 → (K v9 v10)) ∧ (¬ (σ.1 50 0) ≤ v11 → (W_X10_pairBit c8 v11 (fun x15 => (((c7 &&& x15) = (lN 0) → (L_X10_question_41 Q c7 c8 σ K n41 v9 v10 (v11 + nI 1))) ∧ (¬ (c7 &&& x15) = (lN 0) → (W_X10_freeLeft x15 x15 (fun x17 => W_X10_freeLeft x15 (lN 0) (fun x18 => ((v9 ≤ (mxI x17 x18) → (L_X10_question_41 Q c7 c8 σ K n41 v9 v10 (v11 + nI 1))) ∧ (¬ v9 ≤ (mxI x17 x18) → (rI σ 51 10 c8 (fun x20 => rI σ 51 10 v11 (fun x21 => L_X10_question_41 Q c7 c8 σ K n41 (mxI x17 x18) (((nI 32) * x20) + x21) (v11 + nI 1))))))) σ) σ)))) σ)))
def L_X10_question_23 (Q : Int32 → Prop) (c1 : Int64) (σ : gSt) (K : Int32 → Prop) : Nat → Int32 → Int32 → Int32 → Prop
  | 0, _, _, _ => False
  | n23 + 1, v2, v3, v4 => (((σ.1 50 0) ≤ v4 → (K v3)) ∧ (¬ (σ.1 50 0) ≤ v4 → (∃ m41, L_X10_question_41 Q c1 v4 σ (fun y23 y24 => L_X10_question_23 Q c1 σ K n23 y23 y24 (v4 + nI 1)) m41 v2 v3 (v4 + (nI 1)))))
def W_X10_question  (Q : Int32 → Prop) (σ : gSt) : Prop := ∃ m23, L_X10_question_23 Q ((σ.2.1 56 15) &&& ((σ.2.1 56 14) ^^^ ((-1 : Int64)))) σ (fun y26 => Q y26) m23 ((1073741823 : Int32)) ((-1 : Int32)) (nI 0)
set_option maxHeartbeats 4000000 in
theorem t_X10_question {o : gOm} {l : Launch} {b : Bool}   {σ : gSt} (hR : σ.2.2 = gRf b)  {Q : Int32 → Prop} (h : W_X10_question  Q σ) : Sp o l mX10_question 3 0 0 [.ref (ad o 56)] 116 116 σ (pI (fun x s => σ = s ∧ Q x)) := by
  unfold W_X10_question at h
  refine Sp.of (ls0 := [some (.ref (ad o 56)), none, none, none, none, none, none, none, none, none]) miX10_question rfl (Nat.le_of_ble_eq_true rfl) rfl (fun γ hγ hnm X Y => ?_)
  subst hγ
  have X : gX o γ cX10_question 10 RX10 := X
  refine g_aload_0 (pc := 0) X dX10_question_0 ?_
  refine g_getL (pc := 1) X dX10_question_1 rfl (by decide) fl_X10_70 rfl ?_
  refine g_aload_0 (pc := 4) X dX10_question_4 ?_
  refine g_getL (pc := 5) X dX10_question_5 rfl (by decide) fl_X10_66 rfl ?_
  refine g_ldc2 (pc := 8) X dX10_question_8 ct_X10_64 ?_
  refine g_lxor (pc := 11) X dX10_question_11 ?_
  refine g_land (pc := 12) X dX10_question_12 ?_
  refine g_lstore_1 (pc := 13) X dX10_question_13 (by decide) rfl ?_
  refine g_ldc (pc := 14) X dX10_question_14 ct_X10_39 ?_
  refine g_istore_3 (pc := 16) X dX10_question_16 (by decide) rfl ?_
  refine g_iconst (pc := 17) X dX10_question_17 kiconst_m1 ?_
  refine g_istore_4 (pc := 18) X dX10_question_18 (by decide) rfl ?_
  refine g_iconst (pc := 20) X dX10_question_20 kiconst_0 ?_
  refine g_istore_5 (pc := 21) X dX10_question_21 (by decide) rfl ?_
  obtain ⟨n25, h⟩ := h
  have hL : ∀ (c1 : Int64) (K : Int32 → Prop) (_ : ∀ (y5 : Int32), K y5 → G o γ 0 0 116 σ 138 [some (.ref (ad o 56)), some (.long c1), none, none, some (.int y5), none, none, none, none, none] []) (n : Nat) (v2 : Int32) (v3 : Int32) (v4 : Int32), L_X10_question_23 Q c1 σ K n v2 v3 v4 → G o γ 0 0 116 σ 23 [some (.ref (ad o 56)), some (.long c1), none, some (.int v2), some (.int v3), some (.int v4), none, none, none, none] [] := by
    intro c1 K hK n
    induction n with
    | zero => intro v2 v3 v4 h; exact False.elim h
    | succ n ih =>
      intro v2 v3 v4 h
      rw [L_X10_question_23] at h
      refine g_iload_5 (pc := 23) X dX10_question_23 ?_
      refine g_aload_0 (pc := 25) X dX10_question_25 ?_
      refine g_getRf (pc := 26) X dX10_question_26 fl_X10_31 rfl (by decide) rfl hR rfl ?_
      refine g_getI (pc := 29) X dX10_question_29 rfl (by decide) fl_X10_46 (Or.inl rfl) ?_
      refine g_icmp_ge (pc := 32) X dX10_question_32 (tgt := 138) (by decide) (fun q6 => ?_) (fun q6 => ?_)
      · replace h := h.1 q6
        exact g_drop (by simp [lsub]) (hK v3 h)
      · replace h := h.2 q6
        refine g_iload_5 (pc := 35) X dX10_question_35 ?_
        refine g_iconst (pc := 37) X dX10_question_37 kiconst_1 ?_
        refine g_iadd (pc := 38) X dX10_question_38 ?_
        refine g_istore_6 (pc := 39) X dX10_question_39 (by decide) rfl ?_
        obtain ⟨n22, h⟩ := h
        have hL : ∀ (c7 : Int64) (c8 : Int32) (K : Int32 → Int32 → Prop) (_ : ∀ (y12 : Int32) (y13 : Int32), K y12 y13 → G o γ 0 0 116 σ 132 [some (.ref (ad o 56)), some (.long c7), none, some (.int y12), some (.int y13), some (.int c8), none, none, none, none] []) (n : Nat) (v9 : Int32) (v10 : Int32) (v11 : Int32), L_X10_question_41 Q c7 c8 σ K n v9 v10 v11 → G o γ 0 0 116 σ 41 [some (.ref (ad o 56)), some (.long c7), none, some (.int v9), some (.int v10), some (.int c8), some (.int v11), none, none, none] [] := by
          intro c7 c8 K hK n
          induction n with
          | zero => intro v9 v10 v11 h; exact False.elim h
          | succ n ih =>
            intro v9 v10 v11 h
            rw [L_X10_question_41] at h
            refine g_iload_6 (pc := 41) X dX10_question_41 ?_
            refine g_aload_0 (pc := 43) X dX10_question_43 ?_
            refine g_getRf (pc := 44) X dX10_question_44 fl_X10_31 rfl (by decide) rfl hR rfl ?_
            refine g_getI (pc := 47) X dX10_question_47 rfl (by decide) fl_X10_46 (Or.inl rfl) ?_
            refine g_icmp_ge (pc := 50) X dX10_question_50 (tgt := 132) (by decide) (fun q14 => ?_) (fun q14 => ?_)
            · replace h := h.1 q14
              exact g_drop (by simp [lsub]) (hK v9 v10 h)
            · replace h := h.2 q14
              refine g_iload_5 (pc := 53) X dX10_question_53 ?_
              refine g_iload_6 (pc := 55) X dX10_question_55 ?_
              refine g_callS_L (pc := 57) X Y dX10_question_57 miX10_pairBit li_X10_132 (t_X10_pairBit hR  h) rfl ⟨Nat.le_of_ble_eq_true rfl, Nat.le_of_ble_eq_true rfl⟩ (Nat.le_of_ble_eq_true rfl) (Nat.le_of_ble_eq_true rfl) rfl (by exact Nat.le_of_ble_eq_true rfl) (fun x15 σ9 hp => ?_)
              obtain ⟨rfl, h⟩ := hp
              refine g_lstore_7 (pc := 60) X dX10_question_60 (by decide) rfl ?_
              refine g_lload_1 (pc := 62) X dX10_question_62 ?_
              refine g_lload_7 (pc := 63) X dX10_question_63 ?_
              refine g_land (pc := 65) X dX10_question_65 ?_
              refine g_lconst (pc := 66) X dX10_question_66 (v := lN 0) rfl ?_
              refine g_lcmp_eq (pc := 67) X dX10_question_67 dX10_question_68 (tgt := 126) (by decide) (fun q16 => ?_) (fun q16 => ?_)
              · replace h := h.1 q16
                refine g_iinc_6 (pc := 126) X dX10_question_126 (v := v11 + nI 1) rfl (by decide) rfl ?_
                refine g_goto (pc := 129) X dX10_question_129 (tgt := 41) (by decide) ?_
                exact g_drop (by simp [lsub]) (ih v9 v10 (v11 + nI 1) h)
              · replace h := h.2 q16
                refine g_aload_0 (pc := 71) X dX10_question_71 ?_
                refine g_lload_7 (pc := 72) X dX10_question_72 ?_
                refine g_lload_7 (pc := 74) X dX10_question_74 ?_
                refine g_callV_I (pc := 76) X Y dX10_question_76 miX10_freeLeft li_X10_136 (t_X10_freeLeft hR  h) rfl (by decide) rfl ⟨_, rfl⟩ rfl ⟨Nat.le_of_ble_eq_true rfl, Nat.le_of_ble_eq_true rfl⟩ (Nat.le_of_ble_eq_true rfl) (Nat.le_of_ble_eq_true rfl) rfl (by exact Nat.le_of_ble_eq_true rfl) (fun x17 σ9 hp => ?_)
                obtain ⟨rfl, h⟩ := hp
                refine g_aload_0 (pc := 79) X dX10_question_79 ?_
                refine g_lload_7 (pc := 80) X dX10_question_80 ?_
                refine g_lconst (pc := 82) X dX10_question_82 (v := lN 0) rfl ?_
                refine g_callV_I (pc := 83) X Y dX10_question_83 miX10_freeLeft li_X10_136 (t_X10_freeLeft hR  h) rfl (by decide) rfl ⟨_, rfl⟩ rfl ⟨Nat.le_of_ble_eq_true rfl, Nat.le_of_ble_eq_true rfl⟩ (Nat.le_of_ble_eq_true rfl) (Nat.le_of_ble_eq_true rfl) rfl (by exact Nat.le_of_ble_eq_true rfl) (fun x18 σ9 hp => ?_)
                obtain ⟨rfl, h⟩ := hp
                refine g_mmax_w (pc := 86) X Y dX10_question_86 li_X10_112 (by decide) (Nat.le_refl _) (Nat.le_refl _) (by exact Nat.le_of_ble_eq_true rfl) ?_
                refine g_istore_9 (pc := 89) X dX10_question_89 (by decide) rfl ?_
                refine g_iload_9 (pc := 91) X dX10_question_91 ?_
                refine g_iload_3 (pc := 93) X dX10_question_93 ?_
                refine g_icmp_ge (pc := 94) X dX10_question_94 (tgt := 126) (by decide) (fun q19 => ?_) (fun q19 => ?_)
                · replace h := h.1 q19
                  refine g_iinc_6 (pc := 126) X dX10_question_126 (v := v11 + nI 1) rfl (by decide) rfl ?_
                  refine g_goto (pc := 129) X dX10_question_129 (tgt := 41) (by decide) ?_
                  exact g_drop (by simp [lsub]) (ih v9 v10 (v11 + nI 1) h)
                · replace h := h.2 q19
                  refine g_iload_9 (pc := 97) X dX10_question_97 ?_
                  refine g_istore_3 (pc := 99) X dX10_question_99 (by decide) rfl ?_
                  refine g_bipush (pc := 100) X dX10_question_100 kbipush_32 ?_
                  refine g_aload_0 (pc := 102) X dX10_question_102 ?_
                  refine g_getRf (pc := 103) X dX10_question_103 fl_X10_31 rfl (by decide) rfl hR rfl ?_
                  refine g_getRf (pc := 106) X dX10_question_106 fl_X10_126 rfl (by decide) rfl hR rfl ?_
                  refine g_iload_5 (pc := 109) X dX10_question_109 ?_
                  refine g_iaload_w (pc := 111) X dX10_question_111 rfl (by decide) h (fun x20 h => ?_)
                  refine g_imul (pc := 112) X dX10_question_112 ?_
                  refine g_aload_0 (pc := 113) X dX10_question_113 ?_
                  refine g_getRf (pc := 114) X dX10_question_114 fl_X10_31 rfl (by decide) rfl hR rfl ?_
                  refine g_getRf (pc := 117) X dX10_question_117 fl_X10_126 rfl (by decide) rfl hR rfl ?_
                  refine g_iload_6 (pc := 120) X dX10_question_120 ?_
                  refine g_iaload_w (pc := 122) X dX10_question_122 rfl (by decide) h (fun x21 h => ?_)
                  refine g_iadd (pc := 123) X dX10_question_123 ?_
                  refine g_istore_4 (pc := 124) X dX10_question_124 (by decide) rfl ?_
                  refine g_iinc_6 (pc := 126) X dX10_question_126 (v := v11 + nI 1) rfl (by decide) rfl ?_
                  refine g_goto (pc := 129) X dX10_question_129 (tgt := 41) (by decide) ?_
                  exact g_drop (by simp [lsub]) (ih (mxI x17 x18) (((nI 32) * x20) + x21) (v11 + nI 1) h)
        refine hL c1 v4 _ (fun y23 y24 h => ?_) n22 v2 v3 (v4 + (nI 1)) h
        · refine g_iinc_5 (pc := 132) X dX10_question_132 (v := v4 + nI 1) rfl (by decide) rfl ?_
          refine g_goto (pc := 135) X dX10_question_135 (tgt := 23) (by decide) ?_
          exact ih y23 y24 (v4 + nI 1) h
  refine hL ((σ.2.1 56 15) &&& ((σ.2.1 56 14) ^^^ ((-1 : Int64)))) _ (fun y26 h => ?_) n25 ((1073741823 : Int32)) ((-1 : Int32)) (nI 0) h
  · refine g_iload_4 (pc := 138) X dX10_question_138 ?_
    exact g_ireturn (pc := 140) X Y dX10_question_140 (Nat.le_of_ble_eq_true rfl) (Nat.le_of_ble_eq_true rfl) ⟨_, rfl, rfl, h⟩
