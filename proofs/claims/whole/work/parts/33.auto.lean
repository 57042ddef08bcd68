def ushr (x y : Int32) : Int32 := (x.toUInt32 >>> (y.toUInt32 &&& Int32.toUInt32 31)).toInt32
def shlL (x : Int64) (y : Int32) : Int64 := x <<< (y.toInt64 &&& 63)
def shrL (x : Int64) (y : Int32) : Int64 := x >>> (y.toInt64 &&& 63)
def ushrL (x : Int64) (y : Int32) : Int64 := (x.toUInt64 >>> (y.toInt64.toUInt64 &&& 63)).toInt64
abbrev i2l (x : Int32) : Int64 := x.toInt64
abbrev l2i (x : Int64) : Int32 := x.toInt32
def W_J6_numberOfTrailingZeros_0f7a4 (p0 : Int32) (Q : Int32 → Prop) (σ : gSt) : Prop := ((0 < ((p0 ^^^ ((-1 : Int32))) &&& (p0 - (nI 1))) → (∀ J4 : Int32 → Int32 → Prop, (∀ x2 x3, (∀ J7 : Int32 → Int32 → Prop, (∀ x5 x6, (∀ J10 : Int32 → Int32 → Prop, (∀ x8 x9, (∀ J13 : Int32 → Int32 → Prop, (∀ x11 x12, (Q (x12 + (ushr x11 (nI 1)))) → J13 x11 x12) → ((x8 ≤ (nI 4) → (J13 x8 x9)) ∧ (¬ x8 ≤ (nI 4) → (J13 (ushr x8 (nI 2)) (x9 + nI 2))))) → J10 x8 x9) → ((x5 ≤ (nI 16) → (J10 x5 x6)) ∧ (¬ x5 ≤ (nI 16) → (J10 (ushr x5 (nI 4)) (x6 + nI 4))))) → J7 x5 x6) → ((x2 ≤ (nI 256) → (J7 x2 x3)) ∧ (¬ x2 ≤ (nI 256) → (J7 (ushr x2 (nI 8)) (x3 + nI 8))))) → J4 x2 x3) → ((((p0 ^^^ ((-1 : Int32))) &&& (p0 - (nI 1))) ≤ ((65536 : Int32)) → (J4 ((p0 ^^^ ((-1 : Int32))) &&& (p0 - (nI 1))) (nI 1))) ∧ (¬ ((p0 ^^^ ((-1 : Int32))) &&& (p0 - (nI 1))) ≤ ((65536 : Int32)) → (J4 (ushr ((p0 ^^^ ((-1 : Int32))) &&& (p0 - (nI 1))) (nI 16)) ((nI 1) + nI 16)))))) ∧ (¬ 0 < ((p0 ^^^ ((-1 : Int32))) &&& (p0 - (nI 1))) → (Q (((p0 ^^^ ((-1 : Int32))) &&& (p0 - (nI 1))) &&& (nI 32)))))
set_option maxHeartbeats 4000000 in
theorem t_J6_numberOfTrailingZeros_0f7a4 {o : gOm} {l : Launch} {b : Bool}   {σ : gSt} (hR : σ.2.2 = gRf b) {p0 : Int32} {Q : Int32 → Prop} (h : W_J6_numberOfTrailingZeros_0f7a4 p0 Q σ) : Sp o l mJ6_numberOfTrailingZeros_0f7a4 1 0 0 [.int p0] 116 116 σ (pI (fun x s => σ = s ∧ Q x)) := by
  unfold W_J6_numberOfTrailingZeros_0f7a4 at h
  refine Sp.of (ls0 := [some (.int p0), none]) miJ6_numberOfTrailingZeros_0f7a4 rfl (Nat.le_of_ble_eq_true rfl) rfl (fun γ hγ hnm X Y => ?_)
  subst hγ
  have X : gX o γ cJ6_numberOfTrailingZeros_0f7a4 2 RJ6 := X
  refine g_iload_0 (pc := 0) X dJ6_numberOfTrailingZeros_0f7a4_0 ?_
  refine g_iconst (pc := 1) X dJ6_numberOfTrailingZeros_0f7a4_1 kiconst_m1 ?_
  refine g_ixor (pc := 2) X dJ6_numberOfTrailingZeros_0f7a4_2 ?_
  refine g_iload_0 (pc := 3) X dJ6_numberOfTrailingZeros_0f7a4_3 ?_
  refine g_iconst (pc := 4) X dJ6_numberOfTrailingZeros_0f7a4_4 kiconst_1 ?_
  refine g_isub (pc := 5) X dJ6_numberOfTrailingZeros_0f7a4_5 ?_
  refine g_iand (pc := 6) X dJ6_numberOfTrailingZeros_0f7a4_6 ?_
  refine g_istore_0 (pc := 7) X dJ6_numberOfTrailingZeros_0f7a4_7 (by decide) ?_
  refine g_iload_0 (pc := 8) X dJ6_numberOfTrailingZeros_0f7a4_8 ?_
  refine g_if_gt (pc := 9) X dJ6_numberOfTrailingZeros_0f7a4_9 (tgt := 17) (by decide) (fun q1 => ?_) (fun q1 => ?_)
  · replace h := h.1 q1
    refine g_iconst (pc := 17) X dJ6_numberOfTrailingZeros_0f7a4_17 kiconst_1 ?_
    refine g_istore_1 (pc := 18) X dJ6_numberOfTrailingZeros_0f7a4_18 (by decide) rfl ?_
    refine g_iload_0 (pc := 19) X dJ6_numberOfTrailingZeros_0f7a4_19 ?_
    refine g_ldcw (pc := 20) X dJ6_numberOfTrailingZeros_0f7a4_20 ct_J6_264 ?_
    replace h := h (fun x2 x3 => G o γ 0 0 116 σ 34 [some (.int x2), some (.int x3)] []) (by
        intro x2 x3 h
        refine g_iload_0 (pc := 34) X dJ6_numberOfTrailingZeros_0f7a4_34 ?_
        refine g_sipush (pc := 35) X dJ6_numberOfTrailingZeros_0f7a4_35 ksipush_256 ?_
        replace h := h (fun x5 x6 => G o γ 0 0 116 σ 49 [some (.int x5), some (.int x6)] []) (by
            intro x5 x6 h
            refine g_iload_0 (pc := 49) X dJ6_numberOfTrailingZeros_0f7a4_49 ?_
            refine g_bipush (pc := 50) X dJ6_numberOfTrailingZeros_0f7a4_50 kbipush_16 ?_
            replace h := h (fun x8 x9 => G o γ 0 0 116 σ 62 [some (.int x8), some (.int x9)] []) (by
                intro x8 x9 h
                refine g_iload_0 (pc := 62) X dJ6_numberOfTrailingZeros_0f7a4_62 ?_
                refine g_iconst (pc := 63) X dJ6_numberOfTrailingZeros_0f7a4_63 kiconst_4 ?_
                replace h := h (fun x11 x12 => G o γ 0 0 116 σ 74 [some (.int x11), some (.int x12)] []) (by
                    intro x11 x12 h
                    refine g_iload_1 (pc := 74) X dJ6_numberOfTrailingZeros_0f7a4_74 ?_
                    refine g_iload_0 (pc := 75) X dJ6_numberOfTrailingZeros_0f7a4_75 ?_
                    refine g_iconst (pc := 76) X dJ6_numberOfTrailingZeros_0f7a4_76 kiconst_1 ?_
                    refine g_iushr (pc := 77) X dJ6_numberOfTrailingZeros_0f7a4_77 ?_
                    refine g_iadd (pc := 78) X dJ6_numberOfTrailingZeros_0f7a4_78 ?_
                    exact g_ireturn (pc := 79) X Y dJ6_numberOfTrailingZeros_0f7a4_79 (Nat.le_of_ble_eq_true rfl) (Nat.le_of_ble_eq_true rfl) ⟨_, rfl, rfl, h⟩)
                refine g_icmp_le (pc := 64) X dJ6_numberOfTrailingZeros_0f7a4_64 (tgt := 74) (by decide) (fun q14 => ?_) (fun q14 => ?_)
                · replace h := h.1 q14
                  exact h
                · replace h := h.2 q14
                  refine g_iinc_1 (pc := 67) X dJ6_numberOfTrailingZeros_0f7a4_67 (v := x9 + nI 2) rfl (by decide) rfl ?_
                  refine g_iload_0 (pc := 70) X dJ6_numberOfTrailingZeros_0f7a4_70 ?_
                  refine g_iconst (pc := 71) X dJ6_numberOfTrailingZeros_0f7a4_71 kiconst_2 ?_
                  refine g_iushr (pc := 72) X dJ6_numberOfTrailingZeros_0f7a4_72 ?_
                  refine g_istore_0 (pc := 73) X dJ6_numberOfTrailingZeros_0f7a4_73 (by decide) ?_
                  exact h)
            refine g_icmp_le (pc := 52) X dJ6_numberOfTrailingZeros_0f7a4_52 (tgt := 62) (by decide) (fun q15 => ?_) (fun q15 => ?_)
            · replace h := h.1 q15
              exact h
            · replace h := h.2 q15
              refine g_iinc_1 (pc := 55) X dJ6_numberOfTrailingZeros_0f7a4_55 (v := x6 + nI 4) rfl (by decide) rfl ?_
              refine g_iload_0 (pc := 58) X dJ6_numberOfTrailingZeros_0f7a4_58 ?_
              refine g_iconst (pc := 59) X dJ6_numberOfTrailingZeros_0f7a4_59 kiconst_4 ?_
              refine g_iushr (pc := 60) X dJ6_numberOfTrailingZeros_0f7a4_60 ?_
              refine g_istore_0 (pc := 61) X dJ6_numberOfTrailingZeros_0f7a4_61 (by decide) ?_
              exact h)
        refine g_icmp_le (pc := 38) X dJ6_numberOfTrailingZeros_0f7a4_38 (tgt := 49) (by decide) (fun q16 => ?_) (fun q16 => ?_)
        · replace h := h.1 q16
          exact h
        · replace h := h.2 q16
          refine g_iinc_1 (pc := 41) X dJ6_numberOfTrailingZeros_0f7a4_41 (v := x3 + nI 8) rfl (by decide) rfl ?_
          refine g_iload_0 (pc := 44) X dJ6_numberOfTrailingZeros_0f7a4_44 ?_
          refine g_bipush (pc := 45) X dJ6_numberOfTrailingZeros_0f7a4_45 kbipush_8 ?_
          refine g_iushr (pc := 47) X dJ6_numberOfTrailingZeros_0f7a4_47 ?_
          refine g_istore_0 (pc := 48) X dJ6_numberOfTrailingZeros_0f7a4_48 (by decide) ?_
          exact h)
    refine g_icmp_le (pc := 23) X dJ6_numberOfTrailingZeros_0f7a4_23 (tgt := 34) (by decide) (fun q17 => ?_) (fun q17 => ?_)
    · replace h := h.1 q17
      exact h
    · replace h := h.2 q17
      refine g_iinc_1 (pc := 26) X dJ6_numberOfTrailingZeros_0f7a4_26 (v := (nI 1) + nI 16) rfl (by decide) rfl ?_
      refine g_iload_0 (pc := 29) X dJ6_numberOfTrailingZeros_0f7a4_29 ?_
      refine g_bipush (pc := 30) X dJ6_numberOfTrailingZeros_0f7a4_30 kbipush_16 ?_
      refine g_iushr (pc := 32) X dJ6_numberOfTrailingZeros_0f7a4_32 ?_
      refine g_istore_0 (pc := 33) X dJ6_numberOfTrailingZeros_0f7a4_33 (by decide) ?_
      exact h
  · replace h := h.2 q1
    refine g_iload_0 (pc := 12) X dJ6_numberOfTrailingZeros_0f7a4_12 ?_
    refine g_bipush (pc := 13) X dJ6_numberOfTrailingZeros_0f7a4_13 kbipush_32 ?_
    refine g_iand (pc := 15) X dJ6_numberOfTrailingZeros_0f7a4_15 ?_
    exact g_ireturn (pc := 16) X Y dJ6_numberOfTrailingZeros_0f7a4_16 (Nat.le_of_ble_eq_true rfl) (Nat.le_of_ble_eq_true rfl) ⟨_, rfl, rfl, h⟩
def W_J6_bitCount_0f7a4 (p0 : Int32) (Q : Int32 → Prop) (σ : gSt) : Prop := Q ((((((((p0 - ((ushr p0 (nI 1)) &&& ((1431655765 : Int32)))) &&& ((858993459 : Int32))) + ((ushr (p0 - ((ushr p0 (nI 1)) &&& ((1431655765 : Int32)))) (nI 2)) &&& ((858993459 : Int32)))) + (ushr (((p0 - ((ushr p0 (nI 1)) &&& ((1431655765 : Int32)))) &&& ((858993459 : Int32))) + ((ushr (p0 - ((ushr p0 (nI 1)) &&& ((1431655765 : Int32)))) (nI 2)) &&& ((858993459 : Int32)))) (nI 4))) &&& ((252645135 : Int32))) + (ushr (((((p0 - ((ushr p0 (nI 1)) &&& ((1431655765 : Int32)))) &&& ((858993459 : Int32))) + ((ushr (p0 - ((ushr p0 (nI 1)) &&& ((1431655765 : Int32)))) (nI 2)) &&& ((858993459 : Int32)))) + (ushr (((p0 - ((ushr p0 (nI 1)) &&& ((1431655765 : Int32)))) &&& ((858993459 : Int32))) + ((ushr (p0 - ((ushr p0 (nI 1)) &&& ((1431655765 : Int32)))) (nI 2)) &&& ((858993459 : Int32)))) (nI 4))) &&& ((252645135 : Int32))) (nI 8))) + (ushr ((((((p0 - ((ushr p0 (nI 1)) &&& ((1431655765 : Int32)))) &&& ((858993459 : Int32))) + ((ushr (p0 - ((ushr p0 (nI 1)) &&& ((1431655765 : Int32)))) (nI 2)) &&& ((858993459 : Int32)))) + (ushr (((p0 - ((ushr p0 (nI 1)) &&& ((1431655765 : Int32)))) &&& ((858993459 : Int32))) + ((ushr (p0 - ((ushr p0 (nI 1)) &&& ((1431655765 : Int32)))) (nI 2)) &&& ((858993459 : Int32)))) (nI 4))) &&& ((252645135 : Int32))) + (ushr (((((p0 - ((ushr p0 (nI 1)) &&& ((1431655765 : Int32)))) &&& ((858993459 : Int32))) + ((ushr (p0 - ((ushr p0 (nI 1)) &&& ((1431655765 : Int32)))) (nI 2)) &&& ((858993459 : Int32)))) + (ushr (((p0 - ((ushr p0 (nI 1)) &&& ((1431655765 : Int32)))) &&& ((858993459 : Int32))) + ((ushr (p0 - ((ushr p0 (nI 1)) &&& ((1431655765 : Int32)))) (nI 2)) &&& ((858993459 : Int32)))) (nI 4))) &&& ((252645135 : Int32))) (nI 8))) (nI 16))) &&& (nI 63))
set_option maxHeartbeats 4000000 in
theorem t_J6_bitCount_0f7a4 {o : gOm} {l : Launch} {b : Bool}   {σ : gSt} (hR : σ.2.2 = gRf b) {p0 : Int32} {Q : Int32 → Prop} (h : W_J6_bitCount_0f7a4 p0 Q σ) : Sp o l mJ6_bitCount_0f7a4 1 0 0 [.int p0] 116 116 σ (pI (fun x s => σ = s ∧ Q x)) := by
  unfold W_J6_bitCount_0f7a4 at h
  refine Sp.of (ls0 := [some (.int p0)]) miJ6_bitCount_0f7a4 rfl (Nat.le_of_ble_eq_true rfl) rfl (fun γ hγ hnm X Y => ?_)
  subst hγ
  have X : gX o γ cJ6_bitCount_0f7a4 1 RJ6 := X
  refine g_iload_0 (pc := 0) X dJ6_bitCount_0f7a4_0 ?_
  refine g_iload_0 (pc := 1) X dJ6_bitCount_0f7a4_1 ?_
  refine g_iconst (pc := 2) X dJ6_bitCount_0f7a4_2 kiconst_1 ?_
  refine g_iushr (pc := 3) X dJ6_bitCount_0f7a4_3 ?_
  refine g_ldcw (pc := 4) X dJ6_bitCount_0f7a4_4 ct_J6_265 ?_
  refine g_iand (pc := 7) X dJ6_bitCount_0f7a4_7 ?_
  refine g_isub (pc := 8) X dJ6_bitCount_0f7a4_8 ?_
  refine g_istore_0 (pc := 9) X dJ6_bitCount_0f7a4_9 (by decide) ?_
  refine g_iload_0 (pc := 10) X dJ6_bitCount_0f7a4_10 ?_
  refine g_ldcw (pc := 11) X dJ6_bitCount_0f7a4_11 ct_J6_266 ?_
  refine g_iand (pc := 14) X dJ6_bitCount_0f7a4_14 ?_
  refine g_iload_0 (pc := 15) X dJ6_bitCount_0f7a4_15 ?_
  refine g_iconst (pc := 16) X dJ6_bitCount_0f7a4_16 kiconst_2 ?_
  refine g_iushr (pc := 17) X dJ6_bitCount_0f7a4_17 ?_
  refine g_ldcw (pc := 18) X dJ6_bitCount_0f7a4_18 ct_J6_266 ?_
  refine g_iand (pc := 21) X dJ6_bitCount_0f7a4_21 ?_
  refine g_iadd (pc := 22) X dJ6_bitCount_0f7a4_22 ?_
  refine g_istore_0 (pc := 23) X dJ6_bitCount_0f7a4_23 (by decide) ?_
  refine g_iload_0 (pc := 24) X dJ6_bitCount_0f7a4_24 ?_
  refine g_iload_0 (pc := 25) X dJ6_bitCount_0f7a4_25 ?_
  refine g_iconst (pc := 26) X dJ6_bitCount_0f7a4_26 kiconst_4 ?_
  refine g_iushr (pc := 27) X dJ6_bitCount_0f7a4_27 ?_
  refine g_iadd (pc := 28) X dJ6_bitCount_0f7a4_28 ?_
  refine g_ldcw (pc := 29) X dJ6_bitCount_0f7a4_29 ct_J6_267 ?_
  refine g_iand (pc := 32) X dJ6_bitCount_0f7a4_32 ?_
  refine g_istore_0 (pc := 33) X dJ6_bitCount_0f7a4_33 (by decide) ?_
  refine g_iload_0 (pc := 34) X dJ6_bitCount_0f7a4_34 ?_
  refine g_iload_0 (pc := 35) X dJ6_bitCount_0f7a4_35 ?_
  refine g_bipush (pc := 36) X dJ6_bitCount_0f7a4_36 kbipush_8 ?_
  refine g_iushr (pc := 38) X dJ6_bitCount_0f7a4_38 ?_
  refine g_iadd (pc := 39) X dJ6_bitCount_0f7a4_39 ?_
  refine g_istore_0 (pc := 40) X dJ6_bitCount_0f7a4_40 (by decide) ?_
  refine g_iload_0 (pc := 41) X dJ6_bitCount_0f7a4_41 ?_
  refine g_iload_0 (pc := 42) X dJ6_bitCount_0f7a4_42 ?_
  refine g_bipush (pc := 43) X dJ6_bitCount_0f7a4_43 kbipush_16 ?_
  refine g_iushr (pc := 45) X dJ6_bitCount_0f7a4_45 ?_
  refine g_iadd (pc := 46) X dJ6_bitCount_0f7a4_46 ?_
  refine g_istore_0 (pc := 47) X dJ6_bitCount_0f7a4_47 (by decide) ?_
  refine g_iload_0 (pc := 48) X dJ6_bitCount_0f7a4_48 ?_
  refine g_bipush (pc := 49) X dJ6_bitCount_0f7a4_49 kbipush_63 ?_
  refine g_iand (pc := 51) X dJ6_bitCount_0f7a4_51 ?_
  exact g_ireturn (pc := 52) X Y dJ6_bitCount_0f7a4_52 (Nat.le_of_ble_eq_true rfl) (Nat.le_of_ble_eq_true rfl) ⟨_, rfl, rfl, h⟩
def W_J13_bitCount_95d88 (p0 : Int64) (Q : Int32 → Prop) (σ : gSt) : Prop := Q ((l2i ((((((((p0 - ((ushrL p0 (nI 1)) &&& ((6148914691236517205 : Int64)))) &&& ((3689348814741910323 : Int64))) + ((ushrL (p0 - ((ushrL p0 (nI 1)) &&& ((6148914691236517205 : Int64)))) (nI 2)) &&& ((3689348814741910323 : Int64)))) + (ushrL (((p0 - ((ushrL p0 (nI 1)) &&& ((6148914691236517205 : Int64)))) &&& ((3689348814741910323 : Int64))) + ((ushrL (p0 - ((ushrL p0 (nI 1)) &&& ((6148914691236517205 : Int64)))) (nI 2)) &&& ((3689348814741910323 : Int64)))) (nI 4))) &&& ((1085102592571150095 : Int64))) + (ushrL (((((p0 - ((ushrL p0 (nI 1)) &&& ((6148914691236517205 : Int64)))) &&& ((3689348814741910323 : Int64))) + ((ushrL (p0 - ((ushrL p0 (nI 1)) &&& ((6148914691236517205 : Int64)))) (nI 2)) &&& ((3689348814741910323 : Int64)))) + (ushrL (((p0 - ((ushrL p0 (nI 1)) &&& ((6148914691236517205 : Int64)))) &&& ((3689348814741910323 : Int64))) + ((ushrL (p0 - ((ushrL p0 (nI 1)) &&& ((6148914691236517205 : Int64)))) (nI 2)) &&& ((3689348814741910323 : Int64)))) (nI 4))) &&& ((1085102592571150095 : Int64))) (nI 8))) + (ushrL ((((((p0 - ((ushrL p0 (nI 1)) &&& ((6148914691236517205 : Int64)))) &&& ((3689348814741910323 : Int64))) + ((ushrL (p0 - ((ushrL p0 (nI 1)) &&& ((6148914691236517205 : Int64)))) (nI 2)) &&& ((3689348814741910323 : Int64)))) + (ushrL (((p0 - ((ushrL p0 (nI 1)) &&& ((6148914691236517205 : Int64)))) &&& ((3689348814741910323 : Int64))) + ((ushrL (p0 - ((ushrL p0 (nI 1)) &&& ((6148914691236517205 : Int64)))) (nI 2)) &&& ((3689348814741910323 : Int64)))) (nI 4))) &&& ((1085102592571150095 : Int64))) + (ushrL (((((p0 - ((ushrL p0 (nI 1)) &&& ((6148914691236517205 : Int64)))) &&& ((3689348814741910323 : Int64))) + ((ushrL (p0 - ((ushrL p0 (nI 1)) &&& ((6148914691236517205 : Int64)))) (nI 2)) &&& ((3689348814741910323 : Int64)))) + (ushrL (((p0 - ((ushrL p0 (nI 1)) &&& ((6148914691236517205 : Int64)))) &&& ((3689348814741910323 : Int64))) + ((ushrL (p0 - ((ushrL p0 (nI 1)) &&& ((6148914691236517205 : Int64)))) (nI 2)) &&& ((3689348814741910323 : Int64)))) (nI 4))) &&& ((1085102592571150095 : Int64))) (nI 8))) (nI 16))) + (ushrL (((((((p0 - ((ushrL p0 (nI 1)) &&& ((6148914691236517205 : Int64)))) &&& ((3689348814741910323 : Int64))) + ((ushrL (p0 - ((ushrL p0 (nI 1)) &&& ((6148914691236517205 : Int64)))) (nI 2)) &&& ((3689348814741910323 : Int64)))) + (ushrL (((p0 - ((ushrL p0 (nI 1)) &&& ((6148914691236517205 : Int64)))) &&& ((3689348814741910323 : Int64))) + ((ushrL (p0 - ((ushrL p0 (nI 1)) &&& ((6148914691236517205 : Int64)))) (nI 2)) &&& ((3689348814741910323 : Int64)))) (nI 4))) &&& ((1085102592571150095 : Int64))) + (ushrL (((((p0 - ((ushrL p0 (nI 1)) &&& ((6148914691236517205 : Int64)))) &&& ((3689348814741910323 : Int64))) + ((ushrL (p0 - ((ushrL p0 (nI 1)) &&& ((6148914691236517205 : Int64)))) (nI 2)) &&& ((3689348814741910323 : Int64)))) + (ushrL (((p0 - ((ushrL p0 (nI 1)) &&& ((6148914691236517205 : Int64)))) &&& ((3689348814741910323 : Int64))) + ((ushrL (p0 - ((ushrL p0 (nI 1)) &&& ((6148914691236517205 : Int64)))) (nI 2)) &&& ((3689348814741910323 : Int64)))) (nI 4))) &&& ((1085102592571150095 : Int64))) (nI 8))) + (ushrL ((((((p0 - ((ushrL p0 (nI 1)) &&& ((6148914691236517205 : Int64)))) &&& ((3689348814741910323 : Int64))) + ((ushrL (p0 - ((ushrL p0 (nI 1)) &&& ((6148914691236517205 : Int64)))) (nI 2)) &&& ((3689348814741910323 : Int64)))) + (ushrL (((p0 - ((ushrL p0 (nI 1)) &&& ((6148914691236517205 : Int64)))) &&& ((3689348814741910323 : Int64))) + ((ushrL (p0 - ((ushrL p0 (nI 1)) &&& ((6148914691236517205 : Int64)))) (nI 2)) &&& ((3689348814741910323 : Int64)))) (nI 4))) &&& ((1085102592571150095 : Int64))) + (ushrL (((((p0 - ((ushrL p0 (nI 1)) &&& ((6148914691236517205 : Int64)))) &&& ((3689348814741910323 : Int64))) + ((ushrL (p0 - ((ushrL p0 (nI 1)) &&& ((6148914691236517205 : Int64)))) (nI 2)) &&& ((3689348814741910323 : Int64)))) + (ushrL (((p0 - ((ushrL p0 (nI 1)) &&& ((6148914691236517205 : Int64)))) &&& ((3689348814741910323 : Int64))) + ((ushrL (p0 - ((ushrL p0 (nI 1)) &&& ((6148914691236517205 : Int64)))) (nI 2)) &&& ((3689348814741910323 : Int64)))) (nI 4))) &&& ((1085102592571150095 : Int64))) (nI 8))) (nI 16))) (nI 32)))) &&& (nI 127))
set_option maxHeartbeats 4000000 in
theorem t_J13_bitCount_95d88 {o : gOm} {l : Launch} {b : Bool}   {σ : gSt} (hR : σ.2.2 = gRf b) {p0 : Int64} {Q : Int32 → Prop} (h : W_J13_bitCount_95d88 p0 Q σ) : Sp o l mJ13_bitCount_95d88 1 0 0 [.long p0] 116 116 σ (pI (fun x s => σ = s ∧ Q x)) := by
  unfold W_J13_bitCount_95d88 at h
  refine Sp.of (ls0 := [some (.long p0), none]) miJ13_bitCount_95d88 rfl (Nat.le_of_ble_eq_true rfl) rfl (fun γ hγ hnm X Y => ?_)
  subst hγ
  have X : gX o γ cJ13_bitCount_95d88 2 RJ13 := X
  refine g_lload_0 (pc := 0) X dJ13_bitCount_95d88_0 ?_
  refine g_lload_0 (pc := 1) X dJ13_bitCount_95d88_1 ?_
  refine g_iconst (pc := 2) X dJ13_bitCount_95d88_2 kiconst_1 ?_
  refine g_lushr (pc := 3) X dJ13_bitCount_95d88_3 rfl ?_
  refine g_ldc2 (pc := 4) X dJ13_bitCount_95d88_4 ct_J13_314 ?_
  refine g_land (pc := 7) X dJ13_bitCount_95d88_7 ?_
  refine g_lsub (pc := 8) X dJ13_bitCount_95d88_8 ?_
  refine g_lstore_0 (pc := 9) X dJ13_bitCount_95d88_9 (by decide) ?_
  refine g_lload_0 (pc := 10) X dJ13_bitCount_95d88_10 ?_
  refine g_ldc2 (pc := 11) X dJ13_bitCount_95d88_11 ct_J13_316 ?_
  refine g_land (pc := 14) X dJ13_bitCount_95d88_14 ?_
  refine g_lload_0 (pc := 15) X dJ13_bitCount_95d88_15 ?_
  refine g_iconst (pc := 16) X dJ13_bitCount_95d88_16 kiconst_2 ?_
  refine g_lushr (pc := 17) X dJ13_bitCount_95d88_17 rfl ?_
  refine g_ldc2 (pc := 18) X dJ13_bitCount_95d88_18 ct_J13_316 ?_
  refine g_land (pc := 21) X dJ13_bitCount_95d88_21 ?_
  refine g_ladd (pc := 22) X dJ13_bitCount_95d88_22 ?_
  refine g_lstore_0 (pc := 23) X dJ13_bitCount_95d88_23 (by decide) ?_
  refine g_lload_0 (pc := 24) X dJ13_bitCount_95d88_24 ?_
  refine g_lload_0 (pc := 25) X dJ13_bitCount_95d88_25 ?_
  refine g_iconst (pc := 26) X dJ13_bitCount_95d88_26 kiconst_4 ?_
  refine g_lushr (pc := 27) X dJ13_bitCount_95d88_27 rfl ?_
  refine g_ladd (pc := 28) X dJ13_bitCount_95d88_28 ?_
  refine g_ldc2 (pc := 29) X dJ13_bitCount_95d88_29 ct_J13_318 ?_
  refine g_land (pc := 32) X dJ13_bitCount_95d88_32 ?_
  refine g_lstore_0 (pc := 33) X dJ13_bitCount_95d88_33 (by decide) ?_
  refine g_lload_0 (pc := 34) X dJ13_bitCount_95d88_34 ?_
  refine g_lload_0 (pc := 35) X dJ13_bitCount_95d88_35 ?_
  refine g_bipush (pc := 36) X dJ13_bitCount_95d88_36 kbipush_8 ?_
  refine g_lushr (pc := 38) X dJ13_bitCount_95d88_38 rfl ?_
  refine g_ladd (pc := 39) X dJ13_bitCount_95d88_39 ?_
  refine g_lstore_0 (pc := 40) X dJ13_bitCount_95d88_40 (by decide) ?_
  refine g_lload_0 (pc := 41) X dJ13_bitCount_95d88_41 ?_
  refine g_lload_0 (pc := 42) X dJ13_bitCount_95d88_42 ?_
  refine g_bipush (pc := 43) X dJ13_bitCount_95d88_43 kbipush_16 ?_
  refine g_lushr (pc := 45) X dJ13_bitCount_95d88_45 rfl ?_
  refine g_ladd (pc := 46) X dJ13_bitCount_95d88_46 ?_
  refine g_lstore_0 (pc := 47) X dJ13_bitCount_95d88_47 (by decide) ?_
  refine g_lload_0 (pc := 48) X dJ13_bitCount_95d88_48 ?_
  refine g_lload_0 (pc := 49) X dJ13_bitCount_95d88_49 ?_
  refine g_bipush (pc := 50) X dJ13_bitCount_95d88_50 kbipush_32 ?_
  refine g_lushr (pc := 52) X dJ13_bitCount_95d88_52 rfl ?_
  refine g_ladd (pc := 53) X dJ13_bitCount_95d88_53 ?_
  refine g_lstore_0 (pc := 54) X dJ13_bitCount_95d88_54 (by decide) ?_
  refine g_lload_0 (pc := 55) X dJ13_bitCount_95d88_55 ?_
  refine g_l2i (pc := 56) X dJ13_bitCount_95d88_56 ?_
  refine g_bipush (pc := 57) X dJ13_bitCount_95d88_57 kbipush_127 ?_
  refine g_iand (pc := 59) X dJ13_bitCount_95d88_59 ?_
  exact g_ireturn (pc := 60) X Y dJ13_bitCount_95d88_60 (Nat.le_of_ble_eq_true rfl) (Nat.le_of_ble_eq_true rfl) ⟨_, rfl, rfl, h⟩
