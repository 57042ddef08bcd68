def W_X12_best (p0 : Int32) (Q : Int64 → gSt → Prop) (σ : gSt) : Prop := fI σ 65 0 (nI 0) (fun s1 => W_X12_isEntry p0 (fun x2 s3 => ((x2 = 0 → (Q (lN 0) s3)) ∧ (¬ x2 = 0 → (W_X12_partOf p0 (fun x5 s6 => ((0 ≤ x5 → (Q (s6.2.1 65 75) s6)) ∧ (¬ 0 ≤ x5 → (Q (i2l x5) s6)))) s3)))) s1)
set_option maxHeartbeats 4000000 in
theorem t_X12_best {o : gOm} {l : Launch} {b : Bool}   {σ : gSt} (hR : σ.2.2 = gRf b) {p0 : Int32} {Q : Int64 → gSt → Prop} (h : W_X12_best p0 Q σ) : Sp o l mX12_best 19 0 0 [.ref (ad o 65), .int p0] 116 116 σ (pL (fun x s => s.2.2 = gRf b ∧ Q x s)) := by
  unfold W_X12_best at h
  refine Sp.of (ls0 := [some (.ref (ad o 65)), some (.int p0), none]) miX12_best rfl (Nat.le_of_ble_eq_true rfl) rfl (fun γ hγ hnm X Y => ?_)
  subst hγ
  have X : gX o γ cX12_best 3 RX12 := X
  refine g_aload_0 (pc := 0) X dX12_best_0 ?_
  refine g_iconst (pc := 1) X dX12_best_1 kiconst_0 ?_
  refine g_putI_w (pc := 2) X dX12_best_2 fl_X12_1 rfl (by decide) rfl rfl hR h (fun s1 hR h => ?_)
  refine g_aload_0 (pc := 5) X dX12_best_5 ?_
  refine g_iload_1 (pc := 6) X dX12_best_6 ?_
  refine g_callV_I (pc := 7) X Y dX12_best_7 miX12_isEntry li_X12_183 (t_X12_isEntry hR  h) rfl (by decide) rfl ⟨_, rfl⟩ rfl ⟨Nat.le_of_ble_eq_true rfl, Nat.le_of_ble_eq_true rfl⟩ (Nat.le_of_ble_eq_true rfl) (Nat.le_of_ble_eq_true rfl) rfl (by exact Nat.le_of_ble_eq_true rfl) (fun x2 s3 hp => ?_)
  obtain ⟨hR, h⟩ := hp
  refine g_if_ne (pc := 10) X dX12_best_10 (tgt := 15) (by decide) (fun q4 => ?_) (fun q4 => ?_)
  · replace h := h.2 q4
    refine g_aload_0 (pc := 15) X dX12_best_15 ?_
    refine g_iload_1 (pc := 16) X dX12_best_16 ?_
    refine g_callV_I (pc := 17) X Y dX12_best_17 miX12_partOf li_X12_547 (t_X12_partOf hR  h) rfl (by decide) rfl ⟨_, rfl⟩ rfl ⟨Nat.le_of_ble_eq_true rfl, Nat.le_of_ble_eq_true rfl⟩ (Nat.le_of_ble_eq_true rfl) (Nat.le_of_ble_eq_true rfl) rfl (by exact Nat.le_of_ble_eq_true rfl) (fun x5 s6 hp => ?_)
    obtain ⟨hR, h⟩ := hp
    refine g_istore_2 (pc := 20) X dX12_best_20 (by decide) rfl ?_
    refine g_iload_2 (pc := 21) X dX12_best_21 ?_
    refine g_if_ge (pc := 22) X dX12_best_22 (tgt := 30) (by decide) (fun q7 => ?_) (fun q7 => ?_)
    · replace h := h.1 q7
      refine g_aload_0 (pc := 30) X dX12_best_30 ?_
      refine g_getL (pc := 31) X dX12_best_31 rfl (by decide) fl_X12_483 rfl ?_
      exact g_lreturn (pc := 34) X Y dX12_best_34 (Nat.le_of_ble_eq_true rfl) (Nat.le_of_ble_eq_true rfl) ⟨_, rfl, hR, h⟩
    · replace h := h.2 q7
      refine g_iload_2 (pc := 25) X dX12_best_25 ?_
      refine g_i2l (pc := 26) X dX12_best_26 ?_
      refine g_goto (pc := 27) X dX12_best_27 (tgt := 34) (by decide) ?_
      exact g_lreturn (pc := 34) X Y dX12_best_34 (Nat.le_of_ble_eq_true rfl) (Nat.le_of_ble_eq_true rfl) ⟨_, rfl, hR, h⟩
  · replace h := h.1 q4
    refine g_lconst (pc := 13) X dX12_best_13 (v := lN 0) rfl ?_
    exact g_lreturn (pc := 14) X Y dX12_best_14 (Nat.le_of_ble_eq_true rfl) (Nat.le_of_ble_eq_true rfl) ⟨_, rfl, hR, h⟩
def W_X12_many (p0 : Int32) (Q : Int32 → gSt → Prop) (σ : gSt) : Prop := fI σ 65 0 (nI 0) (fun s1 => W_X12_isEntry p0 (fun x2 s3 => ((x2 = 0 → (Q (nI 0) s3)) ∧ (¬ x2 = 0 → (W_X12_partOf p0 (fun x5 s6 => ((x5 = ((-2 : Int32)) → (Q ((-2 : Int32)) s6)) ∧ (¬ x5 = ((-2 : Int32)) → (Q (s6.1 65 70) s6)))) s3)))) s1)
set_option maxHeartbeats 4000000 in
theorem t_X12_many {o : gOm} {l : Launch} {b : Bool}   {σ : gSt} (hR : σ.2.2 = gRf b) {p0 : Int32} {Q : Int32 → gSt → Prop} (h : W_X12_many p0 Q σ) : Sp o l mX12_many 19 0 0 [.ref (ad o 65), .int p0] 116 116 σ (pI (fun x s => s.2.2 = gRf b ∧ Q x s)) := by
  unfold W_X12_many at h
  refine Sp.of (ls0 := [some (.ref (ad o 65)), some (.int p0), none]) miX12_many rfl (Nat.le_of_ble_eq_true rfl) rfl (fun γ hγ hnm X Y => ?_)
  subst hγ
  have X : gX o γ cX12_many 3 RX12 := X
  refine g_aload_0 (pc := 0) X dX12_many_0 ?_
  refine g_iconst (pc := 1) X dX12_many_1 kiconst_0 ?_
  refine g_putI_w (pc := 2) X dX12_many_2 fl_X12_1 rfl (by decide) rfl rfl hR h (fun s1 hR h => ?_)
  refine g_aload_0 (pc := 5) X dX12_many_5 ?_
  refine g_iload_1 (pc := 6) X dX12_many_6 ?_
  refine g_callV_I (pc := 7) X Y dX12_many_7 miX12_isEntry li_X12_183 (t_X12_isEntry hR  h) rfl (by decide) rfl ⟨_, rfl⟩ rfl ⟨Nat.le_of_ble_eq_true rfl, Nat.le_of_ble_eq_true rfl⟩ (Nat.le_of_ble_eq_true rfl) (Nat.le_of_ble_eq_true rfl) rfl (by exact Nat.le_of_ble_eq_true rfl) (fun x2 s3 hp => ?_)
  obtain ⟨hR, h⟩ := hp
  refine g_if_ne (pc := 10) X dX12_many_10 (tgt := 15) (by decide) (fun q4 => ?_) (fun q4 => ?_)
  · replace h := h.2 q4
    refine g_aload_0 (pc := 15) X dX12_many_15 ?_
    refine g_iload_1 (pc := 16) X dX12_many_16 ?_
    refine g_callV_I (pc := 17) X Y dX12_many_17 miX12_partOf li_X12_547 (t_X12_partOf hR  h) rfl (by decide) rfl ⟨_, rfl⟩ rfl ⟨Nat.le_of_ble_eq_true rfl, Nat.le_of_ble_eq_true rfl⟩ (Nat.le_of_ble_eq_true rfl) (Nat.le_of_ble_eq_true rfl) rfl (by exact Nat.le_of_ble_eq_true rfl) (fun x5 s6 hp => ?_)
    obtain ⟨hR, h⟩ := hp
    refine g_istore_2 (pc := 20) X dX12_many_20 (by decide) rfl ?_
    refine g_iload_2 (pc := 21) X dX12_many_21 ?_
    refine g_bipush (pc := 22) X dX12_many_22 kbipush_m2 ?_
    refine g_icmp_ne (pc := 24) X dX12_many_24 (tgt := 32) (by decide) (fun q7 => ?_) (fun q7 => ?_)
    · replace h := h.2 q7
      refine g_aload_0 (pc := 32) X dX12_many_32 ?_
      refine g_getI (pc := 33) X dX12_many_33 rfl (by decide) fl_X12_517 (Or.inl rfl) ?_
      exact g_ireturn (pc := 36) X Y dX12_many_36 (Nat.le_of_ble_eq_true rfl) (Nat.le_of_ble_eq_true rfl) ⟨_, rfl, hR, h⟩
    · replace h := h.1 q7
      refine g_bipush (pc := 27) X dX12_many_27 kbipush_m2 ?_
      refine g_goto (pc := 29) X dX12_many_29 (tgt := 36) (by decide) ?_
      exact g_ireturn (pc := 36) X Y dX12_many_36 (Nat.le_of_ble_eq_true rfl) (Nat.le_of_ble_eq_true rfl) ⟨_, rfl, hR, h⟩
  · replace h := h.1 q4
    refine g_iconst (pc := 13) X dX12_many_13 kiconst_0 ?_
    exact g_ireturn (pc := 14) X Y dX12_many_14 (Nat.le_of_ble_eq_true rfl) (Nat.le_of_ble_eq_true rfl) ⟨_, rfl, hR, h⟩
def W_X12_first (p0 : Int32) (Q : Int32 → gSt → Prop) (σ : gSt) : Prop := fI σ 65 0 (nI 0) (fun s1 => W_X12_isEntry p0 (fun x2 s3 => ((x2 = 0 → (Q (nI 0) s3)) ∧ (¬ x2 = 0 → (W_X12_partOf p0 (fun x5 s6 => ((0 ≤ x5 → (W_X12_place p0 (fun x8 => W_X12_heapNumber 108 x8 (fun x9 => Q x9 s6) s6) s6)) ∧ (¬ 0 ≤ x5 → (Q x5 s6)))) s3)))) s1)
set_option maxHeartbeats 4000000 in
theorem t_X12_first {o : gOm} {l : Launch} {b : Bool}   {σ : gSt} (hR : σ.2.2 = gRf b) {p0 : Int32} {Q : Int32 → gSt → Prop} (h : W_X12_first p0 Q σ) : Sp o l mX12_first 19 0 0 [.ref (ad o 65), .int p0] 116 116 σ (pI (fun x s => s.2.2 = gRf b ∧ Q x s)) := by
  unfold W_X12_first at h
  refine Sp.of (ls0 := [some (.ref (ad o 65)), some (.int p0), none]) miX12_first rfl (Nat.le_of_ble_eq_true rfl) rfl (fun γ hγ hnm X Y => ?_)
  subst hγ
  have X : gX o γ cX12_first 3 RX12 := X
  refine g_aload_0 (pc := 0) X dX12_first_0 ?_
  refine g_iconst (pc := 1) X dX12_first_1 kiconst_0 ?_
  refine g_putI_w (pc := 2) X dX12_first_2 fl_X12_1 rfl (by decide) rfl rfl hR h (fun s1 hR h => ?_)
  refine g_aload_0 (pc := 5) X dX12_first_5 ?_
  refine g_iload_1 (pc := 6) X dX12_first_6 ?_
  refine g_callV_I (pc := 7) X Y dX12_first_7 miX12_isEntry li_X12_183 (t_X12_isEntry hR  h) rfl (by decide) rfl ⟨_, rfl⟩ rfl ⟨Nat.le_of_ble_eq_true rfl, Nat.le_of_ble_eq_true rfl⟩ (Nat.le_of_ble_eq_true rfl) (Nat.le_of_ble_eq_true rfl) rfl (by exact Nat.le_of_ble_eq_true rfl) (fun x2 s3 hp => ?_)
  obtain ⟨hR, h⟩ := hp
  refine g_if_ne (pc := 10) X dX12_first_10 (tgt := 15) (by decide) (fun q4 => ?_) (fun q4 => ?_)
  · replace h := h.2 q4
    refine g_aload_0 (pc := 15) X dX12_first_15 ?_
    refine g_iload_1 (pc := 16) X dX12_first_16 ?_
    refine g_callV_I (pc := 17) X Y dX12_first_17 miX12_partOf li_X12_547 (t_X12_partOf hR  h) rfl (by decide) rfl ⟨_, rfl⟩ rfl ⟨Nat.le_of_ble_eq_true rfl, Nat.le_of_ble_eq_true rfl⟩ (Nat.le_of_ble_eq_true rfl) (Nat.le_of_ble_eq_true rfl) rfl (by exact Nat.le_of_ble_eq_true rfl) (fun x5 s6 hp => ?_)
    obtain ⟨hR, h⟩ := hp
    refine g_istore_2 (pc := 20) X dX12_first_20 (by decide) rfl ?_
    refine g_iload_2 (pc := 21) X dX12_first_21 ?_
    refine g_if_ge (pc := 22) X dX12_first_22 (tgt := 29) (by decide) (fun q7 => ?_) (fun q7 => ?_)
    · replace h := h.1 q7
      refine g_aload_0 (pc := 29) X dX12_first_29 ?_
      refine g_aload_0 (pc := 30) X dX12_first_30 ?_
      refine g_getRf (pc := 31) X dX12_first_31 fl_X12_147 rfl (by decide) rfl hR rfl ?_
      refine g_aload_0 (pc := 34) X dX12_first_34 ?_
      refine g_iload_1 (pc := 35) X dX12_first_35 ?_
      refine g_callV_I (pc := 36) X Y dX12_first_36 miX12_place li_X12_550 (t_X12_place hR  h) rfl (by decide) rfl ⟨_, rfl⟩ rfl ⟨Nat.le_of_ble_eq_true rfl, Nat.le_of_ble_eq_true rfl⟩ (Nat.le_of_ble_eq_true rfl) (Nat.le_of_ble_eq_true rfl) rfl (by exact Nat.le_of_ble_eq_true rfl) (fun x8 σ9 hp => ?_)
      obtain ⟨rfl, h⟩ := hp
      refine g_callV_I (pc := 39) X Y dX12_first_39 miX12_heapNumber li_X12_553 (t_X12_heapNumber hR (by decide) (by decide) h) rfl (by decide) rfl ⟨_, rfl⟩ rfl ⟨Nat.le_of_ble_eq_true rfl, Nat.le_of_ble_eq_true rfl⟩ (Nat.le_of_ble_eq_true rfl) (Nat.le_of_ble_eq_true rfl) rfl (by exact Nat.le_of_ble_eq_true rfl) (fun x9 σ9 hp => ?_)
      obtain ⟨rfl, h⟩ := hp
      exact g_ireturn (pc := 42) X Y dX12_first_42 (Nat.le_of_ble_eq_true rfl) (Nat.le_of_ble_eq_true rfl) ⟨_, rfl, hR, h⟩
    · replace h := h.2 q7
      refine g_iload_2 (pc := 25) X dX12_first_25 ?_
      refine g_goto (pc := 26) X dX12_first_26 (tgt := 42) (by decide) ?_
      exact g_ireturn (pc := 42) X Y dX12_first_42 (Nat.le_of_ble_eq_true rfl) (Nat.le_of_ble_eq_true rfl) ⟨_, rfl, hR, h⟩
  · replace h := h.1 q4
    refine g_iconst (pc := 13) X dX12_first_13 kiconst_0 ?_
    exact g_ireturn (pc := 14) X Y dX12_first_14 (Nat.le_of_ble_eq_true rfl) (Nat.le_of_ble_eq_true rfl) ⟨_, rfl, hR, h⟩
def L_X12_findAll_104 (k0 : Nat) (Q : Int64 → gSt → Prop) (c21 : Int64) (c22 : Int32) (c23 : Int32) (c24 : Int32) (K : gSt → Prop) : Nat → Int32 → gSt → Prop
  | 0, _, _ => False
  | n104 + 1, v25, s26 => (((s26.1 65 64) ≤ v25 → (K s26)) ∧ (¬ (s26.1 65 64) ≤ v25 → (((c24 = 0 → (rI s26 105 30 v25 (fun x30 => W_X12_heapNumber 108 v25 (fun x31 => wI s26 k0 ((lay k0).2) x30 x31 (fun s32 => L_X12_findAll_104 k0 Q c21 c22 c23 c24 K n104 (v25 + nI 1) s32)) s26))) ∧ (¬ c24 = 0 → (K s26))))))
def L_X12_findAll_8 (k0 : Nat) (Q : Int64 → gSt → Prop)  (K : Int64 → Int32 → gSt → Prop) : Nat → Int64 → Int32 → Int32 → gSt → Prop
  | 0, _, _, _, _ => False
  | n8 + 1, v1, v2, v3, s4 => (((s4.1 65 1) ≤ v3 → (K v1 v2 s4)) ∧ (¬ (s4.1 65 1) ≤ v3 → (rI s4 103 30 v3 (fun x9 => ((x9 = 0 → (L_X12_findAll_8 k0 Q K n8 v1 v2 (v3 + nI 1) s4)) ∧ (¬ x9 = 0 → (W_X12_findPart v3 (fun s11 => rI s11 105 30 (nI 0) (fun x12 => ((x12 = v3 → (W_X12_bests (fun x14 s15 => ((x14 = ((-1 : Int32)) → (Q ((-1 : Int64)) s15)) ∧ (¬ x14 = ((-1 : Int32)) → (∀ J18 : Int32 → Prop, (∀ x17, (∀ J20 : Int64 → Prop, (∀ x19, (∃ m104, L_X12_findAll_104 k0 Q (v1 + x19) x17 v3 x14 (fun s34 => L_X12_findAll_8 k0 Q K n8 (v1 + x19) x17 (v3 + nI 1) s34) m104 (nI 0) s15) → J20 x19) → ((x14 = 0 → (J20 (s15.2.1 65 75))) ∧ (¬ x14 = 0 → (J20 (lN 0))))) → J18 x17) → ∀ J36 : Prop, ((J18 (nI 1)) → J36) → ((v2 = 0 → (((x14 = ((-2 : Int32)) → J36) ∧ (¬ x14 = ((-2 : Int32)) → (J18 (nI 0)))))) ∧ (¬ v2 = 0 → J36)))))) s11)) ∧ (¬ x12 = v3 → (L_X12_findAll_8 k0 Q K n8 v1 v2 (v3 + nI 1) s11))))) s4)))))))
def W_X12_findAll (k0 : Nat) (Q : Int64 → gSt → Prop) (σ : gSt) : Prop := ∃ m8, L_X12_findAll_8 k0 Q (fun y40 y41 s42 => ((y41 = 0 → (Q y40 s42)) ∧ (¬ y41 = 0 → (Q ((-2 : Int64)) s42)))) m8 (lN 0) (nI 0) (nI 0) σ
set_option maxHeartbeats 4000000 in
theorem t_X12_findAll {o : gOm} {l : Launch} {b : Bool}   {σ : gSt} (hR : σ.2.2 = gRf b) {k0 : Nat} {Q : Int64 → gSt → Prop} (hk0 : k0 < 116) (hk00 : (lay k0).1 = 0) (h : W_X12_findAll k0 Q σ) : Sp o l mX12_findAll 18 0 0 [.ref (ad o 65), .ref (ad o k0)] 116 116 σ (pL (fun x s => s.2.2 = gRf b ∧ Q x s)) := by
  have hk0y : lay k0 = (0, (lay k0).2) := Prod.ext hk00 rfl
  unfold W_X12_findAll at h
  refine Sp.of (ls0 := [some (.ref (ad o 65)), some (.ref (ad o k0)), none, none, none, none, none, none]) miX12_findAll rfl (Nat.le_of_ble_eq_true rfl) rfl (fun γ hγ hnm X Y => ?_)
  subst hγ
  have X : gX o γ cX12_findAll 8 RX12 := X
  refine g_lconst (pc := 0) X dX12_findAll_0 (v := lN 0) rfl ?_
  refine g_lstore_2 (pc := 1) X dX12_findAll_1 (by decide) rfl ?_
  refine g_iconst (pc := 2) X dX12_findAll_2 kiconst_0 ?_
  refine g_istore_4 (pc := 3) X dX12_findAll_3 (by decide) rfl ?_
  refine g_iconst (pc := 5) X dX12_findAll_5 kiconst_0 ?_
  refine g_istore_5 (pc := 6) X dX12_findAll_6 (by decide) rfl ?_
  obtain ⟨n39, h⟩ := h
  have hL : ∀  (K : Int64 → Int32 → gSt → Prop) (_ : ∀ (y5 : Int64) (y6 : Int32) (s7 : gSt), s7.2.2 = gRf b → K y5 y6 s7 → G o γ 0 0 116 s7 149 [some (.ref (ad o 65)), some (.ref (ad o k0)), some (.long y5), none, some (.int y6), none, none, none] []) (n : Nat) (v1 : Int64) (v2 : Int32) (v3 : Int32) (s4 : gSt), s4.2.2 = gRf b → L_X12_findAll_8 k0 Q K n v1 v2 v3 s4 → G o γ 0 0 116 s4 8 [some (.ref (ad o 65)), some (.ref (ad o k0)), some (.long v1), none, some (.int v2), some (.int v3), none, none] [] := by
    intro K hK n
    induction n with
    | zero => intro v1 v2 v3 s4 hR h; exact False.elim h
    | succ n ih =>
      intro v1 v2 v3 s4 hR h
      rw [L_X12_findAll_8] at h
      refine g_iload_5 (pc := 8) X dX12_findAll_8 ?_
      refine g_aload_0 (pc := 10) X dX12_findAll_10 ?_
      refine g_getI (pc := 11) X dX12_findAll_11 rfl (by decide) fl_X12_177 (Or.inl rfl) ?_
      refine g_icmp_ge (pc := 14) X dX12_findAll_14 (tgt := 149) (by decide) (fun q8 => ?_) (fun q8 => ?_)
      · replace h := h.1 q8
        exact g_drop (by simp [lsub]) (hK v1 v2 s4 hR h)
      · replace h := h.2 q8
        refine g_aload_0 (pc := 17) X dX12_findAll_17 ?_
        refine g_getRf (pc := 18) X dX12_findAll_18 fl_X12_132 rfl (by decide) rfl hR rfl ?_
        refine g_iload_5 (pc := 21) X dX12_findAll_21 ?_
        refine g_baload_w (pc := 23) X dX12_findAll_23 rfl (by decide) h (fun x9 h => ?_)
        refine g_if_ne (pc := 24) X dX12_findAll_24 (tgt := 30) (by decide) (fun q10 => ?_) (fun q10 => ?_)
        · replace h := h.2 q10
          refine g_aload_0 (pc := 30) X dX12_findAll_30 ?_
          refine g_iload_5 (pc := 31) X dX12_findAll_31 ?_
          refine g_callV_V (pc := 33) X Y dX12_findAll_33 miX12_findPart li_X12_190 (t_X12_findPart hR  h) rfl (by decide) rfl ⟨_, rfl⟩ rfl ⟨Nat.le_of_ble_eq_true rfl, Nat.le_of_ble_eq_true rfl⟩ (Nat.le_of_ble_eq_true rfl) (Nat.le_of_ble_eq_true rfl) rfl (by exact Nat.le_of_ble_eq_true rfl) (fun s11 hp => ?_)
          obtain ⟨hR, h⟩ := hp
          refine g_aload_0 (pc := 36) X dX12_findAll_36 ?_
          refine g_getRf (pc := 37) X dX12_findAll_37 fl_X12_138 rfl (by decide) rfl hR rfl ?_
          refine g_iconst (pc := 40) X dX12_findAll_40 kiconst_0 ?_
          refine g_iaload_w (pc := 41) X dX12_findAll_41 rfl (by decide) h (fun x12 h => ?_)
          refine g_iload_5 (pc := 42) X dX12_findAll_42 ?_
          refine g_icmp_eq (pc := 44) X dX12_findAll_44 (tgt := 50) (by decide) (fun q13 => ?_) (fun q13 => ?_)
          · replace h := h.1 q13
            refine g_aload_0 (pc := 50) X dX12_findAll_50 ?_
            refine g_callV_I (pc := 51) X Y dX12_findAll_51 miX12_bests li_X12_544 (t_X12_bests hR  h) rfl (by decide) rfl ⟨_, rfl⟩ rfl ⟨Nat.le_of_ble_eq_true rfl, Nat.le_of_ble_eq_true rfl⟩ (Nat.le_of_ble_eq_true rfl) (Nat.le_of_ble_eq_true rfl) rfl (by exact Nat.le_of_ble_eq_true rfl) (fun x14 s15 hp => ?_)
            obtain ⟨hR, h⟩ := hp
            refine g_istore_6 (pc := 54) X dX12_findAll_54 (by decide) rfl ?_
            refine g_iload_6 (pc := 56) X dX12_findAll_56 ?_
            refine g_iconst (pc := 58) X dX12_findAll_58 kiconst_m1 ?_
            refine g_icmp_ne (pc := 59) X dX12_findAll_59 (tgt := 66) (by decide) (fun q16 => ?_) (fun q16 => ?_)
            · replace h := h.2 q16
              refine g_iload_4 (pc := 66) X dX12_findAll_66 ?_
              replace h := h (fun x17 => G o γ 0 0 116 s15 83 [some (.ref (ad o 65)), some (.ref (ad o k0)), some (.long v1), none, none, some (.int v3), some (.int x14), none] [.int x17]) (by
                  intro x17 h
                  refine g_istore_4 (pc := 83) X dX12_findAll_83 (by decide) rfl ?_
                  refine g_lload_2 (pc := 85) X dX12_findAll_85 ?_
                  refine g_iload_6 (pc := 86) X dX12_findAll_86 ?_
                  replace h := h (fun x19 => G o γ 0 0 116 s15 99 [some (.ref (ad o 65)), some (.ref (ad o k0)), none, none, some (.int x17), some (.int v3), some (.int x14), none] [.long x19, .long v1]) (by
                      intro x19 h
                      refine g_ladd (pc := 99) X dX12_findAll_99 ?_
                      refine g_lstore_2 (pc := 100) X dX12_findAll_100 (by decide) rfl ?_
                      refine g_iconst (pc := 101) X dX12_findAll_101 kiconst_0 ?_
                      refine g_istore_7 (pc := 102) X dX12_findAll_102 (by decide) rfl ?_
                      obtain ⟨n33, h⟩ := h
                      have hL : ∀ (c21 : Int64) (c22 : Int32) (c23 : Int32) (c24 : Int32) (K : gSt → Prop) (_ : ∀  (s27 : gSt), s27.2.2 = gRf b → K s27 → G o γ 0 0 116 s27 143 [some (.ref (ad o 65)), some (.ref (ad o k0)), some (.long c21), none, some (.int c22), some (.int c23), some (.int c24), none] []) (n : Nat) (v25 : Int32) (s26 : gSt), s26.2.2 = gRf b → L_X12_findAll_104 k0 Q c21 c22 c23 c24 K n v25 s26 → G o γ 0 0 116 s26 104 [some (.ref (ad o 65)), some (.ref (ad o k0)), some (.long c21), none, some (.int c22), some (.int c23), some (.int c24), some (.int v25)] [] := by
                        intro c21 c22 c23 c24 K hK n
                        induction n with
                        | zero => intro v25 s26 hR h; exact False.elim h
                        | succ n ih =>
                          intro v25 s26 hR h
                          rw [L_X12_findAll_104] at h
                          refine g_iload_7 (pc := 104) X dX12_findAll_104 ?_
                          refine g_aload_0 (pc := 106) X dX12_findAll_106 ?_
                          refine g_getI (pc := 107) X dX12_findAll_107 rfl (by decide) fl_X12_194 (Or.inl rfl) ?_
                          refine g_icmp_ge (pc := 110) X dX12_findAll_110 (tgt := 143) (by decide) (fun q28 => ?_) (fun q28 => ?_)
                          · replace h := h.1 q28
                            exact g_drop (by simp [lsub]) (hK s26 hR h)
                          · replace h := h.2 q28
                            refine g_iload_6 (pc := 113) X dX12_findAll_113 ?_
                            refine g_if_ne (pc := 115) X dX12_findAll_115 (tgt := 143) (by decide) (fun q29 => ?_) (fun q29 => ?_)
                            · replace h := h.2 q29
                              exact g_drop (by simp [lsub]) (hK s26 hR h)
                            · replace h := h.1 q29
                              refine g_aload_1 (pc := 118) X dX12_findAll_118 ?_
                              refine g_aload_0 (pc := 119) X dX12_findAll_119 ?_
                              refine g_getRf (pc := 120) X dX12_findAll_120 fl_X12_138 rfl (by decide) rfl hR rfl ?_
                              refine g_iload_7 (pc := 123) X dX12_findAll_123 ?_
                              refine g_iaload_w (pc := 125) X dX12_findAll_125 rfl (by decide) h (fun x30 h => ?_)
                              refine g_aload_0 (pc := 126) X dX12_findAll_126 ?_
                              refine g_aload_0 (pc := 127) X dX12_findAll_127 ?_
                              refine g_getRf (pc := 128) X dX12_findAll_128 fl_X12_147 rfl (by decide) rfl hR rfl ?_
                              refine g_iload_7 (pc := 131) X dX12_findAll_131 ?_
                              refine g_callV_I (pc := 133) X Y dX12_findAll_133 miX12_heapNumber li_X12_553 (t_X12_heapNumber hR (by decide) (by decide) h) rfl (by decide) rfl ⟨_, rfl⟩ rfl ⟨Nat.le_of_ble_eq_true rfl, Nat.le_of_ble_eq_true rfl⟩ (Nat.le_of_ble_eq_true rfl) (Nat.le_of_ble_eq_true rfl) rfl (by exact Nat.le_of_ble_eq_true rfl) (fun x31 σ9 hp => ?_)
                              obtain ⟨rfl, h⟩ := hp
                              refine g_iastore_w (pc := 136) X dX12_findAll_136 hk0y hk0 hR h (fun s32 hR h => ?_)
                              refine g_iinc_7 (pc := 137) X dX12_findAll_137 (v := v25 + nI 1) rfl (by decide) rfl ?_
                              refine g_goto (pc := 140) X dX12_findAll_140 (tgt := 104) (by decide) ?_
                              exact ih (v25 + nI 1) s32 hR h
                      refine hL (v1 + x19) x17 v3 x14 _ (fun s34 hR h => ?_) n33 (nI 0) s15 hR h
                      · refine g_iinc_5 (pc := 143) X dX12_findAll_143 (v := v3 + nI 1) rfl (by decide) rfl ?_
                        refine g_goto (pc := 146) X dX12_findAll_146 (tgt := 8) (by decide) ?_
                        exact g_drop (by simp [lsub]) (ih (v1 + x19) x17 (v3 + nI 1) s34 hR h))
                  refine g_if_ne (pc := 88) X dX12_findAll_88 (tgt := 98) (by decide) (fun q35 => ?_) (fun q35 => ?_)
                  · replace h := h.2 q35
                    refine g_lconst (pc := 98) X dX12_findAll_98 (v := lN 0) rfl ?_
                    exact g_drop (by simp [lsub]) (h)
                  · replace h := h.1 q35
                    refine g_aload_0 (pc := 91) X dX12_findAll_91 ?_
                    refine g_getL (pc := 92) X dX12_findAll_92 rfl (by decide) fl_X12_483 rfl ?_
                    refine g_goto (pc := 95) X dX12_findAll_95 (tgt := 99) (by decide) ?_
                    exact g_drop (by simp [lsub]) (h))
              replace h := h (G o γ 0 0 116 s15 78 [some (.ref (ad o 65)), some (.ref (ad o k0)), some (.long v1), none, none, some (.int v3), some (.int x14), none] []) (by
                  intro  h
                  refine g_iconst (pc := 78) X dX12_findAll_78 kiconst_1 ?_
                  refine g_goto (pc := 79) X dX12_findAll_79 (tgt := 83) (by decide) ?_
                  exact h)
              refine g_if_ne (pc := 68) X dX12_findAll_68 (tgt := 78) (by decide) (fun q37 => ?_) (fun q37 => ?_)
              · replace h := h.2 q37
                exact g_drop (by simp [lsub]) (h)
              · replace h := h.1 q37
                refine g_iload_6 (pc := 71) X dX12_findAll_71 ?_
                refine g_bipush (pc := 73) X dX12_findAll_73 kbipush_m2 ?_
                refine g_icmp_ne (pc := 75) X dX12_findAll_75 (tgt := 82) (by decide) (fun q38 => ?_) (fun q38 => ?_)
                · replace h := h.2 q38
                  refine g_iconst (pc := 82) X dX12_findAll_82 kiconst_0 ?_
                  exact g_drop (by simp [lsub]) (h)
                · replace h := h.1 q38
                  exact g_drop (by simp [lsub]) (h)
            · replace h := h.1 q16
              refine g_ldc2 (pc := 62) X dX12_findAll_62 ct_X12_468 ?_
              exact g_lreturn (pc := 65) X Y dX12_findAll_65 (Nat.le_of_ble_eq_true rfl) (Nat.le_of_ble_eq_true rfl) ⟨_, rfl, hR, h⟩
          · replace h := h.2 q13
            refine g_goto (pc := 47) X dX12_findAll_47 (tgt := 143) (by decide) ?_
            refine g_iinc_5 (pc := 143) X dX12_findAll_143 (v := v3 + nI 1) rfl (by decide) rfl ?_
            refine g_goto (pc := 146) X dX12_findAll_146 (tgt := 8) (by decide) ?_
            exact ih v1 v2 (v3 + nI 1) s11 hR h
        · replace h := h.1 q10
          refine g_goto (pc := 27) X dX12_findAll_27 (tgt := 143) (by decide) ?_
          refine g_iinc_5 (pc := 143) X dX12_findAll_143 (v := v3 + nI 1) rfl (by decide) rfl ?_
          refine g_goto (pc := 146) X dX12_findAll_146 (tgt := 8) (by decide) ?_
          exact ih v1 v2 (v3 + nI 1) s4 hR h
  refine hL  _ (fun y40 y41 s42 hR h => ?_) n39 (lN 0) (nI 0) (nI 0) σ hR h
  · refine g_iload_4 (pc := 149) X dX12_findAll_149 ?_
    refine g_if_eq (pc := 151) X dX12_findAll_151 (tgt := 160) (by decide) (fun q43 => ?_) (fun q43 => ?_)
    · replace h := h.1 q43
      refine g_lload_2 (pc := 160) X dX12_findAll_160 ?_
      exact g_lreturn (pc := 161) X Y dX12_findAll_161 (Nat.le_of_ble_eq_true rfl) (Nat.le_of_ble_eq_true rfl) ⟨_, rfl, hR, h⟩
    · replace h := h.2 q43
      refine g_ldc2 (pc := 154) X dX12_findAll_154 ct_X12_470 ?_
      refine g_goto (pc := 157) X dX12_findAll_157 (tgt := 161) (by decide) ?_
      exact g_lreturn (pc := 161) X Y dX12_findAll_161 (Nat.le_of_ble_eq_true rfl) (Nat.le_of_ble_eq_true rfl) ⟨_, rfl, hR, h⟩
def W_X12_all  (Q : Int64 → gSt → Prop) (σ : gSt) : Prop := fI σ 65 0 (nI 0) (fun s1 => W_X12_everyone (fun s2 => W_X12_findAll 111 (fun x3 s4 => Q x3 s4) s2) s1)
set_option maxHeartbeats 4000000 in
theorem t_X12_all {o : gOm} {l : Launch} {b : Bool}   {σ : gSt} (hR : σ.2.2 = gRf b)  {Q : Int64 → gSt → Prop} (h : W_X12_all  Q σ) : Sp o l mX12_all 19 0 0 [.ref (ad o 65)] 116 116 σ (pL (fun x s => s.2.2 = gRf b ∧ Q x s)) := by
  unfold W_X12_all at h
  refine Sp.of (ls0 := [some (.ref (ad o 65))]) miX12_all rfl (Nat.le_of_ble_eq_true rfl) rfl (fun γ hγ hnm X Y => ?_)
  subst hγ
  have X : gX o γ cX12_all 1 RX12 := X
  refine g_aload_0 (pc := 0) X dX12_all_0 ?_
  refine g_iconst (pc := 1) X dX12_all_1 kiconst_0 ?_
  refine g_putI_w (pc := 2) X dX12_all_2 fl_X12_1 rfl (by decide) rfl rfl hR h (fun s1 hR h => ?_)
  refine g_aload_0 (pc := 5) X dX12_all_5 ?_
  refine g_callV_V (pc := 6) X Y dX12_all_6 miX12_everyone li_X12_187 (t_X12_everyone hR  h) rfl (by decide) rfl ⟨_, rfl⟩ rfl ⟨Nat.le_of_ble_eq_true rfl, Nat.le_of_ble_eq_true rfl⟩ (Nat.le_of_ble_eq_true rfl) (Nat.le_of_ble_eq_true rfl) rfl (by exact Nat.le_of_ble_eq_true rfl) (fun s2 hp => ?_)
  obtain ⟨hR, h⟩ := hp
  refine g_aload_0 (pc := 9) X dX12_all_9 ?_
  refine g_aload_0 (pc := 10) X dX12_all_10 ?_
  refine g_getRf (pc := 11) X dX12_all_11 fl_X12_157 rfl (by decide) rfl hR rfl ?_
  refine g_callV_L (pc := 14) X Y dX12_all_14 miX12_findAll li_X12_557 (t_X12_findAll hR (by decide) (by decide) h) rfl (by decide) rfl ⟨_, rfl⟩ rfl ⟨Nat.le_of_ble_eq_true rfl, Nat.le_of_ble_eq_true rfl⟩ (Nat.le_of_ble_eq_true rfl) (Nat.le_of_ble_eq_true rfl) rfl (by exact Nat.le_of_ble_eq_true rfl) (fun x3 s4 hp => ?_)
  obtain ⟨hR, h⟩ := hp
  exact g_lreturn (pc := 17) X Y dX12_all_17 (Nat.le_of_ble_eq_true rfl) (Nat.le_of_ble_eq_true rfl) ⟨_, rfl, hR, h⟩
def L_X12_take_29 (Q : Int32 → gSt → Prop)  (K : gSt → Prop) : Nat → Int32 → gSt → Prop
  | 0, _, _ => False
  | n29 + 1, v6, s7 => (((s7.1 65 1) ≤ v6 → (K s7)) ∧ (¬ (s7.1 65 1) ≤ v6 → (rI s7 111 30 v6 (fun x10 => wI s7 71 30 v6 x10 (fun s11 => L_X12_take_29 Q K n29 (v6 + nI 1) s11)))))
def W_X12_take  (Q : Int32 → gSt → Prop) (σ : gSt) : Prop := fI σ 65 0 (nI 0) (fun s1 => W_X12_everyone (fun s2 => W_X12_findAll 111 (fun x3 s4 => ((x3 < (lN 0) → (Q (l2i x3) s4)) ∧ (¬ x3 < (lN 0) → (∃ m29, L_X12_take_29 Q (fun s13 => Q (nI 1) s13) m29 (nI 0) s4)))) s2) s1)
set_option maxHeartbeats 4000000 in
theorem t_X12_take {o : gOm} {l : Launch} {b : Bool}   {σ : gSt} (hR : σ.2.2 = gRf b)  {Q : Int32 → gSt → Prop} (h : W_X12_take  Q σ) : Sp o l mX12_take 19 0 0 [.ref (ad o 65)] 116 116 σ (pI (fun x s => s.2.2 = gRf b ∧ Q x s)) := by
  unfold W_X12_take at h
  refine Sp.of (ls0 := [some (.ref (ad o 65)), none, none, none]) miX12_take rfl (Nat.le_of_ble_eq_true rfl) rfl (fun γ hγ hnm X Y => ?_)
  subst hγ
  have X : gX o γ cX12_take 4 RX12 := X
  refine g_aload_0 (pc := 0) X dX12_take_0 ?_
  refine g_iconst (pc := 1) X dX12_take_1 kiconst_0 ?_
  refine g_putI_w (pc := 2) X dX12_take_2 fl_X12_1 rfl (by decide) rfl rfl hR h (fun s1 hR h => ?_)
  refine g_aload_0 (pc := 5) X dX12_take_5 ?_
  refine g_callV_V (pc := 6) X Y dX12_take_6 miX12_everyone li_X12_187 (t_X12_everyone hR  h) rfl (by decide) rfl ⟨_, rfl⟩ rfl ⟨Nat.le_of_ble_eq_true rfl, Nat.le_of_ble_eq_true rfl⟩ (Nat.le_of_ble_eq_true rfl) (Nat.le_of_ble_eq_true rfl) rfl (by exact Nat.le_of_ble_eq_true rfl) (fun s2 hp => ?_)
  obtain ⟨hR, h⟩ := hp
  refine g_aload_0 (pc := 9) X dX12_take_9 ?_
  refine g_aload_0 (pc := 10) X dX12_take_10 ?_
  refine g_getRf (pc := 11) X dX12_take_11 fl_X12_157 rfl (by decide) rfl hR rfl ?_
  refine g_callV_L (pc := 14) X Y dX12_take_14 miX12_findAll li_X12_557 (t_X12_findAll hR (by decide) (by decide) h) rfl (by decide) rfl ⟨_, rfl⟩ rfl ⟨Nat.le_of_ble_eq_true rfl, Nat.le_of_ble_eq_true rfl⟩ (Nat.le_of_ble_eq_true rfl) (Nat.le_of_ble_eq_true rfl) rfl (by exact Nat.le_of_ble_eq_true rfl) (fun x3 s4 hp => ?_)
  obtain ⟨hR, h⟩ := hp
  refine g_lstore_1 (pc := 17) X dX12_take_17 (by decide) rfl ?_
  refine g_lload_1 (pc := 18) X dX12_take_18 ?_
  refine g_lconst (pc := 19) X dX12_take_19 (v := lN 0) rfl ?_
  refine g_lcmp_ge (pc := 20) X dX12_take_20 dX12_take_21 (tgt := 27) (by decide) (fun q5 => ?_) (fun q5 => ?_)
  · replace h := h.2 q5
    refine g_iconst (pc := 27) X dX12_take_27 kiconst_0 ?_
    refine g_istore_3 (pc := 28) X dX12_take_28 (by decide) rfl ?_
    obtain ⟨n12, h⟩ := h
    have hL : ∀  (K : gSt → Prop) (_ : ∀  (s8 : gSt), s8.2.2 = gRf b → K s8 → G o γ 0 0 116 s8 55 [some (.ref (ad o 65)), none, none, none] []) (n : Nat) (v6 : Int32) (s7 : gSt), s7.2.2 = gRf b → L_X12_take_29 Q K n v6 s7 → G o γ 0 0 116 s7 29 [some (.ref (ad o 65)), none, none, some (.int v6)] [] := by
      intro K hK n
      induction n with
      | zero => intro v6 s7 hR h; exact False.elim h
      | succ n ih =>
        intro v6 s7 hR h
        rw [L_X12_take_29] at h
        refine g_iload_3 (pc := 29) X dX12_take_29 ?_
        refine g_aload_0 (pc := 30) X dX12_take_30 ?_
        refine g_getI (pc := 31) X dX12_take_31 rfl (by decide) fl_X12_177 (Or.inl rfl) ?_
        refine g_icmp_ge (pc := 34) X dX12_take_34 (tgt := 55) (by decide) (fun q9 => ?_) (fun q9 => ?_)
        · replace h := h.1 q9
          exact g_drop (by simp [lsub]) (hK s7 hR h)
        · replace h := h.2 q9
          refine g_aload_0 (pc := 37) X dX12_take_37 ?_
          refine g_getRf (pc := 38) X dX12_take_38 fl_X12_29 rfl (by decide) rfl hR rfl ?_
          refine g_iload_3 (pc := 41) X dX12_take_41 ?_
          refine g_aload_0 (pc := 42) X dX12_take_42 ?_
          refine g_getRf (pc := 43) X dX12_take_43 fl_X12_157 rfl (by decide) rfl hR rfl ?_
          refine g_iload_3 (pc := 46) X dX12_take_46 ?_
          refine g_iaload_w (pc := 47) X dX12_take_47 rfl (by decide) h (fun x10 h => ?_)
          refine g_iastore_w (pc := 48) X dX12_take_48 rfl (by decide) hR h (fun s11 hR h => ?_)
          refine g_iinc_3 (pc := 49) X dX12_take_49 (v := v6 + nI 1) rfl (by decide) rfl ?_
          refine g_goto (pc := 52) X dX12_take_52 (tgt := 29) (by decide) ?_
          exact ih (v6 + nI 1) s11 hR h
    refine g_drop (by simp [lsub]) (hL  _ (fun s13 hR h => ?_) n12 (nI 0) s4 hR h)
    · refine g_iconst (pc := 55) X dX12_take_55 kiconst_1 ?_
      exact g_ireturn (pc := 56) X Y dX12_take_56 (Nat.le_of_ble_eq_true rfl) (Nat.le_of_ble_eq_true rfl) ⟨_, rfl, hR, h⟩
  · replace h := h.1 q5
    refine g_lload_1 (pc := 24) X dX12_take_24 ?_
    refine g_l2i (pc := 25) X dX12_take_25 ?_
    exact g_ireturn (pc := 26) X Y dX12_take_26 (Nat.le_of_ble_eq_true rfl) (Nat.le_of_ble_eq_true rfl) ⟨_, rfl, hR, h⟩
def W_X12_areOfOne (p0 : Int32) (p1 : Int32) (Q : Int32 → gSt → Prop) (σ : gSt) : Prop := W_X12_partOf p0 (fun x1 s2 => ((x1 = 0 → (rI s2 104 30 p1 (fun x4 => ((x4 = 0 → (Q (nI 0) s2)) ∧ (¬ x4 = 0 → (Q (nI 1) s2)))))) ∧ (¬ x1 = 0 → (Q (nI 0) s2)))) σ
set_option maxHeartbeats 4000000 in
theorem t_X12_areOfOne {o : gOm} {l : Launch} {b : Bool}   {σ : gSt} (hR : σ.2.2 = gRf b) {p0 : Int32} {p1 : Int32} {Q : Int32 → gSt → Prop} (h : W_X12_areOfOne p0 p1 Q σ) : Sp o l mX12_areOfOne 19 0 0 [.ref (ad o 65), .int p0, .int p1] 116 116 σ (pI (fun x s => s.2.2 = gRf b ∧ Q x s)) := by
  unfold W_X12_areOfOne at h
  refine Sp.of (ls0 := [some (.ref (ad o 65)), some (.int p0), some (.int p1), none]) miX12_areOfOne rfl (Nat.le_of_ble_eq_true rfl) rfl (fun γ hγ hnm X Y => ?_)
  subst hγ
  have X : gX o γ cX12_areOfOne 4 RX12 := X
  refine g_aload_0 (pc := 0) X dX12_areOfOne_0 ?_
  refine g_iload_1 (pc := 1) X dX12_areOfOne_1 ?_
  refine g_callV_I (pc := 2) X Y dX12_areOfOne_2 miX12_partOf li_X12_547 (t_X12_partOf hR  h) rfl (by decide) rfl ⟨_, rfl⟩ rfl ⟨Nat.le_of_ble_eq_true rfl, Nat.le_of_ble_eq_true rfl⟩ (Nat.le_of_ble_eq_true rfl) (Nat.le_of_ble_eq_true rfl) rfl (by exact Nat.le_of_ble_eq_true rfl) (fun x1 s2 hp => ?_)
  obtain ⟨hR, h⟩ := hp
  refine g_istore_3 (pc := 5) X dX12_areOfOne_5 (by decide) rfl ?_
  refine g_iload_3 (pc := 6) X dX12_areOfOne_6 ?_
  refine g_if_ne (pc := 7) X dX12_areOfOne_7 (tgt := 23) (by decide) (fun q3 => ?_) (fun q3 => ?_)
  · replace h := h.2 q3
    refine g_iconst (pc := 23) X dX12_areOfOne_23 kiconst_0 ?_
    exact g_zreturn (pc := 24) X Y dX12_areOfOne_24 (by first | exact Or.inl rfl | exact Or.inr rfl) (Nat.le_of_ble_eq_true rfl) (Nat.le_of_ble_eq_true rfl) ⟨_, rfl, hR, h⟩
  · replace h := h.1 q3
    refine g_aload_0 (pc := 10) X dX12_areOfOne_10 ?_
    refine g_getRf (pc := 11) X dX12_areOfOne_11 fl_X12_135 rfl (by decide) rfl hR rfl ?_
    refine g_iload_2 (pc := 14) X dX12_areOfOne_14 ?_
    refine g_baload_w (pc := 15) X dX12_areOfOne_15 rfl (by decide) h (fun x4 h => ?_)
    refine g_if_eq (pc := 16) X dX12_areOfOne_16 (tgt := 23) (by decide) (fun q5 => ?_) (fun q5 => ?_)
    · replace h := h.1 q5
      refine g_iconst (pc := 23) X dX12_areOfOne_23 kiconst_0 ?_
      exact g_zreturn (pc := 24) X Y dX12_areOfOne_24 (by first | exact Or.inl rfl | exact Or.inr rfl) (Nat.le_of_ble_eq_true rfl) (Nat.le_of_ble_eq_true rfl) ⟨_, rfl, hR, h⟩
    · replace h := h.2 q5
      refine g_iconst (pc := 19) X dX12_areOfOne_19 kiconst_1 ?_
      refine g_goto (pc := 20) X dX12_areOfOne_20 (tgt := 24) (by decide) ?_
      exact g_zreturn (pc := 24) X Y dX12_areOfOne_24 (by first | exact Or.inl rfl | exact Or.inr rfl) (Nat.le_of_ble_eq_true rfl) (Nat.le_of_ble_eq_true rfl) ⟨_, rfl, hR, h⟩
def W_X12_always (p0 : Int32) (p1 : Int32) (Q : Int32 → gSt → Prop) (σ : gSt) : Prop := fI σ 65 0 (nI 0) (fun s1 => W_X12_isPair p0 p1 (fun x2 s3 => ((x2 = 0 → (Q (nI 0) s3)) ∧ (¬ x2 = 0 → (W_X12_areOfOne p0 p1 (fun x5 s6 => ((x5 = 0 → (Q ((-2 : Int32)) s6)) ∧ (¬ x5 = 0 → (∀ J9 : Int32 → Prop, (∀ x8, (W_X12_place x8 (fun x10 => ∀ J12 : Int32 → Prop, (∀ x11, (W_X12_place x11 (fun x13 => W_X12_bitOf x10 x13 (fun x14 => ((((shrL (s6.2.1 65 79) x14) &&& (lN 1)) = (lN 1) → (Q (nI 1) s6)) ∧ (¬ ((shrL (s6.2.1 65 79) x14) &&& (lN 1)) = (lN 1) → (W_X12_bitOf x10 x13 (fun x16 => ((((shrL (s6.2.1 65 80) x16) &&& (lN 1)) = (lN 0) → (Q ((-1 : Int32)) s6)) ∧ (¬ ((shrL (s6.2.1 65 80) x16) &&& (lN 1)) = (lN 0) → (Q (nI 0) s6)))) s6)))) s6) s6) → J12 x11) → ((p1 ≤ p0 → (J12 p0)) ∧ (¬ p1 ≤ p0 → (J12 p1)))) s6) → J9 x8) → ((p1 ≤ p0 → (J9 p1)) ∧ (¬ p1 ≤ p0 → (J9 p0))))))) s3)))) s1)
set_option maxHeartbeats 4000000 in
theorem t_X12_always {o : gOm} {l : Launch} {b : Bool}   {σ : gSt} (hR : σ.2.2 = gRf b) {p0 : Int32} {p1 : Int32} {Q : Int32 → gSt → Prop} (h : W_X12_always p0 p1 Q σ) : Sp o l mX12_always 20 0 0 [.ref (ad o 65), .int p0, .int p1] 116 116 σ (pI (fun x s => s.2.2 = gRf b ∧ Q x s)) := by
  unfold W_X12_always at h
  refine Sp.of (ls0 := [some (.ref (ad o 65)), some (.int p0), some (.int p1), none, none]) miX12_always rfl (Nat.le_of_ble_eq_true rfl) rfl (fun γ hγ hnm X Y => ?_)
  subst hγ
  have X : gX o γ cX12_always 5 RX12 := X
  refine g_aload_0 (pc := 0) X dX12_always_0 ?_
  refine g_iconst (pc := 1) X dX12_always_1 kiconst_0 ?_
  refine g_putI_w (pc := 2) X dX12_always_2 fl_X12_1 rfl (by decide) rfl rfl hR h (fun s1 hR h => ?_)
  refine g_aload_0 (pc := 5) X dX12_always_5 ?_
  refine g_iload_1 (pc := 6) X dX12_always_6 ?_
  refine g_iload_2 (pc := 7) X dX12_always_7 ?_
  refine g_callV_I (pc := 8) X Y dX12_always_8 miX12_isPair li_X12_362 (t_X12_isPair hR  h) rfl (by decide) rfl ⟨_, rfl⟩ rfl ⟨Nat.le_of_ble_eq_true rfl, Nat.le_of_ble_eq_true rfl⟩ (Nat.le_of_ble_eq_true rfl) (Nat.le_of_ble_eq_true rfl) rfl (by exact Nat.le_of_ble_eq_true rfl) (fun x2 s3 hp => ?_)
  obtain ⟨hR, h⟩ := hp
  refine g_if_ne (pc := 11) X dX12_always_11 (tgt := 16) (by decide) (fun q4 => ?_) (fun q4 => ?_)
  · replace h := h.2 q4
    refine g_aload_0 (pc := 16) X dX12_always_16 ?_
    refine g_iload_1 (pc := 17) X dX12_always_17 ?_
    refine g_iload_2 (pc := 18) X dX12_always_18 ?_
    refine g_callV_I (pc := 19) X Y dX12_always_19 miX12_areOfOne li_X12_560 (t_X12_areOfOne hR  h) rfl (by decide) rfl ⟨_, rfl⟩ rfl ⟨Nat.le_of_ble_eq_true rfl, Nat.le_of_ble_eq_true rfl⟩ (Nat.le_of_ble_eq_true rfl) (Nat.le_of_ble_eq_true rfl) rfl (by exact Nat.le_of_ble_eq_true rfl) (fun x5 s6 hp => ?_)
    obtain ⟨hR, h⟩ := hp
    refine g_if_ne (pc := 22) X dX12_always_22 (tgt := 28) (by decide) (fun q7 => ?_) (fun q7 => ?_)
    · replace h := h.2 q7
      refine g_aload_0 (pc := 28) X dX12_always_28 ?_
      refine g_iload_1 (pc := 29) X dX12_always_29 ?_
      refine g_iload_2 (pc := 30) X dX12_always_30 ?_
      replace h := h (fun x8 => G o γ 0 0 116 s6 39 [some (.ref (ad o 65)), some (.int p0), some (.int p1), none, none] [.int x8, .ref (ad o 65)]) (by
          intro x8 h
          refine g_callV_I (pc := 39) X Y dX12_always_39 miX12_place li_X12_550 (t_X12_place hR  h) rfl (by decide) rfl ⟨_, rfl⟩ rfl ⟨Nat.le_of_ble_eq_true rfl, Nat.le_of_ble_eq_true rfl⟩ (Nat.le_of_ble_eq_true rfl) (Nat.le_of_ble_eq_true rfl) rfl (by exact Nat.le_of_ble_eq_true rfl) (fun x10 σ9 hp => ?_)
          obtain ⟨rfl, h⟩ := hp
          refine g_istore_3 (pc := 42) X dX12_always_42 (by decide) rfl ?_
          refine g_aload_0 (pc := 43) X dX12_always_43 ?_
          refine g_iload_1 (pc := 44) X dX12_always_44 ?_
          refine g_iload_2 (pc := 45) X dX12_always_45 ?_
          replace h := h (fun x11 => G o γ 0 0 116 s6 54 [some (.ref (ad o 65)), none, none, some (.int x10), none] [.int x11, .ref (ad o 65)]) (by
              intro x11 h
              refine g_callV_I (pc := 54) X Y dX12_always_54 miX12_place li_X12_550 (t_X12_place hR  h) rfl (by decide) rfl ⟨_, rfl⟩ rfl ⟨Nat.le_of_ble_eq_true rfl, Nat.le_of_ble_eq_true rfl⟩ (Nat.le_of_ble_eq_true rfl) (Nat.le_of_ble_eq_true rfl) rfl (by exact Nat.le_of_ble_eq_true rfl) (fun x13 σ9 hp => ?_)
              obtain ⟨rfl, h⟩ := hp
              refine g_istore_4 (pc := 57) X dX12_always_57 (by decide) rfl ?_
              refine g_aload_0 (pc := 59) X dX12_always_59 ?_
              refine g_getL (pc := 60) X dX12_always_60 rfl (by decide) fl_X12_523 rfl ?_
              refine g_iload_3 (pc := 63) X dX12_always_63 ?_
              refine g_iload_4 (pc := 64) X dX12_always_64 ?_
              refine g_callS_I (pc := 66) X Y dX12_always_66 miX12_bitOf li_X12_514 (t_X12_bitOf hR  h) rfl ⟨Nat.le_of_ble_eq_true rfl, Nat.le_of_ble_eq_true rfl⟩ (Nat.le_of_ble_eq_true rfl) (Nat.le_of_ble_eq_true rfl) rfl (by exact Nat.le_of_ble_eq_true rfl) (fun x14 σ9 hp => ?_)
              obtain ⟨rfl, h⟩ := hp
              refine g_lshr (pc := 69) X dX12_always_69 ?_
              refine g_lconst (pc := 70) X dX12_always_70 (v := lN 1) rfl ?_
              refine g_land (pc := 71) X dX12_always_71 ?_
              refine g_lconst (pc := 72) X dX12_always_72 (v := lN 1) rfl ?_
              refine g_lcmp_ne (pc := 73) X dX12_always_73 dX12_always_74 (tgt := 81) (by decide) (fun q15 => ?_) (fun q15 => ?_)
              · replace h := h.2 q15
                refine g_aload_0 (pc := 81) X dX12_always_81 ?_
                refine g_getL (pc := 82) X dX12_always_82 rfl (by decide) fl_X12_526 rfl ?_
                refine g_iload_3 (pc := 85) X dX12_always_85 ?_
                refine g_iload_4 (pc := 86) X dX12_always_86 ?_
                refine g_callS_I (pc := 88) X Y dX12_always_88 miX12_bitOf li_X12_514 (t_X12_bitOf hR  h) rfl ⟨Nat.le_of_ble_eq_true rfl, Nat.le_of_ble_eq_true rfl⟩ (Nat.le_of_ble_eq_true rfl) (Nat.le_of_ble_eq_true rfl) rfl (by exact Nat.le_of_ble_eq_true rfl) (fun x16 σ9 hp => ?_)
                obtain ⟨rfl, h⟩ := hp
                refine g_lshr (pc := 91) X dX12_always_91 ?_
                refine g_lconst (pc := 92) X dX12_always_92 (v := lN 1) rfl ?_
                refine g_land (pc := 93) X dX12_always_93 ?_
                refine g_lconst (pc := 94) X dX12_always_94 (v := lN 0) rfl ?_
                refine g_lcmp_ne (pc := 95) X dX12_always_95 dX12_always_96 (tgt := 103) (by decide) (fun q17 => ?_) (fun q17 => ?_)
                · replace h := h.2 q17
                  refine g_iconst (pc := 103) X dX12_always_103 kiconst_0 ?_
                  exact g_ireturn (pc := 104) X Y dX12_always_104 (Nat.le_of_ble_eq_true rfl) (Nat.le_of_ble_eq_true rfl) ⟨_, rfl, hR, h⟩
                · replace h := h.1 q17
                  refine g_iconst (pc := 99) X dX12_always_99 kiconst_m1 ?_
                  refine g_goto (pc := 100) X dX12_always_100 (tgt := 104) (by decide) ?_
                  exact g_ireturn (pc := 104) X Y dX12_always_104 (Nat.le_of_ble_eq_true rfl) (Nat.le_of_ble_eq_true rfl) ⟨_, rfl, hR, h⟩
              · replace h := h.1 q15
                refine g_iconst (pc := 77) X dX12_always_77 kiconst_1 ?_
                refine g_goto (pc := 78) X dX12_always_78 (tgt := 104) (by decide) ?_
                exact g_ireturn (pc := 104) X Y dX12_always_104 (Nat.le_of_ble_eq_true rfl) (Nat.le_of_ble_eq_true rfl) ⟨_, rfl, hR, h⟩)
          refine g_icmp_ge (pc := 46) X dX12_always_46 (tgt := 53) (by decide) (fun q18 => ?_) (fun q18 => ?_)
          · replace h := h.1 q18
            refine g_iload_1 (pc := 53) X dX12_always_53 ?_
            exact g_drop (by simp [lsub]) (h)
          · replace h := h.2 q18
            refine g_iload_2 (pc := 49) X dX12_always_49 ?_
            refine g_goto (pc := 50) X dX12_always_50 (tgt := 54) (by decide) ?_
            exact g_drop (by simp [lsub]) (h))
      refine g_icmp_ge (pc := 31) X dX12_always_31 (tgt := 38) (by decide) (fun q19 => ?_) (fun q19 => ?_)
      · replace h := h.1 q19
        refine g_iload_2 (pc := 38) X dX12_always_38 ?_
        exact h
      · replace h := h.2 q19
        refine g_iload_1 (pc := 34) X dX12_always_34 ?_
        refine g_goto (pc := 35) X dX12_always_35 (tgt := 39) (by decide) ?_
        exact h
    · replace h := h.1 q7
      refine g_bipush (pc := 25) X dX12_always_25 kbipush_m2 ?_
      exact g_ireturn (pc := 27) X Y dX12_always_27 (Nat.le_of_ble_eq_true rfl) (Nat.le_of_ble_eq_true rfl) ⟨_, rfl, hR, h⟩
  · replace h := h.1 q4
    refine g_iconst (pc := 14) X dX12_always_14 kiconst_0 ?_
    exact g_ireturn (pc := 15) X Y dX12_always_15 (Nat.le_of_ble_eq_true rfl) (Nat.le_of_ble_eq_true rfl) ⟨_, rfl, hR, h⟩
def W_X12_edgeOf (p0 : Int32) (p1 : Int32) (Q : Int64 → gSt → Prop) (σ : gSt) : Prop := W_X12_areOfOne p0 p1 (fun x1 s2 => ((x1 = 0 → (Q ((-2147483648 : Int64)) s2)) ∧ (¬ x1 = 0 → (W_X12_place p0 (fun x4 => fI s2 65 72 x4 (fun s5 => W_X12_place p1 (fun x6 => fI s5 65 73 x6 (fun s7 => fL s7 65 77 ((-1 : Int64)) (fun s8 => fL s8 65 78 ((-1 : Int64)) (fun s9 => W_X12_walks (nI 1) (fun s10 => ∀ J11 : Prop, ((Q ((-2147483648 : Int64)) s10) → J11) → (((s10.2.1 65 77) < (lN 0) → J11) ∧ (¬ (s10.2.1 65 77) < (lN 0) → ((((s10.2.1 65 78) < (lN 0) → J11) ∧ (¬ (s10.2.1 65 78) < (lN 0) → (Q ((s10.2.1 65 77) - (s10.2.1 65 78)) s10))))))) s9)))) s5)) s2)))) σ
set_option maxHeartbeats 4000000 in
theorem t_X12_edgeOf {o : gOm} {l : Launch} {b : Bool}   {σ : gSt} (hR : σ.2.2 = gRf b) {p0 : Int32} {p1 : Int32} {Q : Int64 → gSt → Prop} (h : W_X12_edgeOf p0 p1 Q σ) : Sp o l mX12_edgeOf 20 0 0 [.ref (ad o 65), .int p0, .int p1] 116 116 σ (pL (fun x s => s.2.2 = gRf b ∧ Q x s)) := by
  unfold W_X12_edgeOf at h
  refine Sp.of (ls0 := [some (.ref (ad o 65)), some (.int p0), some (.int p1)]) miX12_edgeOf rfl (Nat.le_of_ble_eq_true rfl) rfl (fun γ hγ hnm X Y => ?_)
  subst hγ
  have X : gX o γ cX12_edgeOf 3 RX12 := X
  refine g_aload_0 (pc := 0) X dX12_edgeOf_0 ?_
  refine g_iload_1 (pc := 1) X dX12_edgeOf_1 ?_
  refine g_iload_2 (pc := 2) X dX12_edgeOf_2 ?_
  refine g_callV_I (pc := 3) X Y dX12_edgeOf_3 miX12_areOfOne li_X12_560 (t_X12_areOfOne hR  h) rfl (by decide) rfl ⟨_, rfl⟩ rfl ⟨Nat.le_of_ble_eq_true rfl, Nat.le_of_ble_eq_true rfl⟩ (Nat.le_of_ble_eq_true rfl) (Nat.le_of_ble_eq_true rfl) rfl (by exact Nat.le_of_ble_eq_true rfl) (fun x1 s2 hp => ?_)
  obtain ⟨hR, h⟩ := hp
  refine g_if_ne (pc := 6) X dX12_edgeOf_6 (tgt := 13) (by decide) (fun q3 => ?_) (fun q3 => ?_)
  · replace h := h.2 q3
    refine g_aload_0 (pc := 13) X dX12_edgeOf_13 ?_
    refine g_aload_0 (pc := 14) X dX12_edgeOf_14 ?_
    refine g_iload_1 (pc := 15) X dX12_edgeOf_15 ?_
    refine g_callV_I (pc := 16) X Y dX12_edgeOf_16 miX12_place li_X12_550 (t_X12_place hR  h) rfl (by decide) rfl ⟨_, rfl⟩ rfl ⟨Nat.le_of_ble_eq_true rfl, Nat.le_of_ble_eq_true rfl⟩ (Nat.le_of_ble_eq_true rfl) (Nat.le_of_ble_eq_true rfl) rfl (by exact Nat.le_of_ble_eq_true rfl) (fun x4 σ9 hp => ?_)
    obtain ⟨rfl, h⟩ := hp
    refine g_putI_w (pc := 19) X dX12_edgeOf_19 fl_X12_532 rfl (by decide) rfl rfl hR h (fun s5 hR h => ?_)
    refine g_aload_0 (pc := 22) X dX12_edgeOf_22 ?_
    refine g_aload_0 (pc := 23) X dX12_edgeOf_23 ?_
    refine g_iload_2 (pc := 24) X dX12_edgeOf_24 ?_
    refine g_callV_I (pc := 25) X Y dX12_edgeOf_25 miX12_place li_X12_550 (t_X12_place hR  h) rfl (by decide) rfl ⟨_, rfl⟩ rfl ⟨Nat.le_of_ble_eq_true rfl, Nat.le_of_ble_eq_true rfl⟩ (Nat.le_of_ble_eq_true rfl) (Nat.le_of_ble_eq_true rfl) rfl (by exact Nat.le_of_ble_eq_true rfl) (fun x6 σ9 hp => ?_)
    obtain ⟨rfl, h⟩ := hp
    refine g_putI_w (pc := 28) X dX12_edgeOf_28 fl_X12_535 rfl (by decide) rfl rfl hR h (fun s7 hR h => ?_)
    refine g_aload_0 (pc := 31) X dX12_edgeOf_31 ?_
    refine g_ldc2 (pc := 32) X dX12_edgeOf_32 ct_X12_468 ?_
    refine g_putL_w (pc := 35) X dX12_edgeOf_35 fl_X12_486 rfl (by decide) rfl rfl hR h (fun s8 hR h => ?_)
    refine g_aload_0 (pc := 38) X dX12_edgeOf_38 ?_
    refine g_ldc2 (pc := 39) X dX12_edgeOf_39 ct_X12_468 ?_
    refine g_putL_w (pc := 42) X dX12_edgeOf_42 fl_X12_489 rfl (by decide) rfl rfl hR h (fun s9 hR h => ?_)
    refine g_aload_0 (pc := 45) X dX12_edgeOf_45 ?_
    refine g_iconst (pc := 46) X dX12_edgeOf_46 kiconst_1 ?_
    refine g_callV_V (pc := 47) X Y dX12_edgeOf_47 miX12_walks li_X12_541 (t_X12_walks hR  h) rfl (by decide) rfl ⟨_, rfl⟩ rfl ⟨Nat.le_of_ble_eq_true rfl, Nat.le_of_ble_eq_true rfl⟩ (Nat.le_of_ble_eq_true rfl) (Nat.le_of_ble_eq_true rfl) rfl (by exact Nat.le_of_ble_eq_true rfl) (fun s10 hp => ?_)
    obtain ⟨hR, h⟩ := hp
    refine g_aload_0 (pc := 50) X dX12_edgeOf_50 ?_
    refine g_getL (pc := 51) X dX12_edgeOf_51 rfl (by decide) fl_X12_486 rfl ?_
    refine g_lconst (pc := 54) X dX12_edgeOf_54 (v := lN 0) rfl ?_
    replace h := h (G o γ 0 0 116 s10 68 [none, none, none] []) (by
        intro  h
        refine g_ldc2 (pc := 68) X dX12_edgeOf_68 ct_X12_423 ?_
        refine g_goto (pc := 71) X dX12_edgeOf_71 (tgt := 83) (by decide) ?_
        exact g_lreturn (pc := 83) X Y dX12_edgeOf_83 (Nat.le_of_ble_eq_true rfl) (Nat.le_of_ble_eq_true rfl) ⟨_, rfl, hR, h⟩)
    refine g_lcmp_lt (pc := 55) X dX12_edgeOf_55 dX12_edgeOf_56 (tgt := 68) (by decide) (fun q12 => ?_) (fun q12 => ?_)
    · replace h := h.1 q12
      exact g_drop (by simp [lsub]) (h)
    · replace h := h.2 q12
      refine g_aload_0 (pc := 59) X dX12_edgeOf_59 ?_
      refine g_getL (pc := 60) X dX12_edgeOf_60 rfl (by decide) fl_X12_489 rfl ?_
      refine g_lconst (pc := 63) X dX12_edgeOf_63 (v := lN 0) rfl ?_
      refine g_lcmp_ge (pc := 64) X dX12_edgeOf_64 dX12_edgeOf_65 (tgt := 74) (by decide) (fun q13 => ?_) (fun q13 => ?_)
      · replace h := h.2 q13
        refine g_aload_0 (pc := 74) X dX12_edgeOf_74 ?_
        refine g_getL (pc := 75) X dX12_edgeOf_75 rfl (by decide) fl_X12_486 rfl ?_
        refine g_aload_0 (pc := 78) X dX12_edgeOf_78 ?_
        refine g_getL (pc := 79) X dX12_edgeOf_79 rfl (by decide) fl_X12_489 rfl ?_
        refine g_lsub (pc := 82) X dX12_edgeOf_82 ?_
        exact g_lreturn (pc := 83) X Y dX12_edgeOf_83 (Nat.le_of_ble_eq_true rfl) (Nat.le_of_ble_eq_true rfl) ⟨_, rfl, hR, h⟩
      · replace h := h.1 q13
        exact g_drop (by simp [lsub]) (h)
  · replace h := h.1 q3
    refine g_ldc2 (pc := 9) X dX12_edgeOf_9 ct_X12_423 ?_
    exact g_lreturn (pc := 12) X Y dX12_edgeOf_12 (Nat.le_of_ble_eq_true rfl) (Nat.le_of_ble_eq_true rfl) ⟨_, rfl, hR, h⟩
def W_X12_edge (p0 : Int32) (p1 : Int32) (Q : Int64 → gSt → Prop) (σ : gSt) : Prop := fI σ 65 0 (nI 0) (fun s1 => W_X12_isPair p0 p1 (fun x2 s3 => ((x2 = 0 → (Q (lN 0) s3)) ∧ (¬ x2 = 0 → (W_X12_edgeOf p0 p1 (fun x5 s6 => Q x5 s6) s3)))) s1)
set_option maxHeartbeats 4000000 in
theorem t_X12_edge {o : gOm} {l : Launch} {b : Bool}   {σ : gSt} (hR : σ.2.2 = gRf b) {p0 : Int32} {p1 : Int32} {Q : Int64 → gSt → Prop} (h : W_X12_edge p0 p1 Q σ) : Sp o l mX12_edge 21 0 0 [.ref (ad o 65), .int p0, .int p1] 116 116 σ (pL (fun x s => s.2.2 = gRf b ∧ Q x s)) := by
  unfold W_X12_edge at h
  refine Sp.of (ls0 := [some (.ref (ad o 65)), some (.int p0), some (.int p1)]) miX12_edge rfl (Nat.le_of_ble_eq_true rfl) rfl (fun γ hγ hnm X Y => ?_)
  subst hγ
  have X : gX o γ cX12_edge 3 RX12 := X
  refine g_aload_0 (pc := 0) X dX12_edge_0 ?_
  refine g_iconst (pc := 1) X dX12_edge_1 kiconst_0 ?_
  refine g_putI_w (pc := 2) X dX12_edge_2 fl_X12_1 rfl (by decide) rfl rfl hR h (fun s1 hR h => ?_)
  refine g_aload_0 (pc := 5) X dX12_edge_5 ?_
  refine g_iload_1 (pc := 6) X dX12_edge_6 ?_
  refine g_iload_2 (pc := 7) X dX12_edge_7 ?_
  refine g_callV_I (pc := 8) X Y dX12_edge_8 miX12_isPair li_X12_362 (t_X12_isPair hR  h) rfl (by decide) rfl ⟨_, rfl⟩ rfl ⟨Nat.le_of_ble_eq_true rfl, Nat.le_of_ble_eq_true rfl⟩ (Nat.le_of_ble_eq_true rfl) (Nat.le_of_ble_eq_true rfl) rfl (by exact Nat.le_of_ble_eq_true rfl) (fun x2 s3 hp => ?_)
  obtain ⟨hR, h⟩ := hp
  refine g_if_ne (pc := 11) X dX12_edge_11 (tgt := 16) (by decide) (fun q4 => ?_) (fun q4 => ?_)
  · replace h := h.2 q4
    refine g_aload_0 (pc := 16) X dX12_edge_16 ?_
    refine g_iload_1 (pc := 17) X dX12_edge_17 ?_
    refine g_iload_2 (pc := 18) X dX12_edge_18 ?_
    refine g_callV_L (pc := 19) X Y dX12_edge_19 miX12_edgeOf li_X12_563 (t_X12_edgeOf hR  h) rfl (by decide) rfl ⟨_, rfl⟩ rfl ⟨Nat.le_of_ble_eq_true rfl, Nat.le_of_ble_eq_true rfl⟩ (Nat.le_of_ble_eq_true rfl) (Nat.le_of_ble_eq_true rfl) rfl (by exact Nat.le_of_ble_eq_true rfl) (fun x5 s6 hp => ?_)
    obtain ⟨hR, h⟩ := hp
    exact g_lreturn (pc := 22) X Y dX12_edge_22 (Nat.le_of_ble_eq_true rfl) (Nat.le_of_ble_eq_true rfl) ⟨_, rfl, hR, h⟩
  · replace h := h.1 q4
    refine g_lconst (pc := 14) X dX12_edge_14 (v := lN 0) rfl ?_
    exact g_lreturn (pc := 15) X Y dX12_edge_15 (Nat.le_of_ble_eq_true rfl) (Nat.le_of_ble_eq_true rfl) ⟨_, rfl, hR, h⟩
def L_X12_holds_72 (Q : Int32 → gSt → Prop) (c18 : Int32) (c19 : Int64) (c20 : Int32) (s10 : gSt) (K : Int64 → Prop) : Nat → Int64 → Int32 → Prop
  | 0, _, _ => False
  | n72 + 1, v21, v22 => (((s10.1 65 64) ≤ v22 → (K v21)) ∧ (¬ (s10.1 65 64) ≤ v22 → (rI s10 105 30 c20 (fun x25 => rI s10 105 30 v22 (fun x26 => rI s10 90 900 (((nI 30) * x25) + x26) (fun x27 => W_X12_off x27 (fun x28 => L_X12_holds_72 Q c18 c19 c20 s10 K n72 (v21 + (i2l x28)) (v22 + nI 1)) s10))))))
def L_X12_holds_57 (Q : Int32 → gSt → Prop) (c12 : Int32) (c13 : Int64) (s10 : gSt) (K : Int64 → Prop) : Nat → Int64 → Int32 → Prop
  | 0, _, _ => False
  | n57 + 1, v14, v15 => (((s10.1 65 64) ≤ v15 → (K v14)) ∧ (¬ (s10.1 65 64) ≤ v15 → (∃ m72, L_X12_holds_72 Q c12 c13 v15 s10 (fun y30 => L_X12_holds_57 Q c12 c13 s10 K n57 y30 (v15 + nI 1)) m72 v14 (v15 + (nI 1)))))
def W_X12_holds (p0 : Int32) (p1 : Int32) (p2 : Int32) (Q : Int32 → gSt → Prop) (σ : gSt) : Prop := fI σ 65 0 (nI 0) (fun s1 => W_X12_isPair p0 p1 (fun x2 s3 => ((x2 = 0 → (Q (nI 0) s3)) ∧ (¬ x2 = 0 → (W_X12_within p2 (nI 0) (nI 100) (fun x5 => W_X12_may x5 (nI 2) (fun x6 s7 => ((x6 = 0 → (Q (nI 0) s7)) ∧ (¬ x6 = 0 → (W_X12_edgeOf p0 p1 (fun x9 s10 => ((x9 = ((-2147483648 : Int64)) → (Q ((-2 : Int32)) s10)) ∧ (¬ x9 = ((-2147483648 : Int64)) → (∃ m57, L_X12_holds_57 Q p2 x9 s10 (fun y32 => ((((((2 : Int64)) * (i2l p2)) * y32) < (((100 : Int64)) * x9) → (Q (nI 1) s10)) ∧ (¬ ((((2 : Int64)) * (i2l p2)) * y32) < (((100 : Int64)) * x9) → ((((((100 : Int64)) * x9) < ((((-2 : Int64)) * (i2l p2)) * y32) → (Q ((-1 : Int32)) s10)) ∧ (¬ (((100 : Int64)) * x9) < ((((-2 : Int64)) * (i2l p2)) * y32) → (Q (nI 0) s10))))))) m57 (lN 0) (nI 0))))) s7)))) s3) s3)))) s1)
set_option maxHeartbeats 4000000 in
theorem t_X12_holds {o : gOm} {l : Launch} {b : Bool}   {σ : gSt} (hR : σ.2.2 = gRf b) {p0 : Int32} {p1 : Int32} {p2 : Int32} {Q : Int32 → gSt → Prop} (h : W_X12_holds p0 p1 p2 Q σ) : Sp o l mX12_holds 21 0 0 [.ref (ad o 65), .int p0, .int p1, .int p2] 116 116 σ (pI (fun x s => s.2.2 = gRf b ∧ Q x s)) := by
  unfold W_X12_holds at h
  refine Sp.of (ls0 := [some (.ref (ad o 65)), some (.int p0), some (.int p1), some (.int p2), none, none, none, none, none, none]) miX12_holds rfl (Nat.le_of_ble_eq_true rfl) rfl (fun γ hγ hnm X Y => ?_)
  subst hγ
  have X : gX o γ cX12_holds 10 RX12 := X
  refine g_aload_0 (pc := 0) X dX12_holds_0 ?_
  refine g_iconst (pc := 1) X dX12_holds_1 kiconst_0 ?_
  refine g_putI_w (pc := 2) X dX12_holds_2 fl_X12_1 rfl (by decide) rfl rfl hR h (fun s1 hR h => ?_)
  refine g_aload_0 (pc := 5) X dX12_holds_5 ?_
  refine g_iload_1 (pc := 6) X dX12_holds_6 ?_
  refine g_iload_2 (pc := 7) X dX12_holds_7 ?_
  refine g_callV_I (pc := 8) X Y dX12_holds_8 miX12_isPair li_X12_362 (t_X12_isPair hR  h) rfl (by decide) rfl ⟨_, rfl⟩ rfl ⟨Nat.le_of_ble_eq_true rfl, Nat.le_of_ble_eq_true rfl⟩ (Nat.le_of_ble_eq_true rfl) (Nat.le_of_ble_eq_true rfl) rfl (by exact Nat.le_of_ble_eq_true rfl) (fun x2 s3 hp => ?_)
  obtain ⟨hR, h⟩ := hp
  refine g_if_eq (pc := 11) X dX12_holds_11 (tgt := 29) (by decide) (fun q4 => ?_) (fun q4 => ?_)
  · replace h := h.1 q4
    refine g_iconst (pc := 29) X dX12_holds_29 kiconst_0 ?_
    exact g_ireturn (pc := 30) X Y dX12_holds_30 (Nat.le_of_ble_eq_true rfl) (Nat.le_of_ble_eq_true rfl) ⟨_, rfl, hR, h⟩
  · replace h := h.2 q4
    refine g_aload_0 (pc := 14) X dX12_holds_14 ?_
    refine g_iload_3 (pc := 15) X dX12_holds_15 ?_
    refine g_iconst (pc := 16) X dX12_holds_16 kiconst_0 ?_
    refine g_bipush (pc := 17) X dX12_holds_17 kbipush_100 ?_
    refine g_callS_I (pc := 19) X Y dX12_holds_19 miX12_within li_X12_169 (t_X12_within hR  h) rfl ⟨Nat.le_of_ble_eq_true rfl, Nat.le_of_ble_eq_true rfl⟩ (Nat.le_of_ble_eq_true rfl) (Nat.le_of_ble_eq_true rfl) rfl (by exact Nat.le_of_ble_eq_true rfl) (fun x5 σ9 hp => ?_)
    obtain ⟨rfl, h⟩ := hp
    refine g_iconst (pc := 22) X dX12_holds_22 kiconst_2 ?_
    refine g_callV_I (pc := 23) X Y dX12_holds_23 miX12_may li_X12_173 (t_X12_may hR  h) rfl (by decide) rfl ⟨_, rfl⟩ rfl ⟨Nat.le_of_ble_eq_true rfl, Nat.le_of_ble_eq_true rfl⟩ (Nat.le_of_ble_eq_true rfl) (Nat.le_of_ble_eq_true rfl) rfl (by exact Nat.le_of_ble_eq_true rfl) (fun x6 s7 hp => ?_)
    obtain ⟨hR, h⟩ := hp
    refine g_if_ne (pc := 26) X dX12_holds_26 (tgt := 31) (by decide) (fun q8 => ?_) (fun q8 => ?_)
    · replace h := h.2 q8
      refine g_aload_0 (pc := 31) X dX12_holds_31 ?_
      refine g_iload_1 (pc := 32) X dX12_holds_32 ?_
      refine g_iload_2 (pc := 33) X dX12_holds_33 ?_
      refine g_callV_L (pc := 34) X Y dX12_holds_34 miX12_edgeOf li_X12_563 (t_X12_edgeOf hR  h) rfl (by decide) rfl ⟨_, rfl⟩ rfl ⟨Nat.le_of_ble_eq_true rfl, Nat.le_of_ble_eq_true rfl⟩ (Nat.le_of_ble_eq_true rfl) (Nat.le_of_ble_eq_true rfl) rfl (by exact Nat.le_of_ble_eq_true rfl) (fun x9 s10 hp => ?_)
      obtain ⟨hR, h⟩ := hp
      refine g_lstore_4 (pc := 37) X dX12_holds_37 (by decide) rfl ?_
      refine g_lload_4 (pc := 39) X dX12_holds_39 ?_
      refine g_ldc2 (pc := 41) X dX12_holds_41 ct_X12_423 ?_
      refine g_lcmp_ne (pc := 44) X dX12_holds_44 dX12_holds_45 (tgt := 51) (by decide) (fun q11 => ?_) (fun q11 => ?_)
      · replace h := h.2 q11
        refine g_lconst (pc := 51) X dX12_holds_51 (v := lN 0) rfl ?_
        refine g_lstore_6 (pc := 52) X dX12_holds_52 (by decide) rfl ?_
        refine g_iconst (pc := 54) X dX12_holds_54 kiconst_0 ?_
        refine g_istore_8 (pc := 55) X dX12_holds_55 (by decide) rfl ?_
        obtain ⟨n31, h⟩ := h
        have hL : ∀ (c12 : Int32) (c13 : Int64) (K : Int64 → Prop) (_ : ∀ (y16 : Int64), K y16 → G o γ 0 0 116 s10 125 [some (.ref (ad o 65)), none, none, some (.int c12), some (.long c13), none, some (.long y16), none, none, none] []) (n : Nat) (v14 : Int64) (v15 : Int32), L_X12_holds_57 Q c12 c13 s10 K n v14 v15 → G o γ 0 0 116 s10 57 [some (.ref (ad o 65)), none, none, some (.int c12), some (.long c13), none, some (.long v14), none, some (.int v15), none] [] := by
          intro c12 c13 K hK n
          induction n with
          | zero => intro v14 v15 h; exact False.elim h
          | succ n ih =>
            intro v14 v15 h
            rw [L_X12_holds_57] at h
            refine g_iload_8 (pc := 57) X dX12_holds_57 ?_
            refine g_aload_0 (pc := 59) X dX12_holds_59 ?_
            refine g_getI (pc := 60) X dX12_holds_60 rfl (by decide) fl_X12_194 (Or.inl rfl) ?_
            refine g_icmp_ge (pc := 63) X dX12_holds_63 (tgt := 125) (by decide) (fun q17 => ?_) (fun q17 => ?_)
            · replace h := h.1 q17
              exact g_drop (by simp [lsub]) (hK v14 h)
            · replace h := h.2 q17
              refine g_iload_8 (pc := 66) X dX12_holds_66 ?_
              refine g_iconst (pc := 68) X dX12_holds_68 kiconst_1 ?_
              refine g_iadd (pc := 69) X dX12_holds_69 ?_
              refine g_istore_9 (pc := 70) X dX12_holds_70 (by decide) rfl ?_
              obtain ⟨n29, h⟩ := h
              have hL : ∀ (c18 : Int32) (c19 : Int64) (c20 : Int32) (K : Int64 → Prop) (_ : ∀ (y23 : Int64), K y23 → G o γ 0 0 116 s10 119 [some (.ref (ad o 65)), none, none, some (.int c18), some (.long c19), none, some (.long y23), none, some (.int c20), none] []) (n : Nat) (v21 : Int64) (v22 : Int32), L_X12_holds_72 Q c18 c19 c20 s10 K n v21 v22 → G o γ 0 0 116 s10 72 [some (.ref (ad o 65)), none, none, some (.int c18), some (.long c19), none, some (.long v21), none, some (.int c20), some (.int v22)] [] := by
                intro c18 c19 c20 K hK n
                induction n with
                | zero => intro v21 v22 h; exact False.elim h
                | succ n ih =>
                  intro v21 v22 h
                  rw [L_X12_holds_72] at h
                  refine g_iload_9 (pc := 72) X dX12_holds_72 ?_
                  refine g_aload_0 (pc := 74) X dX12_holds_74 ?_
                  refine g_getI (pc := 75) X dX12_holds_75 rfl (by decide) fl_X12_194 (Or.inl rfl) ?_
                  refine g_icmp_ge (pc := 78) X dX12_holds_78 (tgt := 119) (by decide) (fun q24 => ?_) (fun q24 => ?_)
                  · replace h := h.1 q24
                    exact g_drop (by simp [lsub]) (hK v21 h)
                  · replace h := h.2 q24
                    refine g_lload_6 (pc := 81) X dX12_holds_81 ?_
                    refine g_aload_0 (pc := 83) X dX12_holds_83 ?_
                    refine g_getRf (pc := 84) X dX12_holds_84 fl_X12_89 rfl (by decide) rfl hR rfl ?_
                    refine g_bipush (pc := 87) X dX12_holds_87 kbipush_30 ?_
                    refine g_aload_0 (pc := 89) X dX12_holds_89 ?_
                    refine g_getRf (pc := 90) X dX12_holds_90 fl_X12_138 rfl (by decide) rfl hR rfl ?_
                    refine g_iload_8 (pc := 93) X dX12_holds_93 ?_
                    refine g_iaload_w (pc := 95) X dX12_holds_95 rfl (by decide) h (fun x25 h => ?_)
                    refine g_imul (pc := 96) X dX12_holds_96 ?_
                    refine g_aload_0 (pc := 97) X dX12_holds_97 ?_
                    refine g_getRf (pc := 98) X dX12_holds_98 fl_X12_138 rfl (by decide) rfl hR rfl ?_
                    refine g_iload_9 (pc := 101) X dX12_holds_101 ?_
                    refine g_iaload_w (pc := 103) X dX12_holds_103 rfl (by decide) h (fun x26 h => ?_)
                    refine g_iadd (pc := 104) X dX12_holds_104 ?_
                    refine g_iaload_w (pc := 105) X dX12_holds_105 rfl (by decide) h (fun x27 h => ?_)
                    refine g_callS_I (pc := 106) X Y dX12_holds_106 miX12_off li_X12_323 (t_X12_off hR  h) rfl ⟨Nat.le_of_ble_eq_true rfl, Nat.le_of_ble_eq_true rfl⟩ (Nat.le_of_ble_eq_true rfl) (Nat.le_of_ble_eq_true rfl) rfl (by exact Nat.le_of_ble_eq_true rfl) (fun x28 σ9 hp => ?_)
                    obtain ⟨rfl, h⟩ := hp
                    refine g_i2l (pc := 109) X dX12_holds_109 ?_
                    refine g_ladd (pc := 110) X dX12_holds_110 ?_
                    refine g_lstore_6 (pc := 111) X dX12_holds_111 (by decide) rfl ?_
                    refine g_iinc_9 (pc := 113) X dX12_holds_113 (v := v22 + nI 1) rfl (by decide) rfl ?_
                    refine g_goto (pc := 116) X dX12_holds_116 (tgt := 72) (by decide) ?_
                    exact ih (v21 + (i2l x28)) (v22 + nI 1) h
              refine hL c12 c13 v15 _ (fun y30 h => ?_) n29 v14 (v15 + (nI 1)) h
              · refine g_iinc_8 (pc := 119) X dX12_holds_119 (v := v15 + nI 1) rfl (by decide) rfl ?_
                refine g_goto (pc := 122) X dX12_holds_122 (tgt := 57) (by decide) ?_
                exact ih y30 (v15 + nI 1) h
        refine g_drop (by simp [lsub]) (hL p2 x9 _ (fun y32 h => ?_) n31 (lN 0) (nI 0) h)
        · refine g_ldc2 (pc := 125) X dX12_holds_125 ct_X12_566 ?_
          refine g_lload_4 (pc := 128) X dX12_holds_128 ?_
          refine g_lmul (pc := 130) X dX12_holds_130 ?_
          refine g_ldc2 (pc := 131) X dX12_holds_131 ct_X12_568 ?_
          refine g_iload_3 (pc := 134) X dX12_holds_134 ?_
          refine g_i2l (pc := 135) X dX12_holds_135 ?_
          refine g_lmul (pc := 136) X dX12_holds_136 ?_
          refine g_lload_6 (pc := 137) X dX12_holds_137 ?_
          refine g_lmul (pc := 139) X dX12_holds_139 ?_
          refine g_lcmp_le (pc := 140) X dX12_holds_140 dX12_holds_141 (tgt := 148) (by decide) (fun q33 => ?_) (fun q33 => ?_)
          · replace h := h.2 q33
            refine g_ldc2 (pc := 148) X dX12_holds_148 ct_X12_566 ?_
            refine g_lload_4 (pc := 151) X dX12_holds_151 ?_
            refine g_lmul (pc := 153) X dX12_holds_153 ?_
            refine g_ldc2 (pc := 154) X dX12_holds_154 ct_X12_470 ?_
            refine g_iload_3 (pc := 157) X dX12_holds_157 ?_
            refine g_i2l (pc := 158) X dX12_holds_158 ?_
            refine g_lmul (pc := 159) X dX12_holds_159 ?_
            refine g_lload_6 (pc := 160) X dX12_holds_160 ?_
            refine g_lmul (pc := 162) X dX12_holds_162 ?_
            refine g_lcmp_ge (pc := 163) X dX12_holds_163 dX12_holds_164 (tgt := 171) (by decide) (fun q34 => ?_) (fun q34 => ?_)
            · replace h := h.2 q34
              refine g_iconst (pc := 171) X dX12_holds_171 kiconst_0 ?_
              exact g_ireturn (pc := 172) X Y dX12_holds_172 (Nat.le_of_ble_eq_true rfl) (Nat.le_of_ble_eq_true rfl) ⟨_, rfl, hR, h⟩
            · replace h := h.1 q34
              refine g_iconst (pc := 167) X dX12_holds_167 kiconst_m1 ?_
              refine g_goto (pc := 168) X dX12_holds_168 (tgt := 172) (by decide) ?_
              exact g_ireturn (pc := 172) X Y dX12_holds_172 (Nat.le_of_ble_eq_true rfl) (Nat.le_of_ble_eq_true rfl) ⟨_, rfl, hR, h⟩
          · replace h := h.1 q33
            refine g_iconst (pc := 144) X dX12_holds_144 kiconst_1 ?_
            refine g_goto (pc := 145) X dX12_holds_145 (tgt := 172) (by decide) ?_
            exact g_ireturn (pc := 172) X Y dX12_holds_172 (Nat.le_of_ble_eq_true rfl) (Nat.le_of_ble_eq_true rfl) ⟨_, rfl, hR, h⟩
      · replace h := h.1 q11
        refine g_bipush (pc := 48) X dX12_holds_48 kbipush_m2 ?_
        exact g_ireturn (pc := 50) X Y dX12_holds_50 (Nat.le_of_ble_eq_true rfl) (Nat.le_of_ble_eq_true rfl) ⟨_, rfl, hR, h⟩
    · replace h := h.1 q8
      refine g_iconst (pc := 29) X dX12_holds_29 kiconst_0 ?_
      exact g_ireturn (pc := 30) X Y dX12_holds_30 (Nat.le_of_ble_eq_true rfl) (Nat.le_of_ble_eq_true rfl) ⟨_, rfl, hR, h⟩
def L_X12_bits_4 (Q : Int32 → Prop)  (σ : gSt) (K : Int32 → Prop) : Nat → Int32 → Int64 → Prop
  | 0, _, _ => False
  | n4 + 1, v1, v2 => ((v2 = (lN 0) → (K v1)) ∧ (¬ v2 = (lN 0) → (L_X12_bits_4 Q σ K n4 (v1 + nI 1) (v2 &&& (v2 - (lN 1))))))
def W_X12_bits (p0 : Int64) (Q : Int32 → Prop) (σ : gSt) : Prop := ∃ m4, L_X12_bits_4 Q σ (fun y6 => Q y6) m4 (nI 0) p0
set_option maxHeartbeats 4000000 in
theorem t_X12_bits {o : gOm} {l : Launch} {b : Bool}   {σ : gSt} (hR : σ.2.2 = gRf b) {p0 : Int64} {Q : Int32 → Prop} (h : W_X12_bits p0 Q σ) : Sp o l mX12_bits 1 0 0 [.long p0] 116 116 σ (pI (fun x s => σ = s ∧ Q x)) := by
  unfold W_X12_bits at h
  refine Sp.of (ls0 := [some (.long p0), none, none, none, none]) miX12_bits rfl (Nat.le_of_ble_eq_true rfl) rfl (fun γ hγ hnm X Y => ?_)
  subst hγ
  have X : gX o γ cX12_bits 5 RX12 := X
  refine g_iconst (pc := 0) X dX12_bits_0 kiconst_0 ?_
  refine g_istore_2 (pc := 1) X dX12_bits_1 (by decide) rfl ?_
  refine g_lload_0 (pc := 2) X dX12_bits_2 ?_
  refine g_lstore_3 (pc := 3) X dX12_bits_3 (by decide) rfl ?_
  obtain ⟨n5, h⟩ := h
  have hL : ∀  (K : Int32 → Prop) (_ : ∀ (y3 : Int32), K y3 → G o γ 0 0 116 σ 22 [none, none, some (.int y3), none, none] []) (n : Nat) (v1 : Int32) (v2 : Int64), L_X12_bits_4 Q σ K n v1 v2 → G o γ 0 0 116 σ 4 [none, none, some (.int v1), some (.long v2), none] [] := by
    intro K hK n
    induction n with
    | zero => intro v1 v2 h; exact False.elim h
    | succ n ih =>
      intro v1 v2 h
      rw [L_X12_bits_4] at h
      refine g_lload_3 (pc := 4) X dX12_bits_4 ?_
      refine g_lconst (pc := 5) X dX12_bits_5 (v := lN 0) rfl ?_
      refine g_lcmp_eq (pc := 6) X dX12_bits_6 dX12_bits_7 (tgt := 22) (by decide) (fun q4 => ?_) (fun q4 => ?_)
      · replace h := h.1 q4
        exact g_drop (by simp [lsub]) (hK v1 h)
      · replace h := h.2 q4
        refine g_iinc_2 (pc := 10) X dX12_bits_10 (v := v1 + nI 1) rfl (by decide) rfl ?_
        refine g_lload_3 (pc := 13) X dX12_bits_13 ?_
        refine g_lload_3 (pc := 14) X dX12_bits_14 ?_
        refine g_lconst (pc := 15) X dX12_bits_15 (v := lN 1) rfl ?_
        refine g_lsub (pc := 16) X dX12_bits_16 ?_
        refine g_land (pc := 17) X dX12_bits_17 ?_
        refine g_lstore_3 (pc := 18) X dX12_bits_18 (by decide) rfl ?_
        refine g_goto (pc := 19) X dX12_bits_19 (tgt := 4) (by decide) ?_
        exact ih (v1 + nI 1) (v2 &&& (v2 - (lN 1))) h
  refine g_drop (by simp [lsub]) (hL  _ (fun y6 h => ?_) n5 (nI 0) p0 h)
  · refine g_iload_2 (pc := 22) X dX12_bits_22 ?_
    exact g_ireturn (pc := 23) X Y dX12_bits_23 (Nat.le_of_ble_eq_true rfl) (Nat.le_of_ble_eq_true rfl) ⟨_, rfl, rfl, h⟩
def L_X12_freeIn_11 (Q : Int32 → Prop) (c1 : Int32) (c2 : Int64) (σ : gSt) (K : Int64 → Int64 → Prop) : Nat → Int64 → Int64 → Int32 → Prop
  | 0, _, _, _ => False
  | n11 + 1, v3, v4, v5 => (((σ.1 65 71) ≤ v5 → (K v3 v4)) ∧ (¬ (σ.1 65 71) ≤ v5 → (rL σ 110 200 v5 (fun x9 => ((((shrL x9 c1) &&& (lN 1)) = c2 → (rL σ 110 200 v5 (fun x11 => rL σ 110 200 v5 (fun x12 => L_X12_freeIn_11 Q c1 c2 σ K n11 (v3 &&& x11) (v4 ||| x12) (v5 + nI 1))))) ∧ (¬ ((shrL x9 c1) &&& (lN 1)) = c2 → (L_X12_freeIn_11 Q c1 c2 σ K n11 v3 v4 (v5 + nI 1))))))))
def W_X12_freeIn (p0 : Int32) (p1 : Int64) (Q : Int32 → Prop) (σ : gSt) : Prop := ∃ m11, L_X12_freeIn_11 Q p0 p1 σ (fun y14 y15 => W_X12_bits (y15 &&& (y14 ^^^ ((-1 : Int64)))) (fun x16 => Q x16) σ) m11 ((-1 : Int64)) (lN 0) (nI 0)
set_option maxHeartbeats 4000000 in
theorem t_X12_freeIn {o : gOm} {l : Launch} {b : Bool}   {σ : gSt} (hR : σ.2.2 = gRf b) {p0 : Int32} {p1 : Int64} {Q : Int32 → Prop} (h : W_X12_freeIn p0 p1 Q σ) : Sp o l mX12_freeIn 2 0 0 [.ref (ad o 65), .int p0, .long p1] 116 116 σ (pI (fun x s => σ = s ∧ Q x)) := by
  unfold W_X12_freeIn at h
  refine Sp.of (ls0 := [some (.ref (ad o 65)), some (.int p0), some (.long p1), none, none, none, none, none, none]) miX12_freeIn rfl (Nat.le_of_ble_eq_true rfl) rfl (fun γ hγ hnm X Y => ?_)
  subst hγ
  have X : gX o γ cX12_freeIn 9 RX12 := X
  refine g_ldc2 (pc := 0) X dX12_freeIn_0 ct_X12_468 ?_
  refine g_lstore_4 (pc := 3) X dX12_freeIn_3 (by decide) rfl ?_
  refine g_lconst (pc := 5) X dX12_freeIn_5 (v := lN 0) rfl ?_
  refine g_lstore_6 (pc := 6) X dX12_freeIn_6 (by decide) rfl ?_
  refine g_iconst (pc := 8) X dX12_freeIn_8 kiconst_0 ?_
  refine g_istore_8 (pc := 9) X dX12_freeIn_9 (by decide) rfl ?_
  obtain ⟨n13, h⟩ := h
  have hL : ∀ (c1 : Int32) (c2 : Int64) (K : Int64 → Int64 → Prop) (_ : ∀ (y6 : Int64) (y7 : Int64), K y6 y7 → G o γ 0 0 116 σ 69 [some (.ref (ad o 65)), some (.int c1), some (.long c2), none, some (.long y6), none, some (.long y7), none, none] []) (n : Nat) (v3 : Int64) (v4 : Int64) (v5 : Int32), L_X12_freeIn_11 Q c1 c2 σ K n v3 v4 v5 → G o γ 0 0 116 σ 11 [some (.ref (ad o 65)), some (.int c1), some (.long c2), none, some (.long v3), none, some (.long v4), none, some (.int v5)] [] := by
    intro c1 c2 K hK n
    induction n with
    | zero => intro v3 v4 v5 h; exact False.elim h
    | succ n ih =>
      intro v3 v4 v5 h
      rw [L_X12_freeIn_11] at h
      refine g_iload_8 (pc := 11) X dX12_freeIn_11 ?_
      refine g_aload_0 (pc := 13) X dX12_freeIn_13 ?_
      refine g_getI (pc := 14) X dX12_freeIn_14 rfl (by decide) fl_X12_520 (Or.inl rfl) ?_
      refine g_icmp_ge (pc := 17) X dX12_freeIn_17 (tgt := 69) (by decide) (fun q8 => ?_) (fun q8 => ?_)
      · replace h := h.1 q8
        exact g_drop (by simp [lsub]) (hK v3 v4 h)
      · replace h := h.2 q8
        refine g_aload_0 (pc := 20) X dX12_freeIn_20 ?_
        refine g_getRf (pc := 21) X dX12_freeIn_21 fl_X12_153 rfl (by decide) rfl hR rfl ?_
        refine g_iload_8 (pc := 24) X dX12_freeIn_24 ?_
        refine g_laload_w (pc := 26) X dX12_freeIn_26 rfl (by decide) h (fun x9 h => ?_)
        refine g_iload_1 (pc := 27) X dX12_freeIn_27 ?_
        refine g_lshr (pc := 28) X dX12_freeIn_28 ?_
        refine g_lconst (pc := 29) X dX12_freeIn_29 (v := lN 1) rfl ?_
        refine g_land (pc := 30) X dX12_freeIn_30 ?_
        refine g_lload_2 (pc := 31) X dX12_freeIn_31 ?_
        refine g_lcmp_eq (pc := 32) X dX12_freeIn_32 dX12_freeIn_33 (tgt := 39) (by decide) (fun q10 => ?_) (fun q10 => ?_)
        · replace h := h.1 q10
          refine g_lload_4 (pc := 39) X dX12_freeIn_39 ?_
          refine g_aload_0 (pc := 41) X dX12_freeIn_41 ?_
          refine g_getRf (pc := 42) X dX12_freeIn_42 fl_X12_153 rfl (by decide) rfl hR rfl ?_
          refine g_iload_8 (pc := 45) X dX12_freeIn_45 ?_
          refine g_laload_w (pc := 47) X dX12_freeIn_47 rfl (by decide) h (fun x11 h => ?_)
          refine g_land (pc := 48) X dX12_freeIn_48 ?_
          refine g_lstore_4 (pc := 49) X dX12_freeIn_49 (by decide) rfl ?_
          refine g_lload_6 (pc := 51) X dX12_freeIn_51 ?_
          refine g_aload_0 (pc := 53) X dX12_freeIn_53 ?_
          refine g_getRf (pc := 54) X dX12_freeIn_54 fl_X12_153 rfl (by decide) rfl hR rfl ?_
          refine g_iload_8 (pc := 57) X dX12_freeIn_57 ?_
          refine g_laload_w (pc := 59) X dX12_freeIn_59 rfl (by decide) h (fun x12 h => ?_)
          refine g_lor (pc := 60) X dX12_freeIn_60 ?_
          refine g_lstore_6 (pc := 61) X dX12_freeIn_61 (by decide) rfl ?_
          refine g_iinc_8 (pc := 63) X dX12_freeIn_63 (v := v5 + nI 1) rfl (by decide) rfl ?_
          refine g_goto (pc := 66) X dX12_freeIn_66 (tgt := 11) (by decide) ?_
          exact ih (v3 &&& x11) (v4 ||| x12) (v5 + nI 1) h
        · replace h := h.2 q10
          refine g_goto (pc := 36) X dX12_freeIn_36 (tgt := 63) (by decide) ?_
          refine g_iinc_8 (pc := 63) X dX12_freeIn_63 (v := v5 + nI 1) rfl (by decide) rfl ?_
          refine g_goto (pc := 66) X dX12_freeIn_66 (tgt := 11) (by decide) ?_
          exact ih v3 v4 (v5 + nI 1) h
  refine hL p0 p1 _ (fun y14 y15 h => ?_) n13 ((-1 : Int64)) (lN 0) (nI 0) h
  · refine g_lload_6 (pc := 69) X dX12_freeIn_69 ?_
    refine g_lload_4 (pc := 71) X dX12_freeIn_71 ?_
    refine g_ldc2 (pc := 73) X dX12_freeIn_73 ct_X12_468 ?_
    refine g_lxor (pc := 76) X dX12_freeIn_76 ?_
    refine g_land (pc := 77) X dX12_freeIn_77 ?_
    refine g_callS_I (pc := 78) X Y dX12_freeIn_78 miX12_bits li_X12_570 (t_X12_bits hR  h) rfl ⟨Nat.le_of_ble_eq_true rfl, Nat.le_of_ble_eq_true rfl⟩ (Nat.le_of_ble_eq_true rfl) (Nat.le_of_ble_eq_true rfl) rfl (by exact Nat.le_of_ble_eq_true rfl) (fun x16 σ9 hp => ?_)
    obtain ⟨rfl, h⟩ := hp
    exact g_ireturn (pc := 81) X Y dX12_freeIn_81 (Nat.le_of_ble_eq_true rfl) (Nat.le_of_ble_eq_true rfl) ⟨_, rfl, rfl, h⟩
def L_X12_asked__63 (Q : Int32 → gSt → Prop) (c14 : Int32) (s6 : gSt) (K : Int32 → Int32 → Prop) : Nat → Int32 → Int32 → Int32 → Prop
  | 0, _, _, _ => False
  | n63 + 1, v15, v16, v17 => (((s6.1 65 64) ≤ v17 → (K v15 v16)) ∧ (¬ (s6.1 65 64) ≤ v17 → (W_X12_bitOf c14 v17 (fun x21 => ((((shrL (s6.2.1 65 80) x21) &&& (lN 1)) = (lN 0) → (L_X12_asked__63 Q c14 s6 K n63 v15 v16 (v17 + nI 1))) ∧ (¬ ((shrL (s6.2.1 65 80) x21) &&& (lN 1)) = (lN 0) → (((((shrL (s6.2.1 65 79) x21) &&& (lN 1)) = (lN 1) → (L_X12_asked__63 Q c14 s6 K n63 v15 v16 (v17 + nI 1))) ∧ (¬ ((shrL (s6.2.1 65 79) x21) &&& (lN 1)) = (lN 1) → (W_X12_freeIn x21 (lN 1) (fun x24 => W_X12_freeIn x21 (lN 0) (fun x25 => ∀ J27 : Int32 → Prop, (∀ x26, (∀ J28 : Prop, ((rI s6 105 30 c14 (fun x29 => rI s6 105 30 v17 (fun x30 => L_X12_asked__63 Q c14 s6 K n63 (((nI 32) * x29) + x30) x26 (v17 + nI 1)))) → J28) → ((v15 = ((-1 : Int32)) → J28) ∧ (¬ v15 = ((-1 : Int32)) → (((x26 < v16 → J28) ∧ (¬ x26 < v16 → (L_X12_asked__63 Q c14 s6 K n63 v15 v16 (v17 + nI 1)))))))) → J27 x26) → ((x24 ≤ x25 → (J27 x25)) ∧ (¬ x24 ≤ x25 → (J27 x24)))) s6) s6))))))) s6)))
def L_X12_asked__48 (Q : Int32 → gSt → Prop)  (s6 : gSt) (K : Int32 → Prop) : Nat → Int32 → Int32 → Int32 → Prop
  | 0, _, _, _ => False
  | n48 + 1, v9, v10, v11 => (((s6.1 65 64) ≤ v11 → (K v9)) ∧ (¬ (s6.1 65 64) ≤ v11 → (∃ m63, L_X12_asked__63 Q v11 s6 (fun y35 y36 => L_X12_asked__48 Q s6 K n48 y35 y36 (v11 + nI 1)) m63 v9 v10 (v11 + (nI 1)))))
def W_X12_asked_ (p0 : Int32) (Q : Int32 → gSt → Prop) (σ : gSt) : Prop := fI σ 65 0 (nI 0) (fun s1 => W_X12_isEntry p0 (fun x2 s3 => ((x2 = 0 → (Q (nI 0) s3)) ∧ (¬ x2 = 0 → (W_X12_partOf p0 (fun x5 s6 => ((0 ≤ x5 → ((((s6.1 65 70) ≤ (nI 200) → (∃ m48, L_X12_asked__48 Q s6 (fun y38 => Q y38 s6) m48 ((-1 : Int32)) (nI 0) (nI 0))) ∧ (¬ (s6.1 65 70) ≤ (nI 200) → (Q ((-2 : Int32)) s6))))) ∧ (¬ 0 ≤ x5 → (Q x5 s6)))) s3)))) s1)
set_option maxHeartbeats 4000000 in
theorem t_X12_asked_ {o : gOm} {l : Launch} {b : Bool}   {σ : gSt} (hR : σ.2.2 = gRf b) {p0 : Int32} {Q : Int32 → gSt → Prop} (h : W_X12_asked_ p0 Q σ) : Sp o l mX12_asked_ 19 0 0 [.ref (ad o 65), .int p0] 116 116 σ (pI (fun x s => s.2.2 = gRf b ∧ Q x s)) := by
  unfold W_X12_asked_ at h
  refine Sp.of (ls0 := [some (.ref (ad o 65)), some (.int p0), none, none, none, none, none, none, none, none, none]) miX12_asked_ rfl (Nat.le_of_ble_eq_true rfl) rfl (fun γ hγ hnm X Y => ?_)
  subst hγ
  have X : gX o γ cX12_asked_ 11 RX12 := X
  refine g_aload_0 (pc := 0) X dX12_asked__0 ?_
  refine g_iconst (pc := 1) X dX12_asked__1 kiconst_0 ?_
  refine g_putI_w (pc := 2) X dX12_asked__2 fl_X12_1 rfl (by decide) rfl rfl hR h (fun s1 hR h => ?_)
  refine g_aload_0 (pc := 5) X dX12_asked__5 ?_
  refine g_iload_1 (pc := 6) X dX12_asked__6 ?_
  refine g_callV_I (pc := 7) X Y dX12_asked__7 miX12_isEntry li_X12_183 (t_X12_isEntry hR  h) rfl (by decide) rfl ⟨_, rfl⟩ rfl ⟨Nat.le_of_ble_eq_true rfl, Nat.le_of_ble_eq_true rfl⟩ (Nat.le_of_ble_eq_true rfl) (Nat.le_of_ble_eq_true rfl) rfl (by exact Nat.le_of_ble_eq_true rfl) (fun x2 s3 hp => ?_)
  obtain ⟨hR, h⟩ := hp
  refine g_if_ne (pc := 10) X dX12_asked__10 (tgt := 15) (by decide) (fun q4 => ?_) (fun q4 => ?_)
  · replace h := h.2 q4
    refine g_aload_0 (pc := 15) X dX12_asked__15 ?_
    refine g_iload_1 (pc := 16) X dX12_asked__16 ?_
    refine g_callV_I (pc := 17) X Y dX12_asked__17 miX12_partOf li_X12_547 (t_X12_partOf hR  h) rfl (by decide) rfl ⟨_, rfl⟩ rfl ⟨Nat.le_of_ble_eq_true rfl, Nat.le_of_ble_eq_true rfl⟩ (Nat.le_of_ble_eq_true rfl) (Nat.le_of_ble_eq_true rfl) rfl (by exact Nat.le_of_ble_eq_true rfl) (fun x5 s6 hp => ?_)
    obtain ⟨hR, h⟩ := hp
    refine g_istore_2 (pc := 20) X dX12_asked__20 (by decide) rfl ?_
    refine g_iload_2 (pc := 21) X dX12_asked__21 ?_
    refine g_if_ge (pc := 22) X dX12_asked__22 (tgt := 27) (by decide) (fun q7 => ?_) (fun q7 => ?_)
    · replace h := h.1 q7
      refine g_aload_0 (pc := 27) X dX12_asked__27 ?_
      refine g_getI (pc := 28) X dX12_asked__28 rfl (by decide) fl_X12_517 (Or.inl rfl) ?_
      refine g_sipush (pc := 31) X dX12_asked__31 ksipush_200 ?_
      refine g_icmp_le (pc := 34) X dX12_asked__34 (tgt := 40) (by decide) (fun q8 => ?_) (fun q8 => ?_)
      · replace h := h.1 q8
        refine g_iconst (pc := 40) X dX12_asked__40 kiconst_m1 ?_
        refine g_istore_3 (pc := 41) X dX12_asked__41 (by decide) rfl ?_
        refine g_iconst (pc := 42) X dX12_asked__42 kiconst_0 ?_
        refine g_istore_4 (pc := 43) X dX12_asked__43 (by decide) rfl ?_
        refine g_iconst (pc := 45) X dX12_asked__45 kiconst_0 ?_
        refine g_istore_5 (pc := 46) X dX12_asked__46 (by decide) rfl ?_
        obtain ⟨n37, h⟩ := h
        have hL : ∀  (K : Int32 → Prop) (_ : ∀ (y12 : Int32), K y12 → G o γ 0 0 116 s6 196 [some (.ref (ad o 65)), none, none, some (.int y12), none, none, none, none, none, none, none] []) (n : Nat) (v9 : Int32) (v10 : Int32) (v11 : Int32), L_X12_asked__48 Q s6 K n v9 v10 v11 → G o γ 0 0 116 s6 48 [some (.ref (ad o 65)), none, none, some (.int v9), some (.int v10), some (.int v11), none, none, none, none, none] [] := by
          intro K hK n
          induction n with
          | zero => intro v9 v10 v11 h; exact False.elim h
          | succ n ih =>
            intro v9 v10 v11 h
            rw [L_X12_asked__48] at h
            refine g_iload_5 (pc := 48) X dX12_asked__48 ?_
            refine g_aload_0 (pc := 50) X dX12_asked__50 ?_
            refine g_getI (pc := 51) X dX12_asked__51 rfl (by decide) fl_X12_194 (Or.inl rfl) ?_
            refine g_icmp_ge (pc := 54) X dX12_asked__54 (tgt := 196) (by decide) (fun q13 => ?_) (fun q13 => ?_)
            · replace h := h.1 q13
              exact g_drop (by simp [lsub]) (hK v9 h)
            · replace h := h.2 q13
              refine g_iload_5 (pc := 57) X dX12_asked__57 ?_
              refine g_iconst (pc := 59) X dX12_asked__59 kiconst_1 ?_
              refine g_iadd (pc := 60) X dX12_asked__60 ?_
              refine g_istore_6 (pc := 61) X dX12_asked__61 (by decide) rfl ?_
              obtain ⟨n34, h⟩ := h
              have hL : ∀ (c14 : Int32) (K : Int32 → Int32 → Prop) (_ : ∀ (y18 : Int32) (y19 : Int32), K y18 y19 → G o γ 0 0 116 s6 190 [some (.ref (ad o 65)), none, none, some (.int y18), some (.int y19), some (.int c14), none, none, none, none, none] []) (n : Nat) (v15 : Int32) (v16 : Int32) (v17 : Int32), L_X12_asked__63 Q c14 s6 K n v15 v16 v17 → G o γ 0 0 116 s6 63 [some (.ref (ad o 65)), none, none, some (.int v15), some (.int v16), some (.int c14), some (.int v17), none, none, none, none] [] := by
                intro c14 K hK n
                induction n with
                | zero => intro v15 v16 v17 h; exact False.elim h
                | succ n ih =>
                  intro v15 v16 v17 h
                  rw [L_X12_asked__63] at h
                  refine g_iload_6 (pc := 63) X dX12_asked__63 ?_
                  refine g_aload_0 (pc := 65) X dX12_asked__65 ?_
                  refine g_getI (pc := 66) X dX12_asked__66 rfl (by decide) fl_X12_194 (Or.inl rfl) ?_
                  refine g_icmp_ge (pc := 69) X dX12_asked__69 (tgt := 190) (by decide) (fun q20 => ?_) (fun q20 => ?_)
                  · replace h := h.1 q20
                    exact g_drop (by simp [lsub]) (hK v15 v16 h)
                  · replace h := h.2 q20
                    refine g_iload_5 (pc := 72) X dX12_asked__72 ?_
                    refine g_iload_6 (pc := 74) X dX12_asked__74 ?_
                    refine g_callS_I (pc := 76) X Y dX12_asked__76 miX12_bitOf li_X12_514 (t_X12_bitOf hR  h) rfl ⟨Nat.le_of_ble_eq_true rfl, Nat.le_of_ble_eq_true rfl⟩ (Nat.le_of_ble_eq_true rfl) (Nat.le_of_ble_eq_true rfl) rfl (by exact Nat.le_of_ble_eq_true rfl) (fun x21 σ9 hp => ?_)
                    obtain ⟨rfl, h⟩ := hp
                    refine g_istore_7 (pc := 79) X dX12_asked__79 (by decide) rfl ?_
                    refine g_aload_0 (pc := 81) X dX12_asked__81 ?_
                    refine g_getL (pc := 82) X dX12_asked__82 rfl (by decide) fl_X12_526 rfl ?_
                    refine g_iload_7 (pc := 85) X dX12_asked__85 ?_
                    refine g_lshr (pc := 87) X dX12_asked__87 ?_
                    refine g_lconst (pc := 88) X dX12_asked__88 (v := lN 1) rfl ?_
                    refine g_land (pc := 89) X dX12_asked__89 ?_
                    refine g_lconst (pc := 90) X dX12_asked__90 (v := lN 0) rfl ?_
                    refine g_lcmp_eq (pc := 91) X dX12_asked__91 dX12_asked__92 (tgt := 184) (by decide) (fun q22 => ?_) (fun q22 => ?_)
                    · replace h := h.1 q22
                      refine g_iinc_6 (pc := 184) X dX12_asked__184 (v := v17 + nI 1) rfl (by decide) rfl ?_
                      refine g_goto (pc := 187) X dX12_asked__187 (tgt := 63) (by decide) ?_
                      exact g_drop (by simp [lsub]) (ih v15 v16 (v17 + nI 1) h)
                    · replace h := h.2 q22
                      refine g_aload_0 (pc := 95) X dX12_asked__95 ?_
                      refine g_getL (pc := 96) X dX12_asked__96 rfl (by decide) fl_X12_523 rfl ?_
                      refine g_iload_7 (pc := 99) X dX12_asked__99 ?_
                      refine g_lshr (pc := 101) X dX12_asked__101 ?_
                      refine g_lconst (pc := 102) X dX12_asked__102 (v := lN 1) rfl ?_
                      refine g_land (pc := 103) X dX12_asked__103 ?_
                      refine g_lconst (pc := 104) X dX12_asked__104 (v := lN 1) rfl ?_
                      refine g_lcmp_ne (pc := 105) X dX12_asked__105 dX12_asked__106 (tgt := 112) (by decide) (fun q23 => ?_) (fun q23 => ?_)
                      · replace h := h.2 q23
                        refine g_aload_0 (pc := 112) X dX12_asked__112 ?_
                        refine g_iload_7 (pc := 113) X dX12_asked__113 ?_
                        refine g_lconst (pc := 115) X dX12_asked__115 (v := lN 1) rfl ?_
                        refine g_callV_I (pc := 116) X Y dX12_asked__116 miX12_freeIn li_X12_573 (t_X12_freeIn hR  h) rfl (by decide) rfl ⟨_, rfl⟩ rfl ⟨Nat.le_of_ble_eq_true rfl, Nat.le_of_ble_eq_true rfl⟩ (Nat.le_of_ble_eq_true rfl) (Nat.le_of_ble_eq_true rfl) rfl (by exact Nat.le_of_ble_eq_true rfl) (fun x24 σ9 hp => ?_)
                        obtain ⟨rfl, h⟩ := hp
                        refine g_istore_8 (pc := 119) X dX12_asked__119 (by decide) rfl ?_
                        refine g_aload_0 (pc := 121) X dX12_asked__121 ?_
                        refine g_iload_7 (pc := 122) X dX12_asked__122 ?_
                        refine g_lconst (pc := 124) X dX12_asked__124 (v := lN 0) rfl ?_
                        refine g_callV_I (pc := 125) X Y dX12_asked__125 miX12_freeIn li_X12_573 (t_X12_freeIn hR  h) rfl (by decide) rfl ⟨_, rfl⟩ rfl ⟨Nat.le_of_ble_eq_true rfl, Nat.le_of_ble_eq_true rfl⟩ (Nat.le_of_ble_eq_true rfl) (Nat.le_of_ble_eq_true rfl) rfl (by exact Nat.le_of_ble_eq_true rfl) (fun x25 σ9 hp => ?_)
                        obtain ⟨rfl, h⟩ := hp
                        refine g_istore_9 (pc := 128) X dX12_asked__128 (by decide) rfl ?_
                        refine g_iload_8 (pc := 130) X dX12_asked__130 ?_
                        refine g_iload_9 (pc := 132) X dX12_asked__132 ?_
                        replace h := h (fun x26 => G o γ 0 0 116 s6 144 [some (.ref (ad o 65)), none, none, some (.int v15), some (.int v16), some (.int c14), some (.int v17), none, none, none, none] [.int x26]) (by
                            intro x26 h
                            refine g_istore_10 (pc := 144) X dX12_asked__144 (by decide) rfl ?_
                            refine g_iload_3 (pc := 146) X dX12_asked__146 ?_
                            refine g_iconst (pc := 147) X dX12_asked__147 kiconst_m1 ?_
                            replace h := h (G o γ 0 0 116 s6 161 [some (.ref (ad o 65)), none, none, none, none, some (.int c14), some (.int v17), none, none, none, some (.int x26)] []) (by
                                intro  h
                                refine g_bipush (pc := 161) X dX12_asked__161 kbipush_32 ?_
                                refine g_aload_0 (pc := 163) X dX12_asked__163 ?_
                                refine g_getRf (pc := 164) X dX12_asked__164 fl_X12_138 rfl (by decide) rfl hR rfl ?_
                                refine g_iload_5 (pc := 167) X dX12_asked__167 ?_
                                refine g_iaload_w (pc := 169) X dX12_asked__169 rfl (by decide) h (fun x29 h => ?_)
                                refine g_imul (pc := 170) X dX12_asked__170 ?_
                                refine g_aload_0 (pc := 171) X dX12_asked__171 ?_
                                refine g_getRf (pc := 172) X dX12_asked__172 fl_X12_138 rfl (by decide) rfl hR rfl ?_
                                refine g_iload_6 (pc := 175) X dX12_asked__175 ?_
                                refine g_iaload_w (pc := 177) X dX12_asked__177 rfl (by decide) h (fun x30 h => ?_)
                                refine g_iadd (pc := 178) X dX12_asked__178 ?_
                                refine g_istore_3 (pc := 179) X dX12_asked__179 (by decide) rfl ?_
                                refine g_iload_10 (pc := 180) X dX12_asked__180 ?_
                                refine g_istore_4 (pc := 182) X dX12_asked__182 (by decide) rfl ?_
                                refine g_iinc_6 (pc := 184) X dX12_asked__184 (v := v17 + nI 1) rfl (by decide) rfl ?_
                                refine g_goto (pc := 187) X dX12_asked__187 (tgt := 63) (by decide) ?_
                                exact g_drop (by simp [lsub]) (ih (((nI 32) * x29) + x30) x26 (v17 + nI 1) h))
                            refine g_icmp_eq (pc := 148) X dX12_asked__148 (tgt := 161) (by decide) (fun q31 => ?_) (fun q31 => ?_)
                            · replace h := h.1 q31
                              exact g_drop (by simp [lsub]) (h)
                            · replace h := h.2 q31
                              refine g_iload_10 (pc := 151) X dX12_asked__151 ?_
                              refine g_iload_4 (pc := 153) X dX12_asked__153 ?_
                              refine g_icmp_lt (pc := 155) X dX12_asked__155 (tgt := 161) (by decide) (fun q32 => ?_) (fun q32 => ?_)
                              · replace h := h.1 q32
                                exact g_drop (by simp [lsub]) (h)
                              · replace h := h.2 q32
                                refine g_goto (pc := 158) X dX12_asked__158 (tgt := 184) (by decide) ?_
                                refine g_iinc_6 (pc := 184) X dX12_asked__184 (v := v17 + nI 1) rfl (by decide) rfl ?_
                                refine g_goto (pc := 187) X dX12_asked__187 (tgt := 63) (by decide) ?_
                                exact g_drop (by simp [lsub]) (ih v15 v16 (v17 + nI 1) h))
                        refine g_icmp_le (pc := 134) X dX12_asked__134 (tgt := 142) (by decide) (fun q33 => ?_) (fun q33 => ?_)
                        · replace h := h.1 q33
                          refine g_iload_9 (pc := 142) X dX12_asked__142 ?_
                          exact g_drop (by simp [lsub]) (h)
                        · replace h := h.2 q33
                          refine g_iload_8 (pc := 137) X dX12_asked__137 ?_
                          refine g_goto (pc := 139) X dX12_asked__139 (tgt := 144) (by decide) ?_
                          exact g_drop (by simp [lsub]) (h)
                      · replace h := h.1 q23
                        refine g_goto (pc := 109) X dX12_asked__109 (tgt := 184) (by decide) ?_
                        refine g_iinc_6 (pc := 184) X dX12_asked__184 (v := v17 + nI 1) rfl (by decide) rfl ?_
                        refine g_goto (pc := 187) X dX12_asked__187 (tgt := 63) (by decide) ?_
                        exact g_drop (by simp [lsub]) (ih v15 v16 (v17 + nI 1) h)
              refine hL v11 _ (fun y35 y36 h => ?_) n34 v9 v10 (v11 + (nI 1)) h
              · refine g_iinc_5 (pc := 190) X dX12_asked__190 (v := v11 + nI 1) rfl (by decide) rfl ?_
                refine g_goto (pc := 193) X dX12_asked__193 (tgt := 48) (by decide) ?_
                exact ih y35 y36 (v11 + nI 1) h
        refine g_drop (by simp [lsub]) (hL  _ (fun y38 h => ?_) n37 ((-1 : Int32)) (nI 0) (nI 0) h)
        · refine g_iload_3 (pc := 196) X dX12_asked__196 ?_
          exact g_ireturn (pc := 197) X Y dX12_asked__197 (Nat.le_of_ble_eq_true rfl) (Nat.le_of_ble_eq_true rfl) ⟨_, rfl, hR, h⟩
      · replace h := h.2 q8
        refine g_bipush (pc := 37) X dX12_asked__37 kbipush_m2 ?_
        exact g_ireturn (pc := 39) X Y dX12_asked__39 (Nat.le_of_ble_eq_true rfl) (Nat.le_of_ble_eq_true rfl) ⟨_, rfl, hR, h⟩
    · replace h := h.2 q7
      refine g_iload_2 (pc := 25) X dX12_asked__25 ?_
      exact g_ireturn (pc := 26) X Y dX12_asked__26 (Nat.le_of_ble_eq_true rfl) (Nat.le_of_ble_eq_true rfl) ⟨_, rfl, hR, h⟩
  · replace h := h.1 q4
    refine g_iconst (pc := 13) X dX12_asked__13 kiconst_0 ?_
    exact g_ireturn (pc := 14) X Y dX12_asked__14 (Nat.le_of_ble_eq_true rfl) (Nat.le_of_ble_eq_true rfl) ⟨_, rfl, hR, h⟩
def W_X12_findNear (p0 : Int32) (p1 : Int32) (Q : Int32 → gSt → Prop) (σ : gSt) : Prop := W_X12_partOf p0 (fun x1 s2 => ((0 ≤ x1 → (fL s2 65 76 ((s2.2.1 65 75) + (i2l p1)) (fun s4 => fI s4 65 74 ((-1 : Int32)) (fun s5 => W_X12_walks (nI 2) (fun s6 => Q (nI 0) s6) s5)))) ∧ (¬ 0 ≤ x1 → (Q x1 s2)))) σ
set_option maxHeartbeats 4000000 in
theorem t_X12_findNear {o : gOm} {l : Launch} {b : Bool}   {σ : gSt} (hR : σ.2.2 = gRf b) {p0 : Int32} {p1 : Int32} {Q : Int32 → gSt → Prop} (h : W_X12_findNear p0 p1 Q σ) : Sp o l mX12_findNear 19 0 0 [.ref (ad o 65), .int p0, .int p1] 116 116 σ (pI (fun x s => s.2.2 = gRf b ∧ Q x s)) := by
  unfold W_X12_findNear at h
  refine Sp.of (ls0 := [some (.ref (ad o 65)), some (.int p0), some (.int p1), none]) miX12_findNear rfl (Nat.le_of_ble_eq_true rfl) rfl (fun γ hγ hnm X Y => ?_)
  subst hγ
  have X : gX o γ cX12_findNear 4 RX12 := X
  refine g_aload_0 (pc := 0) X dX12_findNear_0 ?_
  refine g_iload_1 (pc := 1) X dX12_findNear_1 ?_
  refine g_callV_I (pc := 2) X Y dX12_findNear_2 miX12_partOf li_X12_547 (t_X12_partOf hR  h) rfl (by decide) rfl ⟨_, rfl⟩ rfl ⟨Nat.le_of_ble_eq_true rfl, Nat.le_of_ble_eq_true rfl⟩ (Nat.le_of_ble_eq_true rfl) (Nat.le_of_ble_eq_true rfl) rfl (by exact Nat.le_of_ble_eq_true rfl) (fun x1 s2 hp => ?_)
  obtain ⟨hR, h⟩ := hp
  refine g_istore_3 (pc := 5) X dX12_findNear_5 (by decide) rfl ?_
  refine g_iload_3 (pc := 6) X dX12_findNear_6 ?_
  refine g_if_ge (pc := 7) X dX12_findNear_7 (tgt := 12) (by decide) (fun q3 => ?_) (fun q3 => ?_)
  · replace h := h.1 q3
    refine g_aload_0 (pc := 12) X dX12_findNear_12 ?_
    refine g_aload_0 (pc := 13) X dX12_findNear_13 ?_
    refine g_getL (pc := 14) X dX12_findNear_14 rfl (by decide) fl_X12_483 rfl ?_
    refine g_iload_2 (pc := 17) X dX12_findNear_17 ?_
    refine g_i2l (pc := 18) X dX12_findNear_18 ?_
    refine g_ladd (pc := 19) X dX12_findNear_19 ?_
    refine g_putL_w (pc := 20) X dX12_findNear_20 fl_X12_492 rfl (by decide) rfl rfl hR h (fun s4 hR h => ?_)
    refine g_aload_0 (pc := 23) X dX12_findNear_23 ?_
    refine g_iconst (pc := 24) X dX12_findNear_24 kiconst_m1 ?_
    refine g_putI_w (pc := 25) X dX12_findNear_25 fl_X12_538 rfl (by decide) rfl rfl hR h (fun s5 hR h => ?_)
    refine g_aload_0 (pc := 28) X dX12_findNear_28 ?_
    refine g_iconst (pc := 29) X dX12_findNear_29 kiconst_2 ?_
    refine g_callV_V (pc := 30) X Y dX12_findNear_30 miX12_walks li_X12_541 (t_X12_walks hR  h) rfl (by decide) rfl ⟨_, rfl⟩ rfl ⟨Nat.le_of_ble_eq_true rfl, Nat.le_of_ble_eq_true rfl⟩ (Nat.le_of_ble_eq_true rfl) (Nat.le_of_ble_eq_true rfl) rfl (by exact Nat.le_of_ble_eq_true rfl) (fun s6 hp => ?_)
    obtain ⟨hR, h⟩ := hp
    refine g_iconst (pc := 33) X dX12_findNear_33 kiconst_0 ?_
    exact g_ireturn (pc := 34) X Y dX12_findNear_34 (Nat.le_of_ble_eq_true rfl) (Nat.le_of_ble_eq_true rfl) ⟨_, rfl, hR, h⟩
  · replace h := h.2 q3
    refine g_iload_3 (pc := 10) X dX12_findNear_10 ?_
    exact g_ireturn (pc := 11) X Y dX12_findNear_11 (Nat.le_of_ble_eq_true rfl) (Nat.le_of_ble_eq_true rfl) ⟨_, rfl, hR, h⟩
def W_X12_near (p0 : Int32) (p1 : Int32) (Q : Int32 → gSt → Prop) (σ : gSt) : Prop := fI σ 65 0 (nI 0) (fun s1 => W_X12_isEntry p0 (fun x2 s3 => ((x2 = 0 → (Q (nI 0) s3)) ∧ (¬ x2 = 0 → (W_X12_within p1 (nI 0) ((100000 : Int32)) (fun x5 => W_X12_may x5 (nI 2) (fun x6 s7 => ((x6 = 0 → (Q (nI 0) s7)) ∧ (¬ x6 = 0 → (W_X12_findNear p0 p1 (fun x9 s10 => ((0 ≤ x9 → (Q (s10.1 65 74) s10)) ∧ (¬ 0 ≤ x9 → (Q x9 s10)))) s7)))) s3) s3)))) s1)
set_option maxHeartbeats 4000000 in
theorem t_X12_near {o : gOm} {l : Launch} {b : Bool}   {σ : gSt} (hR : σ.2.2 = gRf b) {p0 : Int32} {p1 : Int32} {Q : Int32 → gSt → Prop} (h : W_X12_near p0 p1 Q σ) : Sp o l mX12_near 20 0 0 [.ref (ad o 65), .int p0, .int p1] 116 116 σ (pI (fun x s => s.2.2 = gRf b ∧ Q x s)) := by
  unfold W_X12_near at h
  refine Sp.of (ls0 := [some (.ref (ad o 65)), some (.int p0), some (.int p1), none]) miX12_near rfl (Nat.le_of_ble_eq_true rfl) rfl (fun γ hγ hnm X Y => ?_)
  subst hγ
  have X : gX o γ cX12_near 4 RX12 := X
  refine g_aload_0 (pc := 0) X dX12_near_0 ?_
  refine g_iconst (pc := 1) X dX12_near_1 kiconst_0 ?_
  refine g_putI_w (pc := 2) X dX12_near_2 fl_X12_1 rfl (by decide) rfl rfl hR h (fun s1 hR h => ?_)
  refine g_aload_0 (pc := 5) X dX12_near_5 ?_
  refine g_iload_1 (pc := 6) X dX12_near_6 ?_
  refine g_callV_I (pc := 7) X Y dX12_near_7 miX12_isEntry li_X12_183 (t_X12_isEntry hR  h) rfl (by decide) rfl ⟨_, rfl⟩ rfl ⟨Nat.le_of_ble_eq_true rfl, Nat.le_of_ble_eq_true rfl⟩ (Nat.le_of_ble_eq_true rfl) (Nat.le_of_ble_eq_true rfl) rfl (by exact Nat.le_of_ble_eq_true rfl) (fun x2 s3 hp => ?_)
  obtain ⟨hR, h⟩ := hp
  refine g_if_eq (pc := 10) X dX12_near_10 (tgt := 29) (by decide) (fun q4 => ?_) (fun q4 => ?_)
  · replace h := h.1 q4
    refine g_iconst (pc := 29) X dX12_near_29 kiconst_0 ?_
    exact g_ireturn (pc := 30) X Y dX12_near_30 (Nat.le_of_ble_eq_true rfl) (Nat.le_of_ble_eq_true rfl) ⟨_, rfl, hR, h⟩
  · replace h := h.2 q4
    refine g_aload_0 (pc := 13) X dX12_near_13 ?_
    refine g_iload_2 (pc := 14) X dX12_near_14 ?_
    refine g_iconst (pc := 15) X dX12_near_15 kiconst_0 ?_
    refine g_ldcw (pc := 16) X dX12_near_16 ct_X12_577 ?_
    refine g_callS_I (pc := 19) X Y dX12_near_19 miX12_within li_X12_169 (t_X12_within hR  h) rfl ⟨Nat.le_of_ble_eq_true rfl, Nat.le_of_ble_eq_true rfl⟩ (Nat.le_of_ble_eq_true rfl) (Nat.le_of_ble_eq_true rfl) rfl (by exact Nat.le_of_ble_eq_true rfl) (fun x5 σ9 hp => ?_)
    obtain ⟨rfl, h⟩ := hp
    refine g_iconst (pc := 22) X dX12_near_22 kiconst_2 ?_
    refine g_callV_I (pc := 23) X Y dX12_near_23 miX12_may li_X12_173 (t_X12_may hR  h) rfl (by decide) rfl ⟨_, rfl⟩ rfl ⟨Nat.le_of_ble_eq_true rfl, Nat.le_of_ble_eq_true rfl⟩ (Nat.le_of_ble_eq_true rfl) (Nat.le_of_ble_eq_true rfl) rfl (by exact Nat.le_of_ble_eq_true rfl) (fun x6 s7 hp => ?_)
    obtain ⟨hR, h⟩ := hp
    refine g_if_ne (pc := 26) X dX12_near_26 (tgt := 31) (by decide) (fun q8 => ?_) (fun q8 => ?_)
    · replace h := h.2 q8
      refine g_aload_0 (pc := 31) X dX12_near_31 ?_
      refine g_iload_1 (pc := 32) X dX12_near_32 ?_
      refine g_iload_2 (pc := 33) X dX12_near_33 ?_
      refine g_callV_I (pc := 34) X Y dX12_near_34 miX12_findNear li_X12_578 (t_X12_findNear hR  h) rfl (by decide) rfl ⟨_, rfl⟩ rfl ⟨Nat.le_of_ble_eq_true rfl, Nat.le_of_ble_eq_true rfl⟩ (Nat.le_of_ble_eq_true rfl) (Nat.le_of_ble_eq_true rfl) rfl (by exact Nat.le_of_ble_eq_true rfl) (fun x9 s10 hp => ?_)
      obtain ⟨hR, h⟩ := hp
      refine g_istore_3 (pc := 37) X dX12_near_37 (by decide) rfl ?_
      refine g_iload_3 (pc := 38) X dX12_near_38 ?_
      refine g_if_ge (pc := 39) X dX12_near_39 (tgt := 46) (by decide) (fun q11 => ?_) (fun q11 => ?_)
      · replace h := h.1 q11
        refine g_aload_0 (pc := 46) X dX12_near_46 ?_
        refine g_getI (pc := 47) X dX12_near_47 rfl (by decide) fl_X12_538 (Or.inl rfl) ?_
        exact g_ireturn (pc := 50) X Y dX12_near_50 (Nat.le_of_ble_eq_true rfl) (Nat.le_of_ble_eq_true rfl) ⟨_, rfl, hR, h⟩
      · replace h := h.2 q11
        refine g_iload_3 (pc := 42) X dX12_near_42 ?_
        refine g_goto (pc := 43) X dX12_near_43 (tgt := 50) (by decide) ?_
        exact g_ireturn (pc := 50) X Y dX12_near_50 (Nat.le_of_ble_eq_true rfl) (Nat.le_of_ble_eq_true rfl) ⟨_, rfl, hR, h⟩
    · replace h := h.1 q8
      refine g_iconst (pc := 29) X dX12_near_29 kiconst_0 ?_
      exact g_ireturn (pc := 30) X Y dX12_near_30 (Nat.le_of_ble_eq_true rfl) (Nat.le_of_ble_eq_true rfl) ⟨_, rfl, hR, h⟩
def W_X12_nearest (p0 : Int32) (p1 : Int32) (Q : Int32 → gSt → Prop) (σ : gSt) : Prop := fI σ 65 0 (nI 0) (fun s1 => W_X12_isEntry p0 (fun x2 s3 => ((x2 = 0 → (Q (nI 0) s3)) ∧ (¬ x2 = 0 → (W_X12_within p1 (nI 0) ((100000 : Int32)) (fun x5 => W_X12_may x5 (nI 2) (fun x6 s7 => ((x6 = 0 → (Q (nI 0) s7)) ∧ (¬ x6 = 0 → (W_X12_findNear p0 p1 (fun x9 s10 => ((0 ≤ x9 → (W_X12_place p0 (fun x12 => W_X12_heapNumber 109 x12 (fun x13 => Q x13 s10) s10) s10)) ∧ (¬ 0 ≤ x9 → (Q x9 s10)))) s7)))) s3) s3)))) s1)
set_option maxHeartbeats 4000000 in
theorem t_X12_nearest {o : gOm} {l : Launch} {b : Bool}   {σ : gSt} (hR : σ.2.2 = gRf b) {p0 : Int32} {p1 : Int32} {Q : Int32 → gSt → Prop} (h : W_X12_nearest p0 p1 Q σ) : Sp o l mX12_nearest 20 0 0 [.ref (ad o 65), .int p0, .int p1] 116 116 σ (pI (fun x s => s.2.2 = gRf b ∧ Q x s)) := by
  unfold W_X12_nearest at h
  refine Sp.of (ls0 := [some (.ref (ad o 65)), some (.int p0), some (.int p1), none]) miX12_nearest rfl (Nat.le_of_ble_eq_true rfl) rfl (fun γ hγ hnm X Y => ?_)
  subst hγ
  have X : gX o γ cX12_nearest 4 RX12 := X
  refine g_aload_0 (pc := 0) X dX12_nearest_0 ?_
  refine g_iconst (pc := 1) X dX12_nearest_1 kiconst_0 ?_
  refine g_putI_w (pc := 2) X dX12_nearest_2 fl_X12_1 rfl (by decide) rfl rfl hR h (fun s1 hR h => ?_)
  refine g_aload_0 (pc := 5) X dX12_nearest_5 ?_
  refine g_iload_1 (pc := 6) X dX12_nearest_6 ?_
  refine g_callV_I (pc := 7) X Y dX12_nearest_7 miX12_isEntry li_X12_183 (t_X12_isEntry hR  h) rfl (by decide) rfl ⟨_, rfl⟩ rfl ⟨Nat.le_of_ble_eq_true rfl, Nat.le_of_ble_eq_true rfl⟩ (Nat.le_of_ble_eq_true rfl) (Nat.le_of_ble_eq_true rfl) rfl (by exact Nat.le_of_ble_eq_true rfl) (fun x2 s3 hp => ?_)
  obtain ⟨hR, h⟩ := hp
  refine g_if_eq (pc := 10) X dX12_nearest_10 (tgt := 29) (by decide) (fun q4 => ?_) (fun q4 => ?_)
  · replace h := h.1 q4
    refine g_iconst (pc := 29) X dX12_nearest_29 kiconst_0 ?_
    exact g_ireturn (pc := 30) X Y dX12_nearest_30 (Nat.le_of_ble_eq_true rfl) (Nat.le_of_ble_eq_true rfl) ⟨_, rfl, hR, h⟩
  · replace h := h.2 q4
    refine g_aload_0 (pc := 13) X dX12_nearest_13 ?_
    refine g_iload_2 (pc := 14) X dX12_nearest_14 ?_
    refine g_iconst (pc := 15) X dX12_nearest_15 kiconst_0 ?_
    refine g_ldcw (pc := 16) X dX12_nearest_16 ct_X12_577 ?_
    refine g_callS_I (pc := 19) X Y dX12_nearest_19 miX12_within li_X12_169 (t_X12_within hR  h) rfl ⟨Nat.le_of_ble_eq_true rfl, Nat.le_of_ble_eq_true rfl⟩ (Nat.le_of_ble_eq_true rfl) (Nat.le_of_ble_eq_true rfl) rfl (by exact Nat.le_of_ble_eq_true rfl) (fun x5 σ9 hp => ?_)
    obtain ⟨rfl, h⟩ := hp
    refine g_iconst (pc := 22) X dX12_nearest_22 kiconst_2 ?_
    refine g_callV_I (pc := 23) X Y dX12_nearest_23 miX12_may li_X12_173 (t_X12_may hR  h) rfl (by decide) rfl ⟨_, rfl⟩ rfl ⟨Nat.le_of_ble_eq_true rfl, Nat.le_of_ble_eq_true rfl⟩ (Nat.le_of_ble_eq_true rfl) (Nat.le_of_ble_eq_true rfl) rfl (by exact Nat.le_of_ble_eq_true rfl) (fun x6 s7 hp => ?_)
    obtain ⟨hR, h⟩ := hp
    refine g_if_ne (pc := 26) X dX12_nearest_26 (tgt := 31) (by decide) (fun q8 => ?_) (fun q8 => ?_)
    · replace h := h.2 q8
      refine g_aload_0 (pc := 31) X dX12_nearest_31 ?_
      refine g_iload_1 (pc := 32) X dX12_nearest_32 ?_
      refine g_iload_2 (pc := 33) X dX12_nearest_33 ?_
      refine g_callV_I (pc := 34) X Y dX12_nearest_34 miX12_findNear li_X12_578 (t_X12_findNear hR  h) rfl (by decide) rfl ⟨_, rfl⟩ rfl ⟨Nat.le_of_ble_eq_true rfl, Nat.le_of_ble_eq_true rfl⟩ (Nat.le_of_ble_eq_true rfl) (Nat.le_of_ble_eq_true rfl) rfl (by exact Nat.le_of_ble_eq_true rfl) (fun x9 s10 hp => ?_)
      obtain ⟨hR, h⟩ := hp
      refine g_istore_3 (pc := 37) X dX12_nearest_37 (by decide) rfl ?_
      refine g_iload_3 (pc := 38) X dX12_nearest_38 ?_
      refine g_if_ge (pc := 39) X dX12_nearest_39 (tgt := 46) (by decide) (fun q11 => ?_) (fun q11 => ?_)
      · replace h := h.1 q11
        refine g_aload_0 (pc := 46) X dX12_nearest_46 ?_
        refine g_aload_0 (pc := 47) X dX12_nearest_47 ?_
        refine g_getRf (pc := 48) X dX12_nearest_48 fl_X12_150 rfl (by decide) rfl hR rfl ?_
        refine g_aload_0 (pc := 51) X dX12_nearest_51 ?_
        refine g_iload_1 (pc := 52) X dX12_nearest_52 ?_
        refine g_callV_I (pc := 53) X Y dX12_nearest_53 miX12_place li_X12_550 (t_X12_place hR  h) rfl (by decide) rfl ⟨_, rfl⟩ rfl ⟨Nat.le_of_ble_eq_true rfl, Nat.le_of_ble_eq_true rfl⟩ (Nat.le_of_ble_eq_true rfl) (Nat.le_of_ble_eq_true rfl) rfl (by exact Nat.le_of_ble_eq_true rfl) (fun x12 σ9 hp => ?_)
        obtain ⟨rfl, h⟩ := hp
        refine g_callV_I (pc := 56) X Y dX12_nearest_56 miX12_heapNumber li_X12_553 (t_X12_heapNumber hR (by decide) (by decide) h) rfl (by decide) rfl ⟨_, rfl⟩ rfl ⟨Nat.le_of_ble_eq_true rfl, Nat.le_of_ble_eq_true rfl⟩ (Nat.le_of_ble_eq_true rfl) (Nat.le_of_ble_eq_true rfl) rfl (by exact Nat.le_of_ble_eq_true rfl) (fun x13 σ9 hp => ?_)
        obtain ⟨rfl, h⟩ := hp
        exact g_ireturn (pc := 59) X Y dX12_nearest_59 (Nat.le_of_ble_eq_true rfl) (Nat.le_of_ble_eq_true rfl) ⟨_, rfl, hR, h⟩
      · replace h := h.2 q11
        refine g_iload_3 (pc := 42) X dX12_nearest_42 ?_
        refine g_goto (pc := 43) X dX12_nearest_43 (tgt := 59) (by decide) ?_
        exact g_ireturn (pc := 59) X Y dX12_nearest_59 (Nat.le_of_ble_eq_true rfl) (Nat.le_of_ble_eq_true rfl) ⟨_, rfl, hR, h⟩
    · replace h := h.1 q8
      refine g_iconst (pc := 29) X dX12_nearest_29 kiconst_0 ?_
      exact g_ireturn (pc := 30) X Y dX12_nearest_30 (Nat.le_of_ble_eq_true rfl) (Nat.le_of_ble_eq_true rfl) ⟨_, rfl, hR, h⟩
def L_X12_findWithout_6 (k1 : Nat) (Q : Int64 → gSt → Prop) (c2 : Int32) (K : gSt → Prop) : Nat → Int32 → gSt → Prop
  | 0, _, _ => False
  | n6 + 1, v3, s4 => (((s4.1 65 1) ≤ v3 → (K s4)) ∧ (¬ (s4.1 65 1) ≤ v3 → (rI s4 66 30 v3 (fun x7 => ∀ J9 : Int32 → Prop, (∀ x8, (wZ s4 103 30 v3 x8 (fun s10 => L_X12_findWithout_6 k1 Q c2 K n6 (v3 + nI 1) s10)) → J9 x8) → ((x7 = c2 → (J9 (nI 0))) ∧ (¬ x7 = c2 → (J9 (nI 1))))))))
def W_X12_findWithout (p0 : Int32) (k1 : Nat) (Q : Int64 → gSt → Prop) (σ : gSt) : Prop := W_X12_weighs (fun s1 => ∃ m6, L_X12_findWithout_6 k1 Q p0 (fun s13 => W_X12_findAll k1 (fun x14 s15 => Q x14 s15) s13) m6 (nI 0) s1) σ
set_option maxHeartbeats 4000000 in
theorem t_X12_findWithout {o : gOm} {l : Launch} {b : Bool}   {σ : gSt} (hR : σ.2.2 = gRf b) {p0 : Int32} {k1 : Nat} {Q : Int64 → gSt → Prop} (hk1 : k1 < 116) (hk10 : (lay k1).1 = 0) (h : W_X12_findWithout p0 k1 Q σ) : Sp o l mX12_findWithout 19 0 0 [.ref (ad o 65), .int p0, .ref (ad o k1)] 116 116 σ (pL (fun x s => s.2.2 = gRf b ∧ Q x s)) := by
  have hk1y : lay k1 = (0, (lay k1).2) := Prod.ext hk10 rfl
  unfold W_X12_findWithout at h
  refine Sp.of (ls0 := [some (.ref (ad o 65)), some (.int p0), some (.ref (ad o k1)), none]) miX12_findWithout rfl (Nat.le_of_ble_eq_true rfl) rfl (fun γ hγ hnm X Y => ?_)
  subst hγ
  have X : gX o γ cX12_findWithout 4 RX12 := X
  refine g_aload_0 (pc := 0) X dX12_findWithout_0 ?_
  refine g_callV_V (pc := 1) X Y dX12_findWithout_1 miX12_weighs li_X12_385 (t_X12_weighs hR  h) rfl (by decide) rfl ⟨_, rfl⟩ rfl ⟨Nat.le_of_ble_eq_true rfl, Nat.le_of_ble_eq_true rfl⟩ (Nat.le_of_ble_eq_true rfl) (Nat.le_of_ble_eq_true rfl) rfl (by exact Nat.le_of_ble_eq_true rfl) (fun s1 hp => ?_)
  obtain ⟨hR, h⟩ := hp
  refine g_iconst (pc := 4) X dX12_findWithout_4 kiconst_0 ?_
  refine g_istore_3 (pc := 5) X dX12_findWithout_5 (by decide) rfl ?_
  obtain ⟨n12, h⟩ := h
  have hL : ∀ (c2 : Int32) (K : gSt → Prop) (_ : ∀  (s5 : gSt), s5.2.2 = gRf b → K s5 → G o γ 0 0 116 s5 41 [some (.ref (ad o 65)), some (.int c2), some (.ref (ad o k1)), none] []) (n : Nat) (v3 : Int32) (s4 : gSt), s4.2.2 = gRf b → L_X12_findWithout_6 k1 Q c2 K n v3 s4 → G o γ 0 0 116 s4 6 [some (.ref (ad o 65)), some (.int c2), some (.ref (ad o k1)), some (.int v3)] [] := by
    intro c2 K hK n
    induction n with
    | zero => intro v3 s4 hR h; exact False.elim h
    | succ n ih =>
      intro v3 s4 hR h
      rw [L_X12_findWithout_6] at h
      refine g_iload_3 (pc := 6) X dX12_findWithout_6 ?_
      refine g_aload_0 (pc := 7) X dX12_findWithout_7 ?_
      refine g_getI (pc := 8) X dX12_findWithout_8 rfl (by decide) fl_X12_177 (Or.inl rfl) ?_
      refine g_icmp_ge (pc := 11) X dX12_findWithout_11 (tgt := 41) (by decide) (fun q6 => ?_) (fun q6 => ?_)
      · replace h := h.1 q6
        exact g_drop (by simp [lsub]) (hK s4 hR h)
      · replace h := h.2 q6
        refine g_aload_0 (pc := 14) X dX12_findWithout_14 ?_
        refine g_getRf (pc := 15) X dX12_findWithout_15 fl_X12_132 rfl (by decide) rfl hR rfl ?_
        refine g_iload_3 (pc := 18) X dX12_findWithout_18 ?_
        refine g_aload_0 (pc := 19) X dX12_findWithout_19 ?_
        refine g_getRf (pc := 20) X dX12_findWithout_20 fl_X12_13 rfl (by decide) rfl hR rfl ?_
        refine g_iload_3 (pc := 23) X dX12_findWithout_23 ?_
        refine g_iaload_w (pc := 24) X dX12_findWithout_24 rfl (by decide) h (fun x7 h => ?_)
        refine g_iload_1 (pc := 25) X dX12_findWithout_25 ?_
        replace h := h (fun x8 => G o γ 0 0 116 s4 34 [some (.ref (ad o 65)), some (.int c2), some (.ref (ad o k1)), some (.int v3)] [.int x8, .int v3, .ref (ad o 103)]) (by
            intro x8 h
            refine g_bastore_w (pc := 34) X dX12_findWithout_34 rfl (by decide) hR h (fun s10 hR h => ?_)
            refine g_iinc_3 (pc := 35) X dX12_findWithout_35 (v := v3 + nI 1) rfl (by decide) rfl ?_
            refine g_goto (pc := 38) X dX12_findWithout_38 (tgt := 6) (by decide) ?_
            exact ih (v3 + nI 1) s10 hR h)
        refine g_icmp_eq (pc := 26) X dX12_findWithout_26 (tgt := 33) (by decide) (fun q11 => ?_) (fun q11 => ?_)
        · replace h := h.1 q11
          refine g_iconst (pc := 33) X dX12_findWithout_33 kiconst_0 ?_
          exact h
        · replace h := h.2 q11
          refine g_iconst (pc := 29) X dX12_findWithout_29 kiconst_1 ?_
          refine g_goto (pc := 30) X dX12_findWithout_30 (tgt := 34) (by decide) ?_
          exact h
  refine hL p0 _ (fun s13 hR h => ?_) n12 (nI 0) s1 hR h
  · refine g_aload_0 (pc := 41) X dX12_findWithout_41 ?_
    refine g_aload_2 (pc := 42) X dX12_findWithout_42 ?_
    refine g_callV_L (pc := 43) X Y dX12_findWithout_43 miX12_findAll li_X12_557 (t_X12_findAll hR hk1 (by rw [hk1y]) h) rfl (by decide) rfl ⟨_, rfl⟩ rfl ⟨Nat.le_of_ble_eq_true rfl, Nat.le_of_ble_eq_true rfl⟩ (Nat.le_of_ble_eq_true rfl) (Nat.le_of_ble_eq_true rfl) rfl (by exact Nat.le_of_ble_eq_true rfl) (fun x14 s15 hp => ?_)
    obtain ⟨hR, h⟩ := hp
    exact g_lreturn (pc := 46) X Y dX12_findWithout_46 (Nat.le_of_ble_eq_true rfl) (Nat.le_of_ble_eq_true rfl) ⟨_, rfl, hR, h⟩
def W_X12_without (p0 : Int32) (Q : Int64 → gSt → Prop) (σ : gSt) : Prop := fI σ 65 0 (nI 0) (fun s1 => W_X12_within p0 (nI 0) (nI 7) (fun x2 => W_X12_may x2 (nI 1) (fun x3 s4 => ((x3 = 0 → (Q (lN 0) s4)) ∧ (¬ x3 = 0 → (W_X12_findWithout p0 112 (fun x6 s7 => Q x6 s7) s4)))) s1) s1)
set_option maxHeartbeats 4000000 in
theorem t_X12_without {o : gOm} {l : Launch} {b : Bool}   {σ : gSt} (hR : σ.2.2 = gRf b) {p0 : Int32} {Q : Int64 → gSt → Prop} (h : W_X12_without p0 Q σ) : Sp o l mX12_without 20 0 0 [.ref (ad o 65), .int p0] 116 116 σ (pL (fun x s => s.2.2 = gRf b ∧ Q x s)) := by
  unfold W_X12_without at h
  refine Sp.of (ls0 := [some (.ref (ad o 65)), some (.int p0)]) miX12_without rfl (Nat.le_of_ble_eq_true rfl) rfl (fun γ hγ hnm X Y => ?_)
  subst hγ
  have X : gX o γ cX12_without 2 RX12 := X
  refine g_aload_0 (pc := 0) X dX12_without_0 ?_
  refine g_iconst (pc := 1) X dX12_without_1 kiconst_0 ?_
  refine g_putI_w (pc := 2) X dX12_without_2 fl_X12_1 rfl (by decide) rfl rfl hR h (fun s1 hR h => ?_)
  refine g_aload_0 (pc := 5) X dX12_without_5 ?_
  refine g_iload_1 (pc := 6) X dX12_without_6 ?_
  refine g_iconst (pc := 7) X dX12_without_7 kiconst_0 ?_
  refine g_bipush (pc := 8) X dX12_without_8 kbipush_7 ?_
  refine g_callS_I (pc := 10) X Y dX12_without_10 miX12_within li_X12_169 (t_X12_within hR  h) rfl ⟨Nat.le_of_ble_eq_true rfl, Nat.le_of_ble_eq_true rfl⟩ (Nat.le_of_ble_eq_true rfl) (Nat.le_of_ble_eq_true rfl) rfl (by exact Nat.le_of_ble_eq_true rfl) (fun x2 σ9 hp => ?_)
  obtain ⟨rfl, h⟩ := hp
  refine g_iconst (pc := 13) X dX12_without_13 kiconst_1 ?_
  refine g_callV_I (pc := 14) X Y dX12_without_14 miX12_may li_X12_173 (t_X12_may hR  h) rfl (by decide) rfl ⟨_, rfl⟩ rfl ⟨Nat.le_of_ble_eq_true rfl, Nat.le_of_ble_eq_true rfl⟩ (Nat.le_of_ble_eq_true rfl) (Nat.le_of_ble_eq_true rfl) rfl (by exact Nat.le_of_ble_eq_true rfl) (fun x3 s4 hp => ?_)
  obtain ⟨hR, h⟩ := hp
  refine g_if_ne (pc := 17) X dX12_without_17 (tgt := 22) (by decide) (fun q5 => ?_) (fun q5 => ?_)
  · replace h := h.2 q5
    refine g_aload_0 (pc := 22) X dX12_without_22 ?_
    refine g_iload_1 (pc := 23) X dX12_without_23 ?_
    refine g_aload_0 (pc := 24) X dX12_without_24 ?_
    refine g_getRf (pc := 25) X dX12_without_25 fl_X12_160 rfl (by decide) rfl hR rfl ?_
    refine g_callV_L (pc := 28) X Y dX12_without_28 miX12_findWithout li_X12_581 (t_X12_findWithout hR (by decide) (by decide) h) rfl (by decide) rfl ⟨_, rfl⟩ rfl ⟨Nat.le_of_ble_eq_true rfl, Nat.le_of_ble_eq_true rfl⟩ (Nat.le_of_ble_eq_true rfl) (Nat.le_of_ble_eq_true rfl) rfl (by exact Nat.le_of_ble_eq_true rfl) (fun x6 s7 hp => ?_)
    obtain ⟨hR, h⟩ := hp
    exact g_lreturn (pc := 31) X Y dX12_without_31 (Nat.le_of_ble_eq_true rfl) (Nat.le_of_ble_eq_true rfl) ⟨_, rfl, hR, h⟩
  · replace h := h.1 q5
    refine g_lconst (pc := 20) X dX12_without_20 (v := lN 0) rfl ?_
    exact g_lreturn (pc := 21) X Y dX12_without_21 (Nat.le_of_ble_eq_true rfl) (Nat.le_of_ble_eq_true rfl) ⟨_, rfl, hR, h⟩
def L_X12_isHeap_2 (Q : Int32 → Prop) (c1 : Int32) (c2 : Int32) (σ : gSt) (K : Prop) : Nat → Int32 → Prop
  | 0, _ => False
  | n2 + 1, v3 => (((σ.1 65 1) ≤ v3 → K) ∧ (¬ (σ.1 65 1) ≤ v3 → (rI σ 66 30 v3 (fun x5 => ((x5 = c2 → (L_X12_isHeap_2 Q c1 c2 σ K n2 (v3 + nI 1))) ∧ (¬ x5 = c2 → (rI σ 112 30 v3 (fun x7 => ∀ J9 : Int32 → Prop, (∀ x8, (rI σ 111 30 v3 (fun x10 => rI σ 111 30 c1 (fun x11 => ∀ J13 : Int32 → Prop, (∀ x12, (((x8 = x12 → (L_X12_isHeap_2 Q c1 c2 σ K n2 (v3 + nI 1))) ∧ (¬ x8 = x12 → (Q (nI 0))))) → J13 x12) → ((x10 = x11 → (J13 (nI 1))) ∧ (¬ x10 = x11 → (J13 (nI 0))))))) → J9 x8) → ((x7 = c1 → (J9 (nI 1))) ∧ (¬ x7 = c1 → (J9 (nI 0))))))))))))
def W_X12_isHeap (p0 : Int32) (p1 : Int32) (Q : Int32 → Prop) (σ : gSt) : Prop := ∃ m2, L_X12_isHeap_2 Q p0 p1 σ (Q (nI 1)) m2 (nI 0)
set_option maxHeartbeats 4000000 in
theorem t_X12_isHeap {o : gOm} {l : Launch} {b : Bool}   {σ : gSt} (hR : σ.2.2 = gRf b) {p0 : Int32} {p1 : Int32} {Q : Int32 → Prop} (h : W_X12_isHeap p0 p1 Q σ) : Sp o l mX12_isHeap 1 0 0 [.ref (ad o 65), .int p0, .int p1] 116 116 σ (pI (fun x s => σ = s ∧ Q x)) := by
  unfold W_X12_isHeap at h
  refine Sp.of (ls0 := [some (.ref (ad o 65)), some (.int p0), some (.int p1), none]) miX12_isHeap rfl (Nat.le_of_ble_eq_true rfl) rfl (fun γ hγ hnm X Y => ?_)
  subst hγ
  have X : gX o γ cX12_isHeap 4 RX12 := X
  refine g_iconst (pc := 0) X dX12_isHeap_0 kiconst_0 ?_
  refine g_istore_3 (pc := 1) X dX12_isHeap_1 (by decide) rfl ?_
  obtain ⟨n17, h⟩ := h
  have hL : ∀ (c1 : Int32) (c2 : Int32) (K : Prop) (_ : K → G o γ 0 0 116 σ 66 [some (.ref (ad o 65)), some (.int c1), some (.int c2), none] []) (n : Nat) (v3 : Int32), L_X12_isHeap_2 Q c1 c2 σ K n v3 → G o γ 0 0 116 σ 2 [some (.ref (ad o 65)), some (.int c1), some (.int c2), some (.int v3)] [] := by
    intro c1 c2 K hK n
    induction n with
    | zero => intro v3 h; exact False.elim h
    | succ n ih =>
      intro v3 h
      rw [L_X12_isHeap_2] at h
      refine g_iload_3 (pc := 2) X dX12_isHeap_2 ?_
      refine g_aload_0 (pc := 3) X dX12_isHeap_3 ?_
      refine g_getI (pc := 4) X dX12_isHeap_4 rfl (by decide) fl_X12_177 (Or.inl rfl) ?_
      refine g_icmp_ge (pc := 7) X dX12_isHeap_7 (tgt := 66) (by decide) (fun q4 => ?_) (fun q4 => ?_)
      · replace h := h.1 q4
        exact g_drop (by simp [lsub]) (hK  h)
      · replace h := h.2 q4
        refine g_aload_0 (pc := 10) X dX12_isHeap_10 ?_
        refine g_getRf (pc := 11) X dX12_isHeap_11 fl_X12_13 rfl (by decide) rfl hR rfl ?_
        refine g_iload_3 (pc := 14) X dX12_isHeap_14 ?_
        refine g_iaload_w (pc := 15) X dX12_isHeap_15 rfl (by decide) h (fun x5 h => ?_)
        refine g_iload_2 (pc := 16) X dX12_isHeap_16 ?_
        refine g_icmp_eq (pc := 17) X dX12_isHeap_17 (tgt := 60) (by decide) (fun q6 => ?_) (fun q6 => ?_)
        · replace h := h.1 q6
          refine g_iinc_3 (pc := 60) X dX12_isHeap_60 (v := v3 + nI 1) rfl (by decide) rfl ?_
          refine g_goto (pc := 63) X dX12_isHeap_63 (tgt := 2) (by decide) ?_
          exact ih (v3 + nI 1) h
        · replace h := h.2 q6
          refine g_aload_0 (pc := 20) X dX12_isHeap_20 ?_
          refine g_getRf (pc := 21) X dX12_isHeap_21 fl_X12_160 rfl (by decide) rfl hR rfl ?_
          refine g_iload_3 (pc := 24) X dX12_isHeap_24 ?_
          refine g_iaload_w (pc := 25) X dX12_isHeap_25 rfl (by decide) h (fun x7 h => ?_)
          refine g_iload_1 (pc := 26) X dX12_isHeap_26 ?_
          replace h := h (fun x8 => G o γ 0 0 116 σ 35 [some (.ref (ad o 65)), some (.int c1), some (.int c2), some (.int v3)] [.int x8]) (by
              intro x8 h
              refine g_aload_0 (pc := 35) X dX12_isHeap_35 ?_
              refine g_getRf (pc := 36) X dX12_isHeap_36 fl_X12_157 rfl (by decide) rfl hR rfl ?_
              refine g_iload_3 (pc := 39) X dX12_isHeap_39 ?_
              refine g_iaload_w (pc := 40) X dX12_isHeap_40 rfl (by decide) h (fun x10 h => ?_)
              refine g_aload_0 (pc := 41) X dX12_isHeap_41 ?_
              refine g_getRf (pc := 42) X dX12_isHeap_42 fl_X12_157 rfl (by decide) rfl hR rfl ?_
              refine g_iload_1 (pc := 45) X dX12_isHeap_45 ?_
              refine g_iaload_w (pc := 46) X dX12_isHeap_46 rfl (by decide) h (fun x11 h => ?_)
              replace h := h (fun x12 => G o γ 0 0 116 σ 55 [some (.ref (ad o 65)), some (.int c1), some (.int c2), some (.int v3)] [.int x12, .int x8]) (by
                  intro x12 h
                  refine g_icmp_eq (pc := 55) X dX12_isHeap_55 (tgt := 60) (by decide) (fun q14 => ?_) (fun q14 => ?_)
                  · replace h := h.1 q14
                    refine g_iinc_3 (pc := 60) X dX12_isHeap_60 (v := v3 + nI 1) rfl (by decide) rfl ?_
                    refine g_goto (pc := 63) X dX12_isHeap_63 (tgt := 2) (by decide) ?_
                    exact ih (v3 + nI 1) h
                  · replace h := h.2 q14
                    refine g_iconst (pc := 58) X dX12_isHeap_58 kiconst_0 ?_
                    exact g_zreturn (pc := 59) X Y dX12_isHeap_59 (by first | exact Or.inl rfl | exact Or.inr rfl) (Nat.le_of_ble_eq_true rfl) (Nat.le_of_ble_eq_true rfl) ⟨_, rfl, rfl, h⟩)
              refine g_icmp_ne (pc := 47) X dX12_isHeap_47 (tgt := 54) (by decide) (fun q15 => ?_) (fun q15 => ?_)
              · replace h := h.2 q15
                refine g_iconst (pc := 54) X dX12_isHeap_54 kiconst_0 ?_
                exact h
              · replace h := h.1 q15
                refine g_iconst (pc := 50) X dX12_isHeap_50 kiconst_1 ?_
                refine g_goto (pc := 51) X dX12_isHeap_51 (tgt := 55) (by decide) ?_
                exact h)
          refine g_icmp_ne (pc := 27) X dX12_isHeap_27 (tgt := 34) (by decide) (fun q16 => ?_) (fun q16 => ?_)
          · replace h := h.2 q16
            refine g_iconst (pc := 34) X dX12_isHeap_34 kiconst_0 ?_
            exact h
          · replace h := h.1 q16
            refine g_iconst (pc := 30) X dX12_isHeap_30 kiconst_1 ?_
            refine g_goto (pc := 31) X dX12_isHeap_31 (tgt := 35) (by decide) ?_
            exact h
  refine hL p0 p1 _ (fun h => ?_) n17 (nI 0) h
  · refine g_iconst (pc := 66) X dX12_isHeap_66 kiconst_1 ?_
    exact g_zreturn (pc := 67) X Y dX12_isHeap_67 (by first | exact Or.inl rfl | exact Or.inr rfl) (Nat.le_of_ble_eq_true rfl) (Nat.le_of_ble_eq_true rfl) ⟨_, rfl, rfl, h⟩
def L_X12_stands_69 (Q : Int32 → gSt → Prop) (c13 : Int32) (s11 : gSt) (K : Int32 → Prop) : Nat → Int32 → Int32 → Prop
  | 0, _, _ => False
  | n69 + 1, v14, v15 => (((s11.1 65 1) ≤ v15 → (K v14)) ∧ (¬ (s11.1 65 1) ≤ v15 → (rI s11 66 30 v15 (fun x18 => ((x18 = c13 → (L_X12_stands_69 Q c13 s11 K n69 v14 (v15 + nI 1))) ∧ (¬ x18 = c13 → (rI s11 112 30 v15 (fun x20 => ((x20 = v15 → (W_X12_isHeap v15 c13 (fun x22 => ((x22 = 0 → (L_X12_stands_69 Q c13 s11 K n69 v14 (v15 + nI 1))) ∧ (¬ x22 = 0 → (L_X12_stands_69 Q c13 s11 K n69 (v14 + nI 1) (v15 + nI 1))))) s11)) ∧ (¬ x20 = v15 → (L_X12_stands_69 Q c13 s11 K n69 v14 (v15 + nI 1))))))))))))
def W_X12_stands (p0 : Int32) (Q : Int32 → gSt → Prop) (σ : gSt) : Prop := fI σ 65 0 (nI 0) (fun s1 => W_X12_within p0 (nI 0) (nI 7) (fun x2 => W_X12_may x2 (nI 1) (fun x3 s4 => ((x3 = 0 → (Q (nI 0) s4)) ∧ (¬ x3 = 0 → (W_X12_everyone (fun s6 => W_X12_findAll 111 (fun x7 s8 => ((x7 < (lN 0) → (Q (l2i x7) s8)) ∧ (¬ x7 < (lN 0) → (W_X12_findWithout p0 112 (fun x10 s11 => ((x10 < (lN 0) → (Q (l2i x10) s11)) ∧ (¬ x10 < (lN 0) → (∃ m69, L_X12_stands_69 Q p0 s11 (fun y25 => Q y25 s11) m69 (nI 0) (nI 0))))) s8)))) s6) s4)))) s1) s1)
set_option maxHeartbeats 4000000 in
theorem t_X12_stands {o : gOm} {l : Launch} {b : Bool}   {σ : gSt} (hR : σ.2.2 = gRf b) {p0 : Int32} {Q : Int32 → gSt → Prop} (h : W_X12_stands p0 Q σ) : Sp o l mX12_stands 20 0 0 [.ref (ad o 65), .int p0] 116 116 σ (pI (fun x s => s.2.2 = gRf b ∧ Q x s)) := by
  unfold W_X12_stands at h
  refine Sp.of (ls0 := [some (.ref (ad o 65)), some (.int p0), none, none, none, none]) miX12_stands rfl (Nat.le_of_ble_eq_true rfl) rfl (fun γ hγ hnm X Y => ?_)
  subst hγ
  have X : gX o γ cX12_stands 6 RX12 := X
  refine g_aload_0 (pc := 0) X dX12_stands_0 ?_
  refine g_iconst (pc := 1) X dX12_stands_1 kiconst_0 ?_
  refine g_putI_w (pc := 2) X dX12_stands_2 fl_X12_1 rfl (by decide) rfl rfl hR h (fun s1 hR h => ?_)
  refine g_aload_0 (pc := 5) X dX12_stands_5 ?_
  refine g_iload_1 (pc := 6) X dX12_stands_6 ?_
  refine g_iconst (pc := 7) X dX12_stands_7 kiconst_0 ?_
  refine g_bipush (pc := 8) X dX12_stands_8 kbipush_7 ?_
  refine g_callS_I (pc := 10) X Y dX12_stands_10 miX12_within li_X12_169 (t_X12_within hR  h) rfl ⟨Nat.le_of_ble_eq_true rfl, Nat.le_of_ble_eq_true rfl⟩ (Nat.le_of_ble_eq_true rfl) (Nat.le_of_ble_eq_true rfl) rfl (by exact Nat.le_of_ble_eq_true rfl) (fun x2 σ9 hp => ?_)
  obtain ⟨rfl, h⟩ := hp
  refine g_iconst (pc := 13) X dX12_stands_13 kiconst_1 ?_
  refine g_callV_I (pc := 14) X Y dX12_stands_14 miX12_may li_X12_173 (t_X12_may hR  h) rfl (by decide) rfl ⟨_, rfl⟩ rfl ⟨Nat.le_of_ble_eq_true rfl, Nat.le_of_ble_eq_true rfl⟩ (Nat.le_of_ble_eq_true rfl) (Nat.le_of_ble_eq_true rfl) rfl (by exact Nat.le_of_ble_eq_true rfl) (fun x3 s4 hp => ?_)
  obtain ⟨hR, h⟩ := hp
  refine g_if_ne (pc := 17) X dX12_stands_17 (tgt := 22) (by decide) (fun q5 => ?_) (fun q5 => ?_)
  · replace h := h.2 q5
    refine g_aload_0 (pc := 22) X dX12_stands_22 ?_
    refine g_callV_V (pc := 23) X Y dX12_stands_23 miX12_everyone li_X12_187 (t_X12_everyone hR  h) rfl (by decide) rfl ⟨_, rfl⟩ rfl ⟨Nat.le_of_ble_eq_true rfl, Nat.le_of_ble_eq_true rfl⟩ (Nat.le_of_ble_eq_true rfl) (Nat.le_of_ble_eq_true rfl) rfl (by exact Nat.le_of_ble_eq_true rfl) (fun s6 hp => ?_)
    obtain ⟨hR, h⟩ := hp
    refine g_aload_0 (pc := 26) X dX12_stands_26 ?_
    refine g_aload_0 (pc := 27) X dX12_stands_27 ?_
    refine g_getRf (pc := 28) X dX12_stands_28 fl_X12_157 rfl (by decide) rfl hR rfl ?_
    refine g_callV_L (pc := 31) X Y dX12_stands_31 miX12_findAll li_X12_557 (t_X12_findAll hR (by decide) (by decide) h) rfl (by decide) rfl ⟨_, rfl⟩ rfl ⟨Nat.le_of_ble_eq_true rfl, Nat.le_of_ble_eq_true rfl⟩ (Nat.le_of_ble_eq_true rfl) (Nat.le_of_ble_eq_true rfl) rfl (by exact Nat.le_of_ble_eq_true rfl) (fun x7 s8 hp => ?_)
    obtain ⟨hR, h⟩ := hp
    refine g_lstore_2 (pc := 34) X dX12_stands_34 (by decide) rfl ?_
    refine g_lload_2 (pc := 35) X dX12_stands_35 ?_
    refine g_lconst (pc := 36) X dX12_stands_36 (v := lN 0) rfl ?_
    refine g_lcmp_ge (pc := 37) X dX12_stands_37 dX12_stands_38 (tgt := 44) (by decide) (fun q9 => ?_) (fun q9 => ?_)
    · replace h := h.2 q9
      refine g_aload_0 (pc := 44) X dX12_stands_44 ?_
      refine g_iload_1 (pc := 45) X dX12_stands_45 ?_
      refine g_aload_0 (pc := 46) X dX12_stands_46 ?_
      refine g_getRf (pc := 47) X dX12_stands_47 fl_X12_160 rfl (by decide) rfl hR rfl ?_
      refine g_callV_L (pc := 50) X Y dX12_stands_50 miX12_findWithout li_X12_581 (t_X12_findWithout hR (by decide) (by decide) h) rfl (by decide) rfl ⟨_, rfl⟩ rfl ⟨Nat.le_of_ble_eq_true rfl, Nat.le_of_ble_eq_true rfl⟩ (Nat.le_of_ble_eq_true rfl) (Nat.le_of_ble_eq_true rfl) rfl (by exact Nat.le_of_ble_eq_true rfl) (fun x10 s11 hp => ?_)
      obtain ⟨hR, h⟩ := hp
      refine g_lstore_2 (pc := 53) X dX12_stands_53 (by decide) rfl ?_
      refine g_lload_2 (pc := 54) X dX12_stands_54 ?_
      refine g_lconst (pc := 55) X dX12_stands_55 (v := lN 0) rfl ?_
      refine g_lcmp_ge (pc := 56) X dX12_stands_56 dX12_stands_57 (tgt := 63) (by decide) (fun q12 => ?_) (fun q12 => ?_)
      · replace h := h.2 q12
        refine g_iconst (pc := 63) X dX12_stands_63 kiconst_0 ?_
        refine g_istore_4 (pc := 64) X dX12_stands_64 (by decide) rfl ?_
        refine g_iconst (pc := 66) X dX12_stands_66 kiconst_0 ?_
        refine g_istore_5 (pc := 67) X dX12_stands_67 (by decide) rfl ?_
        obtain ⟨n24, h⟩ := h
        have hL : ∀ (c13 : Int32) (K : Int32 → Prop) (_ : ∀ (y16 : Int32), K y16 → G o γ 0 0 116 s11 120 [some (.ref (ad o 65)), some (.int c13), none, none, some (.int y16), none] []) (n : Nat) (v14 : Int32) (v15 : Int32), L_X12_stands_69 Q c13 s11 K n v14 v15 → G o γ 0 0 116 s11 69 [some (.ref (ad o 65)), some (.int c13), none, none, some (.int v14), some (.int v15)] [] := by
          intro c13 K hK n
          induction n with
          | zero => intro v14 v15 h; exact False.elim h
          | succ n ih =>
            intro v14 v15 h
            rw [L_X12_stands_69] at h
            refine g_iload_5 (pc := 69) X dX12_stands_69 ?_
            refine g_aload_0 (pc := 71) X dX12_stands_71 ?_
            refine g_getI (pc := 72) X dX12_stands_72 rfl (by decide) fl_X12_177 (Or.inl rfl) ?_
            refine g_icmp_ge (pc := 75) X dX12_stands_75 (tgt := 120) (by decide) (fun q17 => ?_) (fun q17 => ?_)
            · replace h := h.1 q17
              exact g_drop (by simp [lsub]) (hK v14 h)
            · replace h := h.2 q17
              refine g_aload_0 (pc := 78) X dX12_stands_78 ?_
              refine g_getRf (pc := 79) X dX12_stands_79 fl_X12_13 rfl (by decide) rfl hR rfl ?_
              refine g_iload_5 (pc := 82) X dX12_stands_82 ?_
              refine g_iaload_w (pc := 84) X dX12_stands_84 rfl (by decide) h (fun x18 h => ?_)
              refine g_iload_1 (pc := 85) X dX12_stands_85 ?_
              refine g_icmp_eq (pc := 86) X dX12_stands_86 (tgt := 114) (by decide) (fun q19 => ?_) (fun q19 => ?_)
              · replace h := h.1 q19
                refine g_iinc_5 (pc := 114) X dX12_stands_114 (v := v15 + nI 1) rfl (by decide) rfl ?_
                refine g_goto (pc := 117) X dX12_stands_117 (tgt := 69) (by decide) ?_
                exact ih v14 (v15 + nI 1) h
              · replace h := h.2 q19
                refine g_aload_0 (pc := 89) X dX12_stands_89 ?_
                refine g_getRf (pc := 90) X dX12_stands_90 fl_X12_160 rfl (by decide) rfl hR rfl ?_
                refine g_iload_5 (pc := 93) X dX12_stands_93 ?_
                refine g_iaload_w (pc := 95) X dX12_stands_95 rfl (by decide) h (fun x20 h => ?_)
                refine g_iload_5 (pc := 96) X dX12_stands_96 ?_
                refine g_icmp_ne (pc := 98) X dX12_stands_98 (tgt := 114) (by decide) (fun q21 => ?_) (fun q21 => ?_)
                · replace h := h.2 q21
                  refine g_iinc_5 (pc := 114) X dX12_stands_114 (v := v15 + nI 1) rfl (by decide) rfl ?_
                  refine g_goto (pc := 117) X dX12_stands_117 (tgt := 69) (by decide) ?_
                  exact ih v14 (v15 + nI 1) h
                · replace h := h.1 q21
                  refine g_aload_0 (pc := 101) X dX12_stands_101 ?_
                  refine g_iload_5 (pc := 102) X dX12_stands_102 ?_
                  refine g_iload_1 (pc := 104) X dX12_stands_104 ?_
                  refine g_callV_I (pc := 105) X Y dX12_stands_105 miX12_isHeap li_X12_585 (t_X12_isHeap hR  h) rfl (by decide) rfl ⟨_, rfl⟩ rfl ⟨Nat.le_of_ble_eq_true rfl, Nat.le_of_ble_eq_true rfl⟩ (Nat.le_of_ble_eq_true rfl) (Nat.le_of_ble_eq_true rfl) rfl (by exact Nat.le_of_ble_eq_true rfl) (fun x22 σ9 hp => ?_)
                  obtain ⟨rfl, h⟩ := hp
                  refine g_if_eq (pc := 108) X dX12_stands_108 (tgt := 114) (by decide) (fun q23 => ?_) (fun q23 => ?_)
                  · replace h := h.1 q23
                    refine g_iinc_5 (pc := 114) X dX12_stands_114 (v := v15 + nI 1) rfl (by decide) rfl ?_
                    refine g_goto (pc := 117) X dX12_stands_117 (tgt := 69) (by decide) ?_
                    exact ih v14 (v15 + nI 1) h
                  · replace h := h.2 q23
                    refine g_iinc_4 (pc := 111) X dX12_stands_111 (v := v14 + nI 1) rfl (by decide) rfl ?_
                    refine g_iinc_5 (pc := 114) X dX12_stands_114 (v := v15 + nI 1) rfl (by decide) rfl ?_
                    refine g_goto (pc := 117) X dX12_stands_117 (tgt := 69) (by decide) ?_
                    exact ih (v14 + nI 1) (v15 + nI 1) h
        refine g_drop (by simp [lsub]) (hL p0 _ (fun y25 h => ?_) n24 (nI 0) (nI 0) h)
        · refine g_iload_4 (pc := 120) X dX12_stands_120 ?_
          exact g_ireturn (pc := 122) X Y dX12_stands_122 (Nat.le_of_ble_eq_true rfl) (Nat.le_of_ble_eq_true rfl) ⟨_, rfl, hR, h⟩
      · replace h := h.1 q12
        refine g_lload_2 (pc := 60) X dX12_stands_60 ?_
        refine g_l2i (pc := 61) X dX12_stands_61 ?_
        exact g_ireturn (pc := 62) X Y dX12_stands_62 (Nat.le_of_ble_eq_true rfl) (Nat.le_of_ble_eq_true rfl) ⟨_, rfl, hR, h⟩
    · replace h := h.1 q9
      refine g_lload_2 (pc := 41) X dX12_stands_41 ?_
      refine g_l2i (pc := 42) X dX12_stands_42 ?_
      exact g_ireturn (pc := 43) X Y dX12_stands_43 (Nat.le_of_ble_eq_true rfl) (Nat.le_of_ble_eq_true rfl) ⟨_, rfl, hR, h⟩
  · replace h := h.1 q5
    refine g_iconst (pc := 20) X dX12_stands_20 kiconst_0 ?_
    exact g_ireturn (pc := 21) X Y dX12_stands_21 (Nat.le_of_ble_eq_true rfl) (Nat.le_of_ble_eq_true rfl) ⟨_, rfl, hR, h⟩
def L_X12_mark_31 (Q : Int32 → gSt → Prop)  (K : gSt → Prop) : Nat → Int32 → gSt → Prop
  | 0, _, _ => False
  | n31 + 1, v4, s5 => (((s5.1 65 1) ≤ v4 → (K s5)) ∧ (¬ (s5.1 65 1) ≤ v4 → (rI s5 71 30 v4 (fun x8 => wI s5 114 180 (((nI 30) * (s5.1 65 88)) + v4) x8 (fun s9 => L_X12_mark_31 Q K n31 (v4 + nI 1) s9)))))
def W_X12_mark  (Q : Int32 → gSt → Prop) (σ : gSt) : Prop := fI σ 65 0 (nI 0) (fun s1 => (((s1.1 65 88) = (nI 6) → (Q ((-1 : Int32)) s1)) ∧ (¬ (s1.1 65 88) = (nI 6) → (wI s1 113 6 (s1.1 65 88) (s1.1 65 1) (fun s3 => ∃ m31, L_X12_mark_31 Q (fun s11 => fI s11 65 88 ((s11.1 65 88) + (nI 1)) (fun s12 => Q (s12.1 65 88) s12)) m31 (nI 0) s3)))))
set_option maxHeartbeats 4000000 in
theorem t_X12_mark {o : gOm} {l : Launch} {b : Bool}   {σ : gSt} (hR : σ.2.2 = gRf b)  {Q : Int32 → gSt → Prop} (h : W_X12_mark  Q σ) : Sp o l mX12_mark 1 0 0 [.ref (ad o 65)] 116 116 σ (pI (fun x s => s.2.2 = gRf b ∧ Q x s)) := by
  unfold W_X12_mark at h
  refine Sp.of (ls0 := [some (.ref (ad o 65)), none]) miX12_mark rfl (Nat.le_of_ble_eq_true rfl) rfl (fun γ hγ hnm X Y => ?_)
  subst hγ
  have X : gX o γ cX12_mark 2 RX12 := X
  refine g_aload_0 (pc := 0) X dX12_mark_0 ?_
  refine g_iconst (pc := 1) X dX12_mark_1 kiconst_0 ?_
  refine g_putI_w (pc := 2) X dX12_mark_2 fl_X12_1 rfl (by decide) rfl rfl hR h (fun s1 hR h => ?_)
  refine g_aload_0 (pc := 5) X dX12_mark_5 ?_
  refine g_getI (pc := 6) X dX12_mark_6 rfl (by decide) fl_X12_588 (Or.inl rfl) ?_
  refine g_bipush (pc := 9) X dX12_mark_9 kbipush_6 ?_
  refine g_icmp_ne (pc := 11) X dX12_mark_11 (tgt := 16) (by decide) (fun q2 => ?_) (fun q2 => ?_)
  · replace h := h.2 q2
    refine g_aload_0 (pc := 16) X dX12_mark_16 ?_
    refine g_getRf (pc := 17) X dX12_mark_17 fl_X12_163 rfl (by decide) rfl hR rfl ?_
    refine g_aload_0 (pc := 20) X dX12_mark_20 ?_
    refine g_getI (pc := 21) X dX12_mark_21 rfl (by decide) fl_X12_588 (Or.inl rfl) ?_
    refine g_aload_0 (pc := 24) X dX12_mark_24 ?_
    refine g_getI (pc := 25) X dX12_mark_25 rfl (by decide) fl_X12_177 (Or.inl rfl) ?_
    refine g_iastore_w (pc := 28) X dX12_mark_28 rfl (by decide) hR h (fun s3 hR h => ?_)
    refine g_iconst (pc := 29) X dX12_mark_29 kiconst_0 ?_
    refine g_istore_1 (pc := 30) X dX12_mark_30 (by decide) rfl ?_
    obtain ⟨n10, h⟩ := h
    have hL : ∀  (K : gSt → Prop) (_ : ∀  (s6 : gSt), s6.2.2 = gRf b → K s6 → G o γ 0 0 116 s6 65 [some (.ref (ad o 65)), none] []) (n : Nat) (v4 : Int32) (s5 : gSt), s5.2.2 = gRf b → L_X12_mark_31 Q K n v4 s5 → G o γ 0 0 116 s5 31 [some (.ref (ad o 65)), some (.int v4)] [] := by
      intro K hK n
      induction n with
      | zero => intro v4 s5 hR h; exact False.elim h
      | succ n ih =>
        intro v4 s5 hR h
        rw [L_X12_mark_31] at h
        refine g_iload_1 (pc := 31) X dX12_mark_31 ?_
        refine g_aload_0 (pc := 32) X dX12_mark_32 ?_
        refine g_getI (pc := 33) X dX12_mark_33 rfl (by decide) fl_X12_177 (Or.inl rfl) ?_
        refine g_icmp_ge (pc := 36) X dX12_mark_36 (tgt := 65) (by decide) (fun q7 => ?_) (fun q7 => ?_)
        · replace h := h.1 q7
          exact g_drop (by simp [lsub]) (hK s5 hR h)
        · replace h := h.2 q7
          refine g_aload_0 (pc := 39) X dX12_mark_39 ?_
          refine g_getRf (pc := 40) X dX12_mark_40 fl_X12_166 rfl (by decide) rfl hR rfl ?_
          refine g_bipush (pc := 43) X dX12_mark_43 kbipush_30 ?_
          refine g_aload_0 (pc := 45) X dX12_mark_45 ?_
          refine g_getI (pc := 46) X dX12_mark_46 rfl (by decide) fl_X12_588 (Or.inl rfl) ?_
          refine g_imul (pc := 49) X dX12_mark_49 ?_
          refine g_iload_1 (pc := 50) X dX12_mark_50 ?_
          refine g_iadd (pc := 51) X dX12_mark_51 ?_
          refine g_aload_0 (pc := 52) X dX12_mark_52 ?_
          refine g_getRf (pc := 53) X dX12_mark_53 fl_X12_29 rfl (by decide) rfl hR rfl ?_
          refine g_iload_1 (pc := 56) X dX12_mark_56 ?_
          refine g_iaload_w (pc := 57) X dX12_mark_57 rfl (by decide) h (fun x8 h => ?_)
          refine g_iastore_w (pc := 58) X dX12_mark_58 rfl (by decide) hR h (fun s9 hR h => ?_)
          refine g_iinc_1 (pc := 59) X dX12_mark_59 (v := v4 + nI 1) rfl (by decide) rfl ?_
          refine g_goto (pc := 62) X dX12_mark_62 (tgt := 31) (by decide) ?_
          exact ih (v4 + nI 1) s9 hR h
    refine hL  _ (fun s11 hR h => ?_) n10 (nI 0) s3 hR h
    · refine g_aload_0 (pc := 65) X dX12_mark_65 ?_
      refine g_dup (pc := 66) X dX12_mark_66 rfl ?_
      refine g_getI (pc := 67) X dX12_mark_67 rfl (by decide) fl_X12_588 (Or.inl rfl) ?_
      refine g_iconst (pc := 70) X dX12_mark_70 kiconst_1 ?_
      refine g_iadd (pc := 71) X dX12_mark_71 ?_
      refine g_putI_w (pc := 72) X dX12_mark_72 fl_X12_588 rfl (by decide) rfl rfl hR h (fun s12 hR h => ?_)
      refine g_aload_0 (pc := 75) X dX12_mark_75 ?_
      refine g_getI (pc := 76) X dX12_mark_76 rfl (by decide) fl_X12_588 (Or.inl rfl) ?_
      exact g_ireturn (pc := 79) X Y dX12_mark_79 (Nat.le_of_ble_eq_true rfl) (Nat.le_of_ble_eq_true rfl) ⟨_, rfl, hR, h⟩
  · replace h := h.1 q2
    refine g_iconst (pc := 14) X dX12_mark_14 kiconst_m1 ?_
    exact g_ireturn (pc := 15) X Y dX12_mark_15 (Nat.le_of_ble_eq_true rfl) (Nat.le_of_ble_eq_true rfl) ⟨_, rfl, hR, h⟩
def L_X12_back_26 (Q : Int32 → gSt → Prop)  (K : gSt → Prop) : Nat → Int32 → gSt → Prop
  | 0, _, _ => False
  | n26 + 1, v4, s5 => (((s5.1 65 1) ≤ v4 → (K s5)) ∧ (¬ (s5.1 65 1) ≤ v4 → (rI s5 113 6 (s5.1 65 88) (fun x8 => ∀ J10 : Int32 → Prop, (∀ x9, (wI s5 71 30 v4 x9 (fun s11 => L_X12_back_26 Q K n26 (v4 + nI 1) s11)) → J10 x9) → ((x8 ≤ v4 → (J10 v4)) ∧ (¬ x8 ≤ v4 → (rI s5 114 180 (((nI 30) * (s5.1 65 88)) + v4) (fun x13 => J10 x13))))))))
def W_X12_back  (Q : Int32 → gSt → Prop) (σ : gSt) : Prop := fI σ 65 0 (nI 0) (fun s1 => (((s1.1 65 88) = 0 → (Q ((-1 : Int32)) s1)) ∧ (¬ (s1.1 65 88) = 0 → (fI s1 65 88 ((s1.1 65 88) - (nI 1)) (fun s3 => ∃ m26, L_X12_back_26 Q (fun s15 => Q (s15.1 65 88) s15) m26 (nI 0) s3)))))
set_option maxHeartbeats 4000000 in
theorem t_X12_back {o : gOm} {l : Launch} {b : Bool}   {σ : gSt} (hR : σ.2.2 = gRf b)  {Q : Int32 → gSt → Prop} (h : W_X12_back  Q σ) : Sp o l mX12_back 1 0 0 [.ref (ad o 65)] 116 116 σ (pI (fun x s => s.2.2 = gRf b ∧ Q x s)) := by
  unfold W_X12_back at h
  refine Sp.of (ls0 := [some (.ref (ad o 65)), none]) miX12_back rfl (Nat.le_of_ble_eq_true rfl) rfl (fun γ hγ hnm X Y => ?_)
  subst hγ
  have X : gX o γ cX12_back 2 RX12 := X
  refine g_aload_0 (pc := 0) X dX12_back_0 ?_
  refine g_iconst (pc := 1) X dX12_back_1 kiconst_0 ?_
  refine g_putI_w (pc := 2) X dX12_back_2 fl_X12_1 rfl (by decide) rfl rfl hR h (fun s1 hR h => ?_)
  refine g_aload_0 (pc := 5) X dX12_back_5 ?_
  refine g_getI (pc := 6) X dX12_back_6 rfl (by decide) fl_X12_588 (Or.inl rfl) ?_
  refine g_if_ne (pc := 9) X dX12_back_9 (tgt := 14) (by decide) (fun q2 => ?_) (fun q2 => ?_)
  · replace h := h.2 q2
    refine g_aload_0 (pc := 14) X dX12_back_14 ?_
    refine g_dup (pc := 15) X dX12_back_15 rfl ?_
    refine g_getI (pc := 16) X dX12_back_16 rfl (by decide) fl_X12_588 (Or.inl rfl) ?_
    refine g_iconst (pc := 19) X dX12_back_19 kiconst_1 ?_
    refine g_isub (pc := 20) X dX12_back_20 ?_
    refine g_putI_w (pc := 21) X dX12_back_21 fl_X12_588 rfl (by decide) rfl rfl hR h (fun s3 hR h => ?_)
    refine g_iconst (pc := 24) X dX12_back_24 kiconst_0 ?_
    refine g_istore_1 (pc := 25) X dX12_back_25 (by decide) rfl ?_
    obtain ⟨n14, h⟩ := h
    have hL : ∀  (K : gSt → Prop) (_ : ∀  (s6 : gSt), s6.2.2 = gRf b → K s6 → G o γ 0 0 116 s6 77 [some (.ref (ad o 65)), none] []) (n : Nat) (v4 : Int32) (s5 : gSt), s5.2.2 = gRf b → L_X12_back_26 Q K n v4 s5 → G o γ 0 0 116 s5 26 [some (.ref (ad o 65)), some (.int v4)] [] := by
      intro K hK n
      induction n with
      | zero => intro v4 s5 hR h; exact False.elim h
      | succ n ih =>
        intro v4 s5 hR h
        rw [L_X12_back_26] at h
        refine g_iload_1 (pc := 26) X dX12_back_26 ?_
        refine g_aload_0 (pc := 27) X dX12_back_27 ?_
        refine g_getI (pc := 28) X dX12_back_28 rfl (by decide) fl_X12_177 (Or.inl rfl) ?_
        refine g_icmp_ge (pc := 31) X dX12_back_31 (tgt := 77) (by decide) (fun q7 => ?_) (fun q7 => ?_)
        · replace h := h.1 q7
          exact g_drop (by simp [lsub]) (hK s5 hR h)
        · replace h := h.2 q7
          refine g_aload_0 (pc := 34) X dX12_back_34 ?_
          refine g_getRf (pc := 35) X dX12_back_35 fl_X12_29 rfl (by decide) rfl hR rfl ?_
          refine g_iload_1 (pc := 38) X dX12_back_38 ?_
          refine g_iload_1 (pc := 39) X dX12_back_39 ?_
          refine g_aload_0 (pc := 40) X dX12_back_40 ?_
          refine g_getRf (pc := 41) X dX12_back_41 fl_X12_163 rfl (by decide) rfl hR rfl ?_
          refine g_aload_0 (pc := 44) X dX12_back_44 ?_
          refine g_getI (pc := 45) X dX12_back_45 rfl (by decide) fl_X12_588 (Or.inl rfl) ?_
          refine g_iaload_w (pc := 48) X dX12_back_48 rfl (by decide) h (fun x8 h => ?_)
          replace h := h (fun x9 => G o γ 0 0 116 s5 70 [some (.ref (ad o 65)), some (.int v4)] [.int x9, .int v4, .ref (ad o 71)]) (by
              intro x9 h
              refine g_iastore_w (pc := 70) X dX12_back_70 rfl (by decide) hR h (fun s11 hR h => ?_)
              refine g_iinc_1 (pc := 71) X dX12_back_71 (v := v4 + nI 1) rfl (by decide) rfl ?_
              refine g_goto (pc := 74) X dX12_back_74 (tgt := 26) (by decide) ?_
              exact ih (v4 + nI 1) s11 hR h)
          refine g_icmp_ge (pc := 49) X dX12_back_49 (tgt := 69) (by decide) (fun q12 => ?_) (fun q12 => ?_)
          · replace h := h.1 q12
            refine g_iload_1 (pc := 69) X dX12_back_69 ?_
            exact h
          · replace h := h.2 q12
            refine g_aload_0 (pc := 52) X dX12_back_52 ?_
            refine g_getRf (pc := 53) X dX12_back_53 fl_X12_166 rfl (by decide) rfl hR rfl ?_
            refine g_bipush (pc := 56) X dX12_back_56 kbipush_30 ?_
            refine g_aload_0 (pc := 58) X dX12_back_58 ?_
            refine g_getI (pc := 59) X dX12_back_59 rfl (by decide) fl_X12_588 (Or.inl rfl) ?_
            refine g_imul (pc := 62) X dX12_back_62 ?_
            refine g_iload_1 (pc := 63) X dX12_back_63 ?_
            refine g_iadd (pc := 64) X dX12_back_64 ?_
            refine g_iaload_w (pc := 65) X dX12_back_65 rfl (by decide) h (fun x13 h => ?_)
            refine g_goto (pc := 66) X dX12_back_66 (tgt := 70) (by decide) ?_
            exact h
    refine hL  _ (fun s15 hR h => ?_) n14 (nI 0) s3 hR h
    · refine g_aload_0 (pc := 77) X dX12_back_77 ?_
      refine g_getI (pc := 78) X dX12_back_78 rfl (by decide) fl_X12_588 (Or.inl rfl) ?_
      exact g_ireturn (pc := 81) X Y dX12_back_81 (Nat.le_of_ble_eq_true rfl) (Nat.le_of_ble_eq_true rfl) ⟨_, rfl, hR, h⟩
  · replace h := h.1 q2
    refine g_iconst (pc := 12) X dX12_back_12 kiconst_m1 ?_
    exact g_ireturn (pc := 13) X Y dX12_back_13 (Nat.le_of_ble_eq_true rfl) (Nat.le_of_ble_eq_true rfl) ⟨_, rfl, hR, h⟩
def L_X12_count_86 (Q : Int32 → gSt → Prop)  (s1 : gSt) (K : Int32 → Prop) : Nat → Int32 → Int32 → Prop
  | 0, _, _ => False
  | n86 + 1, v7, v8 => (((s1.1 65 1) ≤ v8 → (K v7)) ∧ (¬ (s1.1 65 1) ≤ v8 → (rI s1 71 30 v8 (fun x11 => ∀ J13 : Int32 → Prop, (∀ x12, (L_X12_count_86 Q s1 K n86 (v7 + x12) (v8 + nI 1)) → J13 x12) → ((x11 = v8 → (J13 (nI 1))) ∧ (¬ x11 = v8 → (J13 (nI 0))))))))
def L_X12_count_126 (Q : Int32 → gSt → Prop)  (K : Int32 → gSt → Prop) : Nat → Int32 → Int32 → gSt → Prop
  | 0, _, _, _ => False
  | n126 + 1, v19, v20, s21 => (((s21.1 65 1) ≤ v20 → (K v19 s21)) ∧ (¬ (s21.1 65 1) ≤ v20 → (W_X12_findPart v20 (fun s25 => rI s25 105 30 (nI 0) (fun x26 => ∀ J28 : Int32 → Prop, (∀ x27, (L_X12_count_126 Q K n126 (v19 + x27) (v20 + nI 1) s25) → J28 x27) → ((x26 = v20 → (J28 (nI 1))) ∧ (¬ x26 = v20 → (J28 (nI 0)))))) s21)))
def L_X12_count_195 (Q : Int32 → gSt → Prop) (c43 : Int32) (K : Int32 → gSt → Prop) : Nat → Int32 → Int32 → gSt → Prop
  | 0, _, _, _ => False
  | n195 + 1, v44, v45, s46 => (((s46.1 65 1) ≤ v45 → (K v44 s46)) ∧ (¬ (s46.1 65 1) ≤ v45 → (W_X12_toldAt c43 v45 (fun x50 => ∀ J53 : Int32 → gSt → Prop, (∀ x51 s52, (L_X12_count_195 Q c43 K n195 (v44 + x51) (v45 + nI 1) s52) → J53 x51 s52) → ∀ J55 : gSt → Prop, (∀ s54, (J53 (nI 0) s54) → J55 s54) → ((x50 = ((-1 : Int32)) → (W_X12_isPassed c43 v45 (fun x57 s58 => ((x57 = 0 → (J55 s58)) ∧ (¬ x57 = 0 → (J53 (nI 1) s58)))) s46)) ∧ (¬ x50 = ((-1 : Int32)) → (J55 s46)))) s46)))
def L_X12_count_182 (Q : Int32 → gSt → Prop)  (K : Int32 → gSt → Prop) : Nat → Int32 → Int32 → gSt → Prop
  | 0, _, _, _ => False
  | n182 + 1, v37, v38, s39 => (((s39.1 65 1) ≤ v38 → (K v37 s39)) ∧ (¬ (s39.1 65 1) ≤ v38 → (∃ m195, L_X12_count_195 Q v38 (fun y61 s62 => L_X12_count_182 Q K n182 y61 (v38 + nI 1) s62) m195 v37 (v38 + (nI 1)) s39)))
def W_X12_count (p0 : Int32) (Q : Int32 → gSt → Prop) (σ : gSt) : Prop := fI σ 65 0 (nI 0) (fun s1 => ((p0 = nI 0 → (Q (s1.1 65 1) s1)) ∧ (¬ p0 = nI 0 → ((p0 = nI 1 → (Q (s1.1 65 16) s1)) ∧ (¬ p0 = nI 1 → ((p0 = nI 2 → (Q (s1.1 65 33) s1)) ∧ (¬ p0 = nI 2 → ((p0 = nI 3 → (Q (s1.1 65 44) s1)) ∧ (¬ p0 = nI 3 → ((p0 = nI 4 → (∃ m86, L_X12_count_86 Q s1 (fun y16 => Q y16 s1) m86 (nI 0) (nI 0))) ∧ (¬ p0 = nI 4 → ((p0 = nI 5 → (W_X12_everyone (fun s18 => ∃ m126, L_X12_count_126 Q (fun y31 s32 => Q y31 s32) m126 (nI 0) (nI 0) s18) s1)) ∧ (¬ p0 = nI 5 → ((p0 = nI 6 → (Q (s1.1 65 56) s1)) ∧ (¬ p0 = nI 6 → ((p0 = nI 7 → (Q (s1.1 65 88) s1)) ∧ (¬ p0 = nI 7 → ((p0 = nI 8 → (Q (s1.1 65 9) s1)) ∧ (¬ p0 = nI 8 → ((p0 = nI 9 → (∃ m182, L_X12_count_182 Q (fun y64 s65 => Q y64 s65) m182 (nI 0) (nI 0) s1)) ∧ (¬ p0 = nI 9 → Q ((-1 : Int32)) s1)))))))))))))))))))))
set_option maxHeartbeats 4000000 in
theorem t_X12_count {o : gOm} {l : Launch} {b : Bool}   {σ : gSt} (hR : σ.2.2 = gRf b) {p0 : Int32} {Q : Int32 → gSt → Prop} (h : W_X12_count p0 Q σ) : Sp o l mX12_count 9 0 0 [.ref (ad o 65), .int p0] 116 116 σ (pI (fun x s => s.2.2 = gRf b ∧ Q x s)) := by
  unfold W_X12_count at h
  refine Sp.of (ls0 := [some (.ref (ad o 65)), some (.int p0), none, none, none]) miX12_count rfl (Nat.le_of_ble_eq_true rfl) rfl (fun γ hγ hnm X Y => ?_)
  subst hγ
  have X : gX o γ cX12_count 5 RX12 := X
  refine g_aload_0 (pc := 0) X dX12_count_0 ?_
  refine g_iconst (pc := 1) X dX12_count_1 kiconst_0 ?_
  refine g_putI_w (pc := 2) X dX12_count_2 fl_X12_1 rfl (by decide) rfl rfl hR h (fun s1 hR h => ?_)
  refine g_iconst (pc := 5) X dX12_count_5 kiconst_0 ?_
  refine g_istore_2 (pc := 6) X dX12_count_6 (by decide) rfl ?_
  refine g_iload_1 (pc := 7) X dX12_count_7 ?_
  by_cases q2 : p0 = nI 0
  · replace h := h.1 q2
    refine g_tableIn (pc := 8) X dX12_count_8 (tgt := 64) (by rw [q2]; decide) (by rw [q2]; decide) (by rw [q2]; rfl) (by decide) ?_
    refine g_aload_0 (pc := 64) X dX12_count_64 ?_
    refine g_getI (pc := 65) X dX12_count_65 rfl (by decide) fl_X12_177 (Or.inl rfl) ?_
    exact g_ireturn (pc := 68) X Y dX12_count_68 (Nat.le_of_ble_eq_true rfl) (Nat.le_of_ble_eq_true rfl) ⟨_, rfl, hR, h⟩
  replace h := h.2 q2
  by_cases q3 : p0 = nI 1
  · replace h := h.1 q3
    refine g_tableIn (pc := 8) X dX12_count_8 (tgt := 69) (by rw [q3]; decide) (by rw [q3]; decide) (by rw [q3]; rfl) (by decide) ?_
    refine g_aload_0 (pc := 69) X dX12_count_69 ?_
    refine g_getI (pc := 70) X dX12_count_70 rfl (by decide) fl_X12_320 (Or.inl rfl) ?_
    exact g_ireturn (pc := 73) X Y dX12_count_73 (Nat.le_of_ble_eq_true rfl) (Nat.le_of_ble_eq_true rfl) ⟨_, rfl, hR, h⟩
  replace h := h.2 q3
  by_cases q4 : p0 = nI 2
  · replace h := h.1 q4
    refine g_tableIn (pc := 8) X dX12_count_8 (tgt := 74) (by rw [q4]; decide) (by rw [q4]; decide) (by rw [q4]; rfl) (by decide) ?_
    refine g_aload_0 (pc := 74) X dX12_count_74 ?_
    refine g_getI (pc := 75) X dX12_count_75 rfl (by decide) fl_X12_338 (Or.inl rfl) ?_
    exact g_ireturn (pc := 78) X Y dX12_count_78 (Nat.le_of_ble_eq_true rfl) (Nat.le_of_ble_eq_true rfl) ⟨_, rfl, hR, h⟩
  replace h := h.2 q4
  by_cases q5 : p0 = nI 3
  · replace h := h.1 q5
    refine g_tableIn (pc := 8) X dX12_count_8 (tgt := 79) (by rw [q5]; decide) (by rw [q5]; decide) (by rw [q5]; rfl) (by decide) ?_
    refine g_aload_0 (pc := 79) X dX12_count_79 ?_
    refine g_getI (pc := 80) X dX12_count_80 rfl (by decide) fl_X12_368 (Or.inl rfl) ?_
    exact g_ireturn (pc := 83) X Y dX12_count_83 (Nat.le_of_ble_eq_true rfl) (Nat.le_of_ble_eq_true rfl) ⟨_, rfl, hR, h⟩
  replace h := h.2 q5
  by_cases q6 : p0 = nI 4
  · replace h := h.1 q6
    refine g_tableIn (pc := 8) X dX12_count_8 (tgt := 84) (by rw [q6]; decide) (by rw [q6]; decide) (by rw [q6]; rfl) (by decide) ?_
    refine g_iconst (pc := 84) X dX12_count_84 kiconst_0 ?_
    refine g_istore_3 (pc := 85) X dX12_count_85 (by decide) rfl ?_
    obtain ⟨n15, h⟩ := h
    have hL : ∀  (K : Int32 → Prop) (_ : ∀ (y9 : Int32), K y9 → G o γ 0 0 116 s1 118 [some (.ref (ad o 65)), none, some (.int y9), none, none] []) (n : Nat) (v7 : Int32) (v8 : Int32), L_X12_count_86 Q s1 K n v7 v8 → G o γ 0 0 116 s1 86 [some (.ref (ad o 65)), none, some (.int v7), some (.int v8), none] [] := by
      intro K hK n
      induction n with
      | zero => intro v7 v8 h; exact False.elim h
      | succ n ih =>
        intro v7 v8 h
        rw [L_X12_count_86] at h
        refine g_iload_3 (pc := 86) X dX12_count_86 ?_
        refine g_aload_0 (pc := 87) X dX12_count_87 ?_
        refine g_getI (pc := 88) X dX12_count_88 rfl (by decide) fl_X12_177 (Or.inl rfl) ?_
        refine g_icmp_ge (pc := 91) X dX12_count_91 (tgt := 118) (by decide) (fun q10 => ?_) (fun q10 => ?_)
        · replace h := h.1 q10
          exact g_drop (by simp [lsub]) (hK v7 h)
        · replace h := h.2 q10
          refine g_iload_2 (pc := 94) X dX12_count_94 ?_
          refine g_aload_0 (pc := 95) X dX12_count_95 ?_
          refine g_getRf (pc := 96) X dX12_count_96 fl_X12_29 rfl (by decide) rfl hR rfl ?_
          refine g_iload_3 (pc := 99) X dX12_count_99 ?_
          refine g_iaload_w (pc := 100) X dX12_count_100 rfl (by decide) h (fun x11 h => ?_)
          refine g_iload_3 (pc := 101) X dX12_count_101 ?_
          replace h := h (fun x12 => G o γ 0 0 116 s1 110 [some (.ref (ad o 65)), none, none, some (.int v8), none] [.int x12, .int v7]) (by
              intro x12 h
              refine g_iadd (pc := 110) X dX12_count_110 ?_
              refine g_istore_2 (pc := 111) X dX12_count_111 (by decide) rfl ?_
              refine g_iinc_3 (pc := 112) X dX12_count_112 (v := v8 + nI 1) rfl (by decide) rfl ?_
              refine g_goto (pc := 115) X dX12_count_115 (tgt := 86) (by decide) ?_
              exact ih (v7 + x12) (v8 + nI 1) h)
          refine g_icmp_ne (pc := 102) X dX12_count_102 (tgt := 109) (by decide) (fun q14 => ?_) (fun q14 => ?_)
          · replace h := h.2 q14
            refine g_iconst (pc := 109) X dX12_count_109 kiconst_0 ?_
            exact g_drop (by simp [lsub]) (h)
          · replace h := h.1 q14
            refine g_iconst (pc := 105) X dX12_count_105 kiconst_1 ?_
            refine g_goto (pc := 106) X dX12_count_106 (tgt := 110) (by decide) ?_
            exact g_drop (by simp [lsub]) (h)
    refine g_drop (by simp [lsub]) (hL  _ (fun y16 h => ?_) n15 (nI 0) (nI 0) h)
    · refine g_iload_2 (pc := 118) X dX12_count_118 ?_
      exact g_ireturn (pc := 119) X Y dX12_count_119 (Nat.le_of_ble_eq_true rfl) (Nat.le_of_ble_eq_true rfl) ⟨_, rfl, hR, h⟩
  replace h := h.2 q6
  by_cases q17 : p0 = nI 5
  · replace h := h.1 q17
    refine g_tableIn (pc := 8) X dX12_count_8 (tgt := 120) (by rw [q17]; decide) (by rw [q17]; decide) (by rw [q17]; rfl) (by decide) ?_
    refine g_aload_0 (pc := 120) X dX12_count_120 ?_
    refine g_callV_V (pc := 121) X Y dX12_count_121 miX12_everyone li_X12_187 (t_X12_everyone hR  h) rfl (by decide) rfl ⟨_, rfl⟩ rfl ⟨Nat.le_of_ble_eq_true rfl, Nat.le_of_ble_eq_true rfl⟩ (Nat.le_of_ble_eq_true rfl) (Nat.le_of_ble_eq_true rfl) rfl (by exact Nat.le_of_ble_eq_true rfl) (fun s18 hp => ?_)
    obtain ⟨hR, h⟩ := hp
    refine g_iconst (pc := 124) X dX12_count_124 kiconst_0 ?_
    refine g_istore_3 (pc := 125) X dX12_count_125 (by decide) rfl ?_
    obtain ⟨n30, h⟩ := h
    have hL : ∀  (K : Int32 → gSt → Prop) (_ : ∀ (y22 : Int32) (s23 : gSt), s23.2.2 = gRf b → K y22 s23 → G o γ 0 0 116 s23 163 [some (.ref (ad o 65)), none, some (.int y22), none, none] []) (n : Nat) (v19 : Int32) (v20 : Int32) (s21 : gSt), s21.2.2 = gRf b → L_X12_count_126 Q K n v19 v20 s21 → G o γ 0 0 116 s21 126 [some (.ref (ad o 65)), none, some (.int v19), some (.int v20), none] [] := by
      intro K hK n
      induction n with
      | zero => intro v19 v20 s21 hR h; exact False.elim h
      | succ n ih =>
        intro v19 v20 s21 hR h
        rw [L_X12_count_126] at h
        refine g_iload_3 (pc := 126) X dX12_count_126 ?_
        refine g_aload_0 (pc := 127) X dX12_count_127 ?_
        refine g_getI (pc := 128) X dX12_count_128 rfl (by decide) fl_X12_177 (Or.inl rfl) ?_
        refine g_icmp_ge (pc := 131) X dX12_count_131 (tgt := 163) (by decide) (fun q24 => ?_) (fun q24 => ?_)
        · replace h := h.1 q24
          exact g_drop (by simp [lsub]) (hK v19 s21 hR h)
        · replace h := h.2 q24
          refine g_aload_0 (pc := 134) X dX12_count_134 ?_
          refine g_iload_3 (pc := 135) X dX12_count_135 ?_
          refine g_callV_V (pc := 136) X Y dX12_count_136 miX12_findPart li_X12_190 (t_X12_findPart hR  h) rfl (by decide) rfl ⟨_, rfl⟩ rfl ⟨Nat.le_of_ble_eq_true rfl, Nat.le_of_ble_eq_true rfl⟩ (Nat.le_of_ble_eq_true rfl) (Nat.le_of_ble_eq_true rfl) rfl (by exact Nat.le_of_ble_eq_true rfl) (fun s25 hp => ?_)
          obtain ⟨hR, h⟩ := hp
          refine g_iload_2 (pc := 139) X dX12_count_139 ?_
          refine g_aload_0 (pc := 140) X dX12_count_140 ?_
          refine g_getRf (pc := 141) X dX12_count_141 fl_X12_138 rfl (by decide) rfl hR rfl ?_
          refine g_iconst (pc := 144) X dX12_count_144 kiconst_0 ?_
          refine g_iaload_w (pc := 145) X dX12_count_145 rfl (by decide) h (fun x26 h => ?_)
          refine g_iload_3 (pc := 146) X dX12_count_146 ?_
          replace h := h (fun x27 => G o γ 0 0 116 s25 155 [some (.ref (ad o 65)), none, none, some (.int v20), none] [.int x27, .int v19]) (by
              intro x27 h
              refine g_iadd (pc := 155) X dX12_count_155 ?_
              refine g_istore_2 (pc := 156) X dX12_count_156 (by decide) rfl ?_
              refine g_iinc_3 (pc := 157) X dX12_count_157 (v := v20 + nI 1) rfl (by decide) rfl ?_
              refine g_goto (pc := 160) X dX12_count_160 (tgt := 126) (by decide) ?_
              exact ih (v19 + x27) (v20 + nI 1) s25 hR h)
          refine g_icmp_ne (pc := 147) X dX12_count_147 (tgt := 154) (by decide) (fun q29 => ?_) (fun q29 => ?_)
          · replace h := h.2 q29
            refine g_iconst (pc := 154) X dX12_count_154 kiconst_0 ?_
            exact g_drop (by simp [lsub]) (h)
          · replace h := h.1 q29
            refine g_iconst (pc := 150) X dX12_count_150 kiconst_1 ?_
            refine g_goto (pc := 151) X dX12_count_151 (tgt := 155) (by decide) ?_
            exact g_drop (by simp [lsub]) (h)
    refine g_drop (by simp [lsub]) (hL  _ (fun y31 s32 hR h => ?_) n30 (nI 0) (nI 0) s18 hR h)
    · refine g_iload_2 (pc := 163) X dX12_count_163 ?_
      exact g_ireturn (pc := 164) X Y dX12_count_164 (Nat.le_of_ble_eq_true rfl) (Nat.le_of_ble_eq_true rfl) ⟨_, rfl, hR, h⟩
  replace h := h.2 q17
  by_cases q33 : p0 = nI 6
  · replace h := h.1 q33
    refine g_tableIn (pc := 8) X dX12_count_8 (tgt := 165) (by rw [q33]; decide) (by rw [q33]; decide) (by rw [q33]; rfl) (by decide) ?_
    refine g_aload_0 (pc := 165) X dX12_count_165 ?_
    refine g_getI (pc := 166) X dX12_count_166 rfl (by decide) fl_X12_459 (Or.inl rfl) ?_
    exact g_ireturn (pc := 169) X Y dX12_count_169 (Nat.le_of_ble_eq_true rfl) (Nat.le_of_ble_eq_true rfl) ⟨_, rfl, hR, h⟩
  replace h := h.2 q33
  by_cases q34 : p0 = nI 7
  · replace h := h.1 q34
    refine g_tableIn (pc := 8) X dX12_count_8 (tgt := 170) (by rw [q34]; decide) (by rw [q34]; decide) (by rw [q34]; rfl) (by decide) ?_
    refine g_aload_0 (pc := 170) X dX12_count_170 ?_
    refine g_getI (pc := 171) X dX12_count_171 rfl (by decide) fl_X12_588 (Or.inl rfl) ?_
    exact g_ireturn (pc := 174) X Y dX12_count_174 (Nat.le_of_ble_eq_true rfl) (Nat.le_of_ble_eq_true rfl) ⟨_, rfl, hR, h⟩
  replace h := h.2 q34
  by_cases q35 : p0 = nI 8
  · replace h := h.1 q35
    refine g_tableIn (pc := 8) X dX12_count_8 (tgt := 175) (by rw [q35]; decide) (by rw [q35]; decide) (by rw [q35]; rfl) (by decide) ?_
    refine g_aload_0 (pc := 175) X dX12_count_175 ?_
    refine g_getI (pc := 176) X dX12_count_176 rfl (by decide) fl_X12_197 (Or.inl rfl) ?_
    exact g_ireturn (pc := 179) X Y dX12_count_179 (Nat.le_of_ble_eq_true rfl) (Nat.le_of_ble_eq_true rfl) ⟨_, rfl, hR, h⟩
  replace h := h.2 q35
  by_cases q36 : p0 = nI 9
  · replace h := h.1 q36
    refine g_tableIn (pc := 8) X dX12_count_8 (tgt := 180) (by rw [q36]; decide) (by rw [q36]; decide) (by rw [q36]; rfl) (by decide) ?_
    refine g_iconst (pc := 180) X dX12_count_180 kiconst_0 ?_
    refine g_istore_3 (pc := 181) X dX12_count_181 (by decide) rfl ?_
    obtain ⟨n63, h⟩ := h
    have hL : ∀  (K : Int32 → gSt → Prop) (_ : ∀ (y40 : Int32) (s41 : gSt), s41.2.2 = gRf b → K y40 s41 → G o γ 0 0 116 s41 245 [some (.ref (ad o 65)), none, some (.int y40), none, none] []) (n : Nat) (v37 : Int32) (v38 : Int32) (s39 : gSt), s39.2.2 = gRf b → L_X12_count_182 Q K n v37 v38 s39 → G o γ 0 0 116 s39 182 [some (.ref (ad o 65)), none, some (.int v37), some (.int v38), none] [] := by
      intro K hK n
      induction n with
      | zero => intro v37 v38 s39 hR h; exact False.elim h
      | succ n ih =>
        intro v37 v38 s39 hR h
        rw [L_X12_count_182] at h
        refine g_iload_3 (pc := 182) X dX12_count_182 ?_
        refine g_aload_0 (pc := 183) X dX12_count_183 ?_
        refine g_getI (pc := 184) X dX12_count_184 rfl (by decide) fl_X12_177 (Or.inl rfl) ?_
        refine g_icmp_ge (pc := 187) X dX12_count_187 (tgt := 245) (by decide) (fun q42 => ?_) (fun q42 => ?_)
        · replace h := h.1 q42
          exact g_drop (by simp [lsub]) (hK v37 s39 hR h)
        · replace h := h.2 q42
          refine g_iload_3 (pc := 190) X dX12_count_190 ?_
          refine g_iconst (pc := 191) X dX12_count_191 kiconst_1 ?_
          refine g_iadd (pc := 192) X dX12_count_192 ?_
          refine g_istore_4 (pc := 193) X dX12_count_193 (by decide) rfl ?_
          obtain ⟨n60, h⟩ := h
          have hL : ∀ (c43 : Int32) (K : Int32 → gSt → Prop) (_ : ∀ (y47 : Int32) (s48 : gSt), s48.2.2 = gRf b → K y47 s48 → G o γ 0 0 116 s48 239 [some (.ref (ad o 65)), none, some (.int y47), some (.int c43), none] []) (n : Nat) (v44 : Int32) (v45 : Int32) (s46 : gSt), s46.2.2 = gRf b → L_X12_count_195 Q c43 K n v44 v45 s46 → G o γ 0 0 116 s46 195 [some (.ref (ad o 65)), none, some (.int v44), some (.int c43), some (.int v45)] [] := by
            intro c43 K hK n
            induction n with
            | zero => intro v44 v45 s46 hR h; exact False.elim h
            | succ n ih =>
              intro v44 v45 s46 hR h
              rw [L_X12_count_195] at h
              refine g_iload_4 (pc := 195) X dX12_count_195 ?_
              refine g_aload_0 (pc := 197) X dX12_count_197 ?_
              refine g_getI (pc := 198) X dX12_count_198 rfl (by decide) fl_X12_177 (Or.inl rfl) ?_
              refine g_icmp_ge (pc := 201) X dX12_count_201 (tgt := 239) (by decide) (fun q49 => ?_) (fun q49 => ?_)
              · replace h := h.1 q49
                exact g_drop (by simp [lsub]) (hK v44 s46 hR h)
              · replace h := h.2 q49
                refine g_iload_2 (pc := 204) X dX12_count_204 ?_
                refine g_aload_0 (pc := 205) X dX12_count_205 ?_
                refine g_iload_3 (pc := 206) X dX12_count_206 ?_
                refine g_iload_4 (pc := 207) X dX12_count_207 ?_
                refine g_callV_I (pc := 209) X Y dX12_count_209 miX12_toldAt li_X12_344 (t_X12_toldAt hR  h) rfl (by decide) rfl ⟨_, rfl⟩ rfl ⟨Nat.le_of_ble_eq_true rfl, Nat.le_of_ble_eq_true rfl⟩ (Nat.le_of_ble_eq_true rfl) (Nat.le_of_ble_eq_true rfl) rfl (by exact Nat.le_of_ble_eq_true rfl) (fun x50 σ9 hp => ?_)
                obtain ⟨rfl, h⟩ := hp
                refine g_iconst (pc := 212) X dX12_count_212 kiconst_m1 ?_
                replace h := h (fun x51 s52 => s52.2.2 = gRf b → G o γ 0 0 116 s52 231 [some (.ref (ad o 65)), none, none, some (.int c43), some (.int v45)] [.int x51, .int v44]) (by
                    intro x51 s52 h hR
                    refine g_iadd (pc := 231) X dX12_count_231 ?_
                    refine g_istore_2 (pc := 232) X dX12_count_232 (by decide) rfl ?_
                    refine g_iinc_4 (pc := 233) X dX12_count_233 (v := v45 + nI 1) rfl (by decide) rfl ?_
                    refine g_goto (pc := 236) X dX12_count_236 (tgt := 195) (by decide) ?_
                    exact ih (v44 + x51) (v45 + nI 1) s52 hR h)
                replace h := h (fun s54 => s54.2.2 = gRf b → G o γ 0 0 116 s54 230 [some (.ref (ad o 65)), none, none, some (.int c43), some (.int v45)] [.int v44]) (by
                    intro s54 h hR
                    refine g_iconst (pc := 230) X dX12_count_230 kiconst_0 ?_
                    exact h hR)
                refine g_icmp_ne (pc := 213) X dX12_count_213 (tgt := 230) (by decide) (fun q56 => ?_) (fun q56 => ?_)
                · replace h := h.2 q56
                  exact g_drop (by simp [lsub]) (h hR)
                · replace h := h.1 q56
                  refine g_aload_0 (pc := 216) X dX12_count_216 ?_
                  refine g_iload_3 (pc := 217) X dX12_count_217 ?_
                  refine g_iload_4 (pc := 218) X dX12_count_218 ?_
                  refine g_callV_I (pc := 220) X Y dX12_count_220 miX12_isPassed li_X12_348 (t_X12_isPassed hR  h) rfl (by decide) rfl ⟨_, rfl⟩ rfl ⟨Nat.le_of_ble_eq_true rfl, Nat.le_of_ble_eq_true rfl⟩ (Nat.le_of_ble_eq_true rfl) (Nat.le_of_ble_eq_true rfl) rfl (by exact Nat.le_of_ble_eq_true rfl) (fun x57 s58 hp => ?_)
                  obtain ⟨hR, h⟩ := hp
                  refine g_if_eq (pc := 223) X dX12_count_223 (tgt := 230) (by decide) (fun q59 => ?_) (fun q59 => ?_)
                  · replace h := h.1 q59
                    exact g_drop (by simp [lsub]) (h hR)
                  · replace h := h.2 q59
                    refine g_iconst (pc := 226) X dX12_count_226 kiconst_1 ?_
                    refine g_goto (pc := 227) X dX12_count_227 (tgt := 231) (by decide) ?_
                    exact g_drop (by simp [lsub]) (h hR)
          refine hL v38 _ (fun y61 s62 hR h => ?_) n60 v37 (v38 + (nI 1)) s39 hR h
          · refine g_iinc_3 (pc := 239) X dX12_count_239 (v := v38 + nI 1) rfl (by decide) rfl ?_
            refine g_goto (pc := 242) X dX12_count_242 (tgt := 182) (by decide) ?_
            exact ih y61 (v38 + nI 1) s62 hR h
    refine g_drop (by simp [lsub]) (hL  _ (fun y64 s65 hR h => ?_) n63 (nI 0) (nI 0) s1 hR h)
    · refine g_iload_2 (pc := 245) X dX12_count_245 ?_
      exact g_ireturn (pc := 246) X Y dX12_count_246 (Nat.le_of_ble_eq_true rfl) (Nat.le_of_ble_eq_true rfl) ⟨_, rfl, hR, h⟩
  replace h := h.2 q36
  refine g_tableOut (pc := 8) X dX12_count_8 (tgt := 247) (tsw_out (lo := 0) (m := 10) (by decide) (fun i hi => ?_)) (by decide) ?_
  · have hi : i = 0 ∨ i = 1 ∨ i = 2 ∨ i = 3 ∨ i = 4 ∨ i = 5 ∨ i = 6 ∨ i = 7 ∨ i = 8 ∨ i = 9 := by omega
    rcases hi with rfl | rfl | rfl | rfl | rfl | rfl | rfl | rfl | rfl | rfl
    · exact q2
    · exact q3
    · exact q4
    · exact q5
    · exact q6
    · exact q17
    · exact q33
    · exact q34
    · exact q35
    · exact q36
  refine g_iconst (pc := 247) X dX12_count_247 kiconst_m1 ?_
  exact g_ireturn (pc := 248) X Y dX12_count_248 (Nat.le_of_ble_eq_true rfl) (Nat.le_of_ble_eq_true rfl) ⟨_, rfl, hR, h⟩
