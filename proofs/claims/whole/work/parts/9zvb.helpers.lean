/-! the law's helpers -/
theorem LRI.ok {B : (Int32 → gSt → Prop) → gSt → Prop} {s : gSt} (hb : ∃ b, s.2.2 = gRf b) (h : B (fun w t => fin (nI 0) (i2l w) t) s) : LRI B (nI 0) s := ⟨hb, h⟩
theorem LRI.no {B : (Int32 → gSt → Prop) → gSt → Prop} {k : Int32} {s : gSt} (hb : ∃ b, s.2.2 = gRf b) (hk : ¬ k = 0) (h : B (fun _ t => fin k (lN 0) t) s) : LRI B k s := ⟨hb, by
  have e : (fun (_ : Int32) (t : gSt) => fin k (lN 0) t) = fun w t => fin k (i2l w) t := by
    funext w t
    unfold fin
    exact propext ⟨fun h => ⟨h.1, fun z => absurd z hk, h.2.2⟩, fun h => ⟨h.1, fun z => absurd z hk, h.2.2⟩⟩
  rw [e] at h
  exact h⟩
theorem LRL.ok {B : (Int64 → gSt → Prop) → gSt → Prop} {s : gSt} (hb : ∃ b, s.2.2 = gRf b) (h : B (fun w t => fin (nI 0) w t) s) : LRL B (nI 0) s := ⟨hb, h⟩
theorem LRL.no {B : (Int64 → gSt → Prop) → gSt → Prop} {k : Int32} {s : gSt} (hb : ∃ b, s.2.2 = gRf b) (hk : ¬ k = 0) (h : B (fun _ t => fin k (lN 0) t) s) : LRL B k s := ⟨hb, by
  have e : (fun (_ : Int64) (t : gSt) => fin k (lN 0) t) = fun w t => fin k w t := by
    funext w t
    unfold fin
    exact propext ⟨fun h => ⟨h.1, fun z => absurd z hk, h.2.2⟩, fun h => ⟨h.1, fun z => absurd z hk, h.2.2⟩⟩
  rw [e] at h
  exact h⟩
theorem LRZ.ok {B : (Int32 → gSt → Prop) → gSt → Prop} {s : gSt} (hb : ∃ b, s.2.2 = gRf b) (h : B (fun w t => (w = nI 0 ∨ w = nI 1) ∧ fin (nI 0) (i2l w) t) s) : LRZ B (nI 0) s := ⟨hb, by
  have e : (fun (w : Int32) (t : gSt) => (w = nI 0 ∨ w = nI 1) ∧ fin (nI 0) (i2l w) t) = fun w t => (nI 0 = 0 → w = nI 0 ∨ w = nI 1) ∧ fin (nI 0) (i2l w) t := by
    funext w t
    exact propext ⟨fun h => ⟨fun _ => h.1, h.2⟩, fun h => ⟨h.1 rfl, h.2⟩⟩
  rw [e] at h
  exact h⟩
theorem LRZ.no {B : (Int32 → gSt → Prop) → gSt → Prop} {k : Int32} {s : gSt} (hb : ∃ b, s.2.2 = gRf b) (hk : ¬ k = 0) (h : B (fun _ t => fin k (lN 0) t) s) : LRZ B k s := ⟨hb, by
  have e : (fun (_ : Int32) (t : gSt) => fin k (lN 0) t) = fun w t => (k = 0 → w = nI 0 ∨ w = nI 1) ∧ fin k (i2l w) t := by
    funext w t
    unfold fin
    exact propext ⟨fun h => ⟨fun z => absurd z hk, h.1, fun z => absurd z hk, h.2.2⟩, fun h => ⟨h.2.1, fun z => absurd z hk, h.2.2.2⟩⟩
  rw [e] at h
  exact h⟩
theorem mwL_entry : MIW mL_entry [(0, 16, 19, 13)] := ⟨tb_4 32 rfl (by decide +kernel), by decide +kernel, ⟨by decide +kernel, by decide +kernel, by decide +kernel⟩, tb_1 0 rfl (by decide +kernel)⟩
theorem lL_entry {o : gOm} {l : Launch} {b : Bool} {σ : gSt} (hst : l.stackTraces = false) (hI : Inv b σ) (p0 : Int32) (p1 : Int32) (p2 : Int32) (p3 : Int32) (p4 : Int32) : SpW o l mL_entry [(0, 16, 19, 13)] 9 5 30 [.ref (ad o 0), .int p0, .int p1, .int p2, .int p3, .int p4, .ref (ad o 115)] 116 σ (pI (LRI (W_X12_entry p0 p1 p2 p3 p4))) := by
  have hR := hI.1
  have h := op_entry hI p0 p1 p2 p3 p4
  unfold OKI at h
  refine SpW.of (ls0 := [some (.ref (ad o 0)), some (.int p0), some (.int p1), some (.int p2), some (.int p3), some (.int p4), some (.ref (ad o 115)), none]) mwL_entry rfl (Nat.le_of_ble_eq_true rfl) rfl (fun γ hγ X Y T => ?_)
  subst hγ
  have X : gX o γ cL_entry 8 RL := X
  refine g_aload_6 (pc := 0) X dL_entry_0 ?_
  refine g_iconst (pc := 2) X dL_entry_2 kiconst_0 ?_
  refine g_aload_0 (pc := 3) X dL_entry_3 ?_
  refine g_iload_1 (pc := 4) X dL_entry_4 ?_
  refine g_iload_2 (pc := 5) X dL_entry_5 ?_
  refine g_iload_3 (pc := 6) X dL_entry_6 ?_
  refine g_iload_4 (pc := 7) X dL_entry_7 ?_
  refine g_iload_5 (pc := 9) X dL_entry_9 ?_
  refine g_callVX_I (pc := 11) X Y dL_entry_11 miX11_entry li_L_7 (t_X11_entry hst hR h) rfl (by decide) rfl ⟨_, rfl⟩ rfl ⟨Nat.le_of_ble_eq_true rfl, Nat.le_of_ble_eq_true rfl⟩ ⟨Nat.le_of_ble_eq_true rfl, Nat.le_of_ble_eq_true rfl⟩ (by exact Nat.le_of_ble_eq_true rfl) rfl (fun E s hp => ?_) (fun v s hp => ?_)
  · obtain ⟨hR, k, hc, h⟩ := hp
    obtain ⟨rfl, rfl⟩ := hc
    refine g_catch (pc := 11) (name := iaE) X T [] ⟨0, 16, 19, 13⟩ [] rfl (fun z hz => absurd hz List.not_mem_nil) (by decide) (by decide) kl_L_13 (by simp [gXw]) (fun q => ?_)
    refine g_astore_7 (pc := 19) X dL_entry_19 (by decide) rfl ?_
    refine g_iconst (pc := 21) X dL_entry_21 kiconst_1 ?_
    exact g_ireturn (pc := 22) X Y dL_entry_22 (Nat.le_of_ble_eq_true rfl) (Nat.le_of_ble_eq_true rfl) ⟨_, rfl, LRI.no ⟨b, hR⟩ (by decide) h⟩
  · obtain ⟨hR, h⟩ := hp
    refine g_i2l (pc := 14) X dL_entry_14 ?_
    refine g_lastore_n (pc := 15) (a := 0) X dL_entry_15 rfl (by decide) rfl (by decide) ?_
    refine g_goto (pc := 16) X dL_entry_16 (tgt := 23) (by decide) ?_
    refine g_iconst (pc := 23) X dL_entry_23 kiconst_0 ?_
    exact g_ireturn (pc := 24) X Y dL_entry_24 (Nat.le_of_ble_eq_true rfl) (Nat.le_of_ble_eq_true rfl) ⟨_, rfl, LRI.ok ⟨b, hR⟩ (h _ rfl)⟩
theorem mwL_of : MIW mL_of [(0, 10, 13, 19), (0, 10, 17, 13)] := ⟨tb_4 172 rfl (by decide +kernel), by decide +kernel, ⟨by decide +kernel, by decide +kernel, by decide +kernel⟩, tb_1 0 rfl (by decide +kernel)⟩
theorem lL_of {o : gOm} {l : Launch} {b : Bool} {σ : gSt} (hst : l.stackTraces = false) (hI : Inv b σ) (p0 : Int32) (p1 : Int32) : SpW o l mL_of [(0, 10, 13, 19), (0, 10, 17, 13)] 8 2 12 [.ref (ad o 0), .int p0, .int p1, .ref (ad o 115)] 116 σ (pI (LRI (W_X12_of p0 p1))) := by
  have hR := hI.1
  have h := op_of hI p0 p1
  unfold OKI at h
  refine SpW.of (ls0 := [some (.ref (ad o 0)), some (.int p0), some (.int p1), some (.ref (ad o 115)), none]) mwL_of rfl (Nat.le_of_ble_eq_true rfl) rfl (fun γ hγ X Y T => ?_)
  subst hγ
  have X : gX o γ cL_of 5 RL := X
  refine g_aload_3 (pc := 0) X dL_of_0 ?_
  refine g_iconst (pc := 1) X dL_of_1 kiconst_0 ?_
  refine g_aload_0 (pc := 2) X dL_of_2 ?_
  refine g_iload_1 (pc := 3) X dL_of_3 ?_
  refine g_iload_2 (pc := 4) X dL_of_4 ?_
  refine g_callVX_I (pc := 5) X Y dL_of_5 miX11_of li_L_15 (t_X11_of hst hR h) rfl (by decide) rfl ⟨_, rfl⟩ rfl ⟨Nat.le_of_ble_eq_true rfl, Nat.le_of_ble_eq_true rfl⟩ ⟨Nat.le_of_ble_eq_true rfl, Nat.le_of_ble_eq_true rfl⟩ (by exact Nat.le_of_ble_eq_true rfl) rfl (fun E s hp => ?_) (fun v s hp => ?_)
  · obtain ⟨hR, k, hc, h⟩ := hp
    rcases hc with ⟨rfl, rfl⟩ | ⟨rfl, rfl⟩
    · refine g_catch (pc := 5) (name := nsE) X T [] ⟨0, 10, 13, 19⟩ [⟨0, 10, 17, 13⟩] rfl (fun z hz => absurd hz List.not_mem_nil) (by decide) (by decide) kl_L_19 (by simp [gXw]) (fun q => ?_)
      refine g_astore_4 (pc := 13) X dL_of_13 (by decide) rfl ?_
      refine g_iconst (pc := 15) X dL_of_15 kiconst_1 ?_
      exact g_ireturn (pc := 16) X Y dL_of_16 (Nat.le_of_ble_eq_true rfl) (Nat.le_of_ble_eq_true rfl) ⟨_, rfl, LRI.no ⟨b, hR⟩ (by decide) h⟩
    · refine g_catch (pc := 5) (name := iaE) X T [⟨0, 10, 13, 19⟩] ⟨0, 10, 17, 13⟩ [] rfl (fun z hz => by
          rw [List.mem_singleton] at hz
          subst hz
          exact .inr ⟨by decide, nsE, kl_L_19, fun s h => h.2⟩) (by decide) (by decide) kl_L_13 (by simp [gXw]) (fun q => ?_)
      refine g_astore_4 (pc := 17) X dL_of_17 (by decide) rfl ?_
      refine g_iconst (pc := 19) X dL_of_19 kiconst_2 ?_
      exact g_ireturn (pc := 20) X Y dL_of_20 (Nat.le_of_ble_eq_true rfl) (Nat.le_of_ble_eq_true rfl) ⟨_, rfl, LRI.no ⟨b, hR⟩ (by decide) h⟩
  · obtain ⟨hR, h⟩ := hp
    refine g_i2l (pc := 8) X dL_of_8 ?_
    refine g_lastore_n (pc := 9) (a := 0) X dL_of_9 rfl (by decide) rfl (by decide) ?_
    refine g_goto (pc := 10) X dL_of_10 (tgt := 21) (by decide) ?_
    refine g_iconst (pc := 21) X dL_of_21 kiconst_0 ?_
    exact g_ireturn (pc := 22) X Y dL_of_22 (Nat.le_of_ble_eq_true rfl) (Nat.le_of_ble_eq_true rfl) ⟨_, rfl, LRI.ok ⟨b, hR⟩ (h _ rfl)⟩
theorem mwL_like : MIW mL_like [(0, 12, 15, 13)] := ⟨tb_4 208 rfl (by decide +kernel), by decide +kernel, ⟨by decide +kernel, by decide +kernel, by decide +kernel⟩, tb_1 0 rfl (by decide +kernel)⟩
theorem lL_like {o : gOm} {l : Launch} {b : Bool} {σ : gSt} (hst : l.stackTraces = false) (hI : Inv b σ) (p0 : Int32) (p1 : Int32) (p2 : Int32) : SpW o l mL_like [(0, 12, 15, 13)] 9 3 18 [.ref (ad o 0), .int p0, .int p1, .int p2, .ref (ad o 115)] 116 σ (pI (LRI (W_X12_like p0 p1 p2))) := by
  have hR := hI.1
  have h := op_like hI p0 p1 p2
  unfold OKI at h
  refine SpW.of (ls0 := [some (.ref (ad o 0)), some (.int p0), some (.int p1), some (.int p2), some (.ref (ad o 115)), none]) mwL_like rfl (Nat.le_of_ble_eq_true rfl) rfl (fun γ hγ X Y T => ?_)
  subst hγ
  have X : gX o γ cL_like 6 RL := X
  refine g_aload_4 (pc := 0) X dL_like_0 ?_
  refine g_iconst (pc := 2) X dL_like_2 kiconst_0 ?_
  refine g_aload_0 (pc := 3) X dL_like_3 ?_
  refine g_iload_1 (pc := 4) X dL_like_4 ?_
  refine g_iload_2 (pc := 5) X dL_like_5 ?_
  refine g_iload_3 (pc := 6) X dL_like_6 ?_
  refine g_callVX_I (pc := 7) X Y dL_like_7 miX11_like li_L_21 (t_X11_like hst hR h) rfl (by decide) rfl ⟨_, rfl⟩ rfl ⟨Nat.le_of_ble_eq_true rfl, Nat.le_of_ble_eq_true rfl⟩ ⟨Nat.le_of_ble_eq_true rfl, Nat.le_of_ble_eq_true rfl⟩ (by exact Nat.le_of_ble_eq_true rfl) rfl (fun E s hp => ?_) (fun v s hp => ?_)
  · obtain ⟨hR, k, hc, h⟩ := hp
    obtain ⟨rfl, rfl⟩ := hc
    refine g_catch (pc := 7) (name := iaE) X T [] ⟨0, 12, 15, 13⟩ [] rfl (fun z hz => absurd hz List.not_mem_nil) (by decide) (by decide) kl_L_13 (by simp [gXw]) (fun q => ?_)
    refine g_astore_5 (pc := 15) X dL_like_15 (by decide) rfl ?_
    refine g_iconst (pc := 17) X dL_like_17 kiconst_1 ?_
    exact g_ireturn (pc := 18) X Y dL_like_18 (Nat.le_of_ble_eq_true rfl) (Nat.le_of_ble_eq_true rfl) ⟨_, rfl, LRI.no ⟨b, hR⟩ (by decide) h⟩
  · obtain ⟨hR, h⟩ := hp
    refine g_i2l (pc := 10) X dL_like_10 ?_
    refine g_lastore_n (pc := 11) (a := 0) X dL_like_11 rfl (by decide) rfl (by decide) ?_
    refine g_goto (pc := 12) X dL_like_12 (tgt := 19) (by decide) ?_
    refine g_iconst (pc := 19) X dL_like_19 kiconst_0 ?_
    exact g_ireturn (pc := 20) X Y dL_like_20 (Nat.le_of_ble_eq_true rfl) (Nat.le_of_ble_eq_true rfl) ⟨_, rfl, LRI.ok ⟨b, hR⟩ (h _ rfl)⟩
theorem mwL_rules : MIW mL_rules [(0, 9, 12, 13)] := ⟨tb_4 219 rfl (by decide +kernel), by decide +kernel, ⟨by decide +kernel, by decide +kernel, by decide +kernel⟩, tb_1 0 rfl (by decide +kernel)⟩
theorem lL_rules {o : gOm} {l : Launch} {b : Bool} {σ : gSt} (hst : l.stackTraces = false) (hI : Inv b σ) (p0 : Int32) : SpW o l mL_rules [(0, 9, 12, 13)] 127 1 6 [.ref (ad o 0), .int p0, .ref (ad o 115)] 116 σ (pI (LRI (W_X12_rules p0))) := by
  have hR := hI.1
  have h := op_rules (wbOK_all b) hI p0
  unfold OKI at h
  refine SpW.of (ls0 := [some (.ref (ad o 0)), some (.int p0), some (.ref (ad o 115)), none]) mwL_rules rfl (Nat.le_of_ble_eq_true rfl) rfl (fun γ hγ X Y T => ?_)
  subst hγ
  have X : gX o γ cL_rules 4 RL := X
  refine g_aload_2 (pc := 0) X dL_rules_0 ?_
  refine g_iconst (pc := 1) X dL_rules_1 kiconst_0 ?_
  refine g_aload_0 (pc := 2) X dL_rules_2 ?_
  refine g_iload_1 (pc := 3) X dL_rules_3 ?_
  refine g_callVX_I (pc := 4) X Y dL_rules_4 miX11_rules li_L_25 (t_X11_rules hst hR h) rfl (by decide) rfl ⟨_, rfl⟩ rfl ⟨Nat.le_of_ble_eq_true rfl, Nat.le_of_ble_eq_true rfl⟩ ⟨Nat.le_of_ble_eq_true rfl, Nat.le_of_ble_eq_true rfl⟩ (by exact Nat.le_of_ble_eq_true rfl) rfl (fun E s hp => ?_) (fun v s hp => ?_)
  · obtain ⟨hR, k, hc, h⟩ := hp
    obtain ⟨rfl, rfl⟩ := hc
    refine g_catch (pc := 4) (name := iaE) X T [] ⟨0, 9, 12, 13⟩ [] rfl (fun z hz => absurd hz List.not_mem_nil) (by decide) (by decide) kl_L_13 (by simp [gXw]) (fun q => ?_)
    refine g_astore_3 (pc := 12) X dL_rules_12 (by decide) rfl ?_
    refine g_iconst (pc := 13) X dL_rules_13 kiconst_1 ?_
    exact g_ireturn (pc := 14) X Y dL_rules_14 (Nat.le_of_ble_eq_true rfl) (Nat.le_of_ble_eq_true rfl) ⟨_, rfl, LRI.no ⟨b, hR⟩ (by decide) h⟩
  · obtain ⟨⟨b2, hR⟩, h⟩ := hp
    refine g_i2l (pc := 7) X dL_rules_7 ?_
    refine g_lastore_n (pc := 8) (a := 0) X dL_rules_8 rfl (by decide) rfl (by decide) ?_
    refine g_goto (pc := 9) X dL_rules_9 (tgt := 15) (by decide) ?_
    refine g_iconst (pc := 15) X dL_rules_15 kiconst_0 ?_
    exact g_ireturn (pc := 16) X Y dL_rules_16 (Nat.le_of_ble_eq_true rfl) (Nat.le_of_ble_eq_true rfl) ⟨_, rfl, LRI.ok ⟨b2, hR⟩ (h _ rfl)⟩
theorem mwL_weight : MIW mL_weight [(0, 10, 13, 19), (0, 10, 17, 13)] := ⟨tb_5 159 rfl (by decide +kernel), by decide +kernel, ⟨by decide +kernel, by decide +kernel, by decide +kernel⟩, tb_1 0 rfl (by decide +kernel)⟩
theorem lL_weight {o : gOm} {l : Launch} {b : Bool} {σ : gSt} (hst : l.stackTraces = false) (hI : Inv b σ) (p0 : Int32) (p1 : Int32) : SpW o l mL_weight [(0, 10, 13, 19), (0, 10, 17, 13)] 9 3 18 [.ref (ad o 0), .int p0, .int p1, .ref (ad o 115)] 116 σ (pI (LRI (W_X12_weight p0 p1))) := by
  have hR := hI.1
  have h := op_weight hI p0 p1
  unfold OKI at h
  refine SpW.of (ls0 := [some (.ref (ad o 0)), some (.int p0), some (.int p1), some (.ref (ad o 115)), none]) mwL_weight rfl (Nat.le_of_ble_eq_true rfl) rfl (fun γ hγ X Y T => ?_)
  subst hγ
  have X : gX o γ cL_weight 5 RL := X
  refine g_aload_3 (pc := 0) X dL_weight_0 ?_
  refine g_iconst (pc := 1) X dL_weight_1 kiconst_0 ?_
  refine g_aload_0 (pc := 2) X dL_weight_2 ?_
  refine g_iload_1 (pc := 3) X dL_weight_3 ?_
  refine g_iload_2 (pc := 4) X dL_weight_4 ?_
  refine g_callVX_I (pc := 5) X Y dL_weight_5 miX11_weight li_L_29 (t_X11_weight hst hR h) rfl (by decide) rfl ⟨_, rfl⟩ rfl ⟨Nat.le_of_ble_eq_true rfl, Nat.le_of_ble_eq_true rfl⟩ ⟨Nat.le_of_ble_eq_true rfl, Nat.le_of_ble_eq_true rfl⟩ (by exact Nat.le_of_ble_eq_true rfl) rfl (fun E s hp => ?_) (fun v s hp => ?_)
  · obtain ⟨hR, k, hc, h⟩ := hp
    rcases hc with ⟨rfl, rfl⟩ | ⟨rfl, rfl⟩
    · refine g_catch (pc := 5) (name := nsE) X T [] ⟨0, 10, 13, 19⟩ [⟨0, 10, 17, 13⟩] rfl (fun z hz => absurd hz List.not_mem_nil) (by decide) (by decide) kl_L_19 (by simp [gXw]) (fun q => ?_)
      refine g_astore_4 (pc := 13) X dL_weight_13 (by decide) rfl ?_
      refine g_iconst (pc := 15) X dL_weight_15 kiconst_1 ?_
      exact g_ireturn (pc := 16) X Y dL_weight_16 (Nat.le_of_ble_eq_true rfl) (Nat.le_of_ble_eq_true rfl) ⟨_, rfl, LRI.no ⟨b, hR⟩ (by decide) h⟩
    · refine g_catch (pc := 5) (name := iaE) X T [⟨0, 10, 13, 19⟩] ⟨0, 10, 17, 13⟩ [] rfl (fun z hz => by
          rw [List.mem_singleton] at hz
          subst hz
          exact .inr ⟨by decide, nsE, kl_L_19, fun s h => h.2⟩) (by decide) (by decide) kl_L_13 (by simp [gXw]) (fun q => ?_)
      refine g_astore_4 (pc := 17) X dL_weight_17 (by decide) rfl ?_
      refine g_iconst (pc := 19) X dL_weight_19 kiconst_2 ?_
      exact g_ireturn (pc := 20) X Y dL_weight_20 (Nat.le_of_ble_eq_true rfl) (Nat.le_of_ble_eq_true rfl) ⟨_, rfl, LRI.no ⟨b, hR⟩ (by decide) h⟩
  · obtain ⟨rfl, h⟩ := hp
    refine g_i2l (pc := 8) X dL_weight_8 ?_
    refine g_lastore_n (pc := 9) (a := 0) X dL_weight_9 rfl (by decide) rfl (by decide) ?_
    refine g_goto (pc := 10) X dL_weight_10 (tgt := 21) (by decide) ?_
    refine g_iconst (pc := 21) X dL_weight_21 kiconst_0 ?_
    exact g_ireturn (pc := 22) X Y dL_weight_22 (Nat.le_of_ble_eq_true rfl) (Nat.le_of_ble_eq_true rfl) ⟨_, rfl, LRI.ok ⟨b, hR⟩ (h _ rfl)⟩
theorem mwL_why : MIW mL_why [(0, 10, 13, 19), (0, 10, 17, 13)] := ⟨tb_5 173 rfl (by decide +kernel), by decide +kernel, ⟨by decide +kernel, by decide +kernel, by decide +kernel⟩, tb_1 0 rfl (by decide +kernel)⟩
theorem lL_why {o : gOm} {l : Launch} {b : Bool} {σ : gSt} (hst : l.stackTraces = false) (hI : Inv b σ) (p0 : Int32) (p1 : Int32) : SpW o l mL_why [(0, 10, 13, 19), (0, 10, 17, 13)] 9 3 18 [.ref (ad o 0), .int p0, .int p1, .ref (ad o 115)] 116 σ (pI (LRI (W_X12_why p0 p1))) := by
  have hR := hI.1
  have h := op_why hI p0 p1
  unfold OKI at h
  refine SpW.of (ls0 := [some (.ref (ad o 0)), some (.int p0), some (.int p1), some (.ref (ad o 115)), none]) mwL_why rfl (Nat.le_of_ble_eq_true rfl) rfl (fun γ hγ X Y T => ?_)
  subst hγ
  have X : gX o γ cL_why 5 RL := X
  refine g_aload_3 (pc := 0) X dL_why_0 ?_
  refine g_iconst (pc := 1) X dL_why_1 kiconst_0 ?_
  refine g_aload_0 (pc := 2) X dL_why_2 ?_
  refine g_iload_1 (pc := 3) X dL_why_3 ?_
  refine g_iload_2 (pc := 4) X dL_why_4 ?_
  refine g_callVX_I (pc := 5) X Y dL_why_5 miX11_why li_L_32 (t_X11_why hst hR h) rfl (by decide) rfl ⟨_, rfl⟩ rfl ⟨Nat.le_of_ble_eq_true rfl, Nat.le_of_ble_eq_true rfl⟩ ⟨Nat.le_of_ble_eq_true rfl, Nat.le_of_ble_eq_true rfl⟩ (by exact Nat.le_of_ble_eq_true rfl) rfl (fun E s hp => ?_) (fun v s hp => ?_)
  · obtain ⟨hR, k, hc, h⟩ := hp
    rcases hc with ⟨rfl, rfl⟩ | ⟨rfl, rfl⟩
    · refine g_catch (pc := 5) (name := nsE) X T [] ⟨0, 10, 13, 19⟩ [⟨0, 10, 17, 13⟩] rfl (fun z hz => absurd hz List.not_mem_nil) (by decide) (by decide) kl_L_19 (by simp [gXw]) (fun q => ?_)
      refine g_astore_4 (pc := 13) X dL_why_13 (by decide) rfl ?_
      refine g_iconst (pc := 15) X dL_why_15 kiconst_1 ?_
      exact g_ireturn (pc := 16) X Y dL_why_16 (Nat.le_of_ble_eq_true rfl) (Nat.le_of_ble_eq_true rfl) ⟨_, rfl, LRI.no ⟨b, hR⟩ (by decide) h⟩
    · refine g_catch (pc := 5) (name := iaE) X T [⟨0, 10, 13, 19⟩] ⟨0, 10, 17, 13⟩ [] rfl (fun z hz => by
          rw [List.mem_singleton] at hz
          subst hz
          exact .inr ⟨by decide, nsE, kl_L_19, fun s h => h.2⟩) (by decide) (by decide) kl_L_13 (by simp [gXw]) (fun q => ?_)
      refine g_astore_4 (pc := 17) X dL_why_17 (by decide) rfl ?_
      refine g_iconst (pc := 19) X dL_why_19 kiconst_2 ?_
      exact g_ireturn (pc := 20) X Y dL_why_20 (Nat.le_of_ble_eq_true rfl) (Nat.le_of_ble_eq_true rfl) ⟨_, rfl, LRI.no ⟨b, hR⟩ (by decide) h⟩
  · obtain ⟨rfl, h⟩ := hp
    refine g_i2l (pc := 8) X dL_why_8 ?_
    refine g_lastore_n (pc := 9) (a := 0) X dL_why_9 rfl (by decide) rfl (by decide) ?_
    refine g_goto (pc := 10) X dL_why_10 (tgt := 21) (by decide) ?_
    refine g_iconst (pc := 21) X dL_why_21 kiconst_0 ?_
    exact g_ireturn (pc := 22) X Y dL_why_22 (Nat.le_of_ble_eq_true rfl) (Nat.le_of_ble_eq_true rfl) ⟨_, rfl, LRI.ok ⟨b, hR⟩ (h _ rfl)⟩
theorem mwL_weigh : MIW mL_weigh [(0, 12, 15, 19), (0, 12, 19, 13)] := ⟨tb_5 185 rfl (by decide +kernel), by decide +kernel, ⟨by decide +kernel, by decide +kernel, by decide +kernel⟩, tb_1 0 rfl (by decide +kernel)⟩
theorem lL_weigh {o : gOm} {l : Launch} {b : Bool} {σ : gSt} (hst : l.stackTraces = false) (hI : Inv b σ) (p0 : Int32) (p1 : Int32) (p2 : Int32) : SpW o l mL_weigh [(0, 12, 15, 19), (0, 12, 19, 13)] 9 4 24 [.ref (ad o 0), .int p0, .int p1, .int p2, .ref (ad o 115)] 116 σ (pI (LRI (W_X12_weigh p0 p1 p2))) := by
  have hR := hI.1
  have h := op_weigh hI p0 p1 p2
  unfold OKI at h
  refine SpW.of (ls0 := [some (.ref (ad o 0)), some (.int p0), some (.int p1), some (.int p2), some (.ref (ad o 115)), none]) mwL_weigh rfl (Nat.le_of_ble_eq_true rfl) rfl (fun γ hγ X Y T => ?_)
  subst hγ
  have X : gX o γ cL_weigh 6 RL := X
  refine g_aload_4 (pc := 0) X dL_weigh_0 ?_
  refine g_iconst (pc := 2) X dL_weigh_2 kiconst_0 ?_
  refine g_aload_0 (pc := 3) X dL_weigh_3 ?_
  refine g_iload_1 (pc := 4) X dL_weigh_4 ?_
  refine g_iload_2 (pc := 5) X dL_weigh_5 ?_
  refine g_iload_3 (pc := 6) X dL_weigh_6 ?_
  refine g_callVX_I (pc := 7) X Y dL_weigh_7 miX11_weigh li_L_35 (t_X11_weigh hst hR h) rfl (by decide) rfl ⟨_, rfl⟩ rfl ⟨Nat.le_of_ble_eq_true rfl, Nat.le_of_ble_eq_true rfl⟩ ⟨Nat.le_of_ble_eq_true rfl, Nat.le_of_ble_eq_true rfl⟩ (by exact Nat.le_of_ble_eq_true rfl) rfl (fun E s hp => ?_) (fun v s hp => ?_)
  · obtain ⟨hR, k, hc, h⟩ := hp
    rcases hc with ⟨rfl, rfl⟩ | ⟨rfl, rfl⟩
    · refine g_catch (pc := 7) (name := nsE) X T [] ⟨0, 12, 15, 19⟩ [⟨0, 12, 19, 13⟩] rfl (fun z hz => absurd hz List.not_mem_nil) (by decide) (by decide) kl_L_19 (by simp [gXw]) (fun q => ?_)
      refine g_astore_5 (pc := 15) X dL_weigh_15 (by decide) rfl ?_
      refine g_iconst (pc := 17) X dL_weigh_17 kiconst_1 ?_
      exact g_ireturn (pc := 18) X Y dL_weigh_18 (Nat.le_of_ble_eq_true rfl) (Nat.le_of_ble_eq_true rfl) ⟨_, rfl, LRI.no ⟨b, hR⟩ (by decide) h⟩
    · refine g_catch (pc := 7) (name := iaE) X T [⟨0, 12, 15, 19⟩] ⟨0, 12, 19, 13⟩ [] rfl (fun z hz => by
          rw [List.mem_singleton] at hz
          subst hz
          exact .inr ⟨by decide, nsE, kl_L_19, fun s h => h.2⟩) (by decide) (by decide) kl_L_13 (by simp [gXw]) (fun q => ?_)
      refine g_astore_5 (pc := 19) X dL_weigh_19 (by decide) rfl ?_
      refine g_iconst (pc := 21) X dL_weigh_21 kiconst_2 ?_
      exact g_ireturn (pc := 22) X Y dL_weigh_22 (Nat.le_of_ble_eq_true rfl) (Nat.le_of_ble_eq_true rfl) ⟨_, rfl, LRI.no ⟨b, hR⟩ (by decide) h⟩
  · obtain ⟨hR, h⟩ := hp
    refine g_i2l (pc := 10) X dL_weigh_10 ?_
    refine g_lastore_n (pc := 11) (a := 0) X dL_weigh_11 rfl (by decide) rfl (by decide) ?_
    refine g_goto (pc := 12) X dL_weigh_12 (tgt := 23) (by decide) ?_
    refine g_iconst (pc := 23) X dL_weigh_23 kiconst_0 ?_
    exact g_ireturn (pc := 24) X Y dL_weigh_24 (Nat.le_of_ble_eq_true rfl) (Nat.le_of_ble_eq_true rfl) ⟨_, rfl, LRI.ok ⟨b, hR⟩ (h _ rfl)⟩
theorem mwL_forget : MIW mL_forget [(0, 10, 13, 19), (0, 10, 17, 13)] := ⟨tb_5 197 rfl (by decide +kernel), by decide +kernel, ⟨by decide +kernel, by decide +kernel, by decide +kernel⟩, tb_1 0 rfl (by decide +kernel)⟩
theorem lL_forget {o : gOm} {l : Launch} {b : Bool} {σ : gSt} (hst : l.stackTraces = false) (hI : Inv b σ) (p0 : Int32) (p1 : Int32) : SpW o l mL_forget [(0, 10, 13, 19), (0, 10, 17, 13)] 9 3 18 [.ref (ad o 0), .int p0, .int p1, .ref (ad o 115)] 116 σ (pI (LRI (W_X12_forget p0 p1))) := by
  have hR := hI.1
  have h := op_forget hI p0 p1
  unfold OKI at h
  refine SpW.of (ls0 := [some (.ref (ad o 0)), some (.int p0), some (.int p1), some (.ref (ad o 115)), none]) mwL_forget rfl (Nat.le_of_ble_eq_true rfl) rfl (fun γ hγ X Y T => ?_)
  subst hγ
  have X : gX o γ cL_forget 5 RL := X
  refine g_aload_3 (pc := 0) X dL_forget_0 ?_
  refine g_iconst (pc := 1) X dL_forget_1 kiconst_0 ?_
  refine g_aload_0 (pc := 2) X dL_forget_2 ?_
  refine g_iload_1 (pc := 3) X dL_forget_3 ?_
  refine g_iload_2 (pc := 4) X dL_forget_4 ?_
  refine g_callVX_I (pc := 5) X Y dL_forget_5 miX11_forget li_L_38 (t_X11_forget hst hR h) rfl (by decide) rfl ⟨_, rfl⟩ rfl ⟨Nat.le_of_ble_eq_true rfl, Nat.le_of_ble_eq_true rfl⟩ ⟨Nat.le_of_ble_eq_true rfl, Nat.le_of_ble_eq_true rfl⟩ (by exact Nat.le_of_ble_eq_true rfl) rfl (fun E s hp => ?_) (fun v s hp => ?_)
  · obtain ⟨hR, k, hc, h⟩ := hp
    rcases hc with ⟨rfl, rfl⟩ | ⟨rfl, rfl⟩
    · refine g_catch (pc := 5) (name := nsE) X T [] ⟨0, 10, 13, 19⟩ [⟨0, 10, 17, 13⟩] rfl (fun z hz => absurd hz List.not_mem_nil) (by decide) (by decide) kl_L_19 (by simp [gXw]) (fun q => ?_)
      refine g_astore_4 (pc := 13) X dL_forget_13 (by decide) rfl ?_
      refine g_iconst (pc := 15) X dL_forget_15 kiconst_1 ?_
      exact g_ireturn (pc := 16) X Y dL_forget_16 (Nat.le_of_ble_eq_true rfl) (Nat.le_of_ble_eq_true rfl) ⟨_, rfl, LRI.no ⟨b, hR⟩ (by decide) h⟩
    · refine g_catch (pc := 5) (name := iaE) X T [⟨0, 10, 13, 19⟩] ⟨0, 10, 17, 13⟩ [] rfl (fun z hz => by
          rw [List.mem_singleton] at hz
          subst hz
          exact .inr ⟨by decide, nsE, kl_L_19, fun s h => h.2⟩) (by decide) (by decide) kl_L_13 (by simp [gXw]) (fun q => ?_)
      refine g_astore_4 (pc := 17) X dL_forget_17 (by decide) rfl ?_
      refine g_iconst (pc := 19) X dL_forget_19 kiconst_2 ?_
      exact g_ireturn (pc := 20) X Y dL_forget_20 (Nat.le_of_ble_eq_true rfl) (Nat.le_of_ble_eq_true rfl) ⟨_, rfl, LRI.no ⟨b, hR⟩ (by decide) h⟩
  · obtain ⟨hR, h⟩ := hp
    refine g_i2l (pc := 8) X dL_forget_8 ?_
    refine g_lastore_n (pc := 9) (a := 0) X dL_forget_9 rfl (by decide) rfl (by decide) ?_
    refine g_goto (pc := 10) X dL_forget_10 (tgt := 21) (by decide) ?_
    refine g_iconst (pc := 21) X dL_forget_21 kiconst_0 ?_
    exact g_ireturn (pc := 22) X Y dL_forget_22 (Nat.le_of_ble_eq_true rfl) (Nat.le_of_ble_eq_true rfl) ⟨_, rfl, LRI.ok ⟨b, hR⟩ (h _ rfl)⟩
theorem mwL_law : MIW mL_law [(0, 10, 13, 13)] := ⟨tb_5 208 rfl (by decide +kernel), by decide +kernel, ⟨by decide +kernel, by decide +kernel, by decide +kernel⟩, tb_1 0 rfl (by decide +kernel)⟩
theorem lL_law {o : gOm} {l : Launch} {b : Bool} {σ : gSt} (hst : l.stackTraces = false) (hI : Inv b σ) (p0 : Int32) (p1 : Int32) : SpW o l mL_law [(0, 10, 13, 13)] 8 2 12 [.ref (ad o 0), .int p0, .int p1, .ref (ad o 115)] 116 σ (pI (LRI (W_X12_law p0 p1))) := by
  have hR := hI.1
  have h := op_law hI p0 p1
  unfold OKI at h
  refine SpW.of (ls0 := [some (.ref (ad o 0)), some (.int p0), some (.int p1), some (.ref (ad o 115)), none]) mwL_law rfl (Nat.le_of_ble_eq_true rfl) rfl (fun γ hγ X Y T => ?_)
  subst hγ
  have X : gX o γ cL_law 5 RL := X
  refine g_aload_3 (pc := 0) X dL_law_0 ?_
  refine g_iconst (pc := 1) X dL_law_1 kiconst_0 ?_
  refine g_aload_0 (pc := 2) X dL_law_2 ?_
  refine g_iload_1 (pc := 3) X dL_law_3 ?_
  refine g_iload_2 (pc := 4) X dL_law_4 ?_
  refine g_callVX_I (pc := 5) X Y dL_law_5 miX11_law li_L_41 (t_X11_law hst hR h) rfl (by decide) rfl ⟨_, rfl⟩ rfl ⟨Nat.le_of_ble_eq_true rfl, Nat.le_of_ble_eq_true rfl⟩ ⟨Nat.le_of_ble_eq_true rfl, Nat.le_of_ble_eq_true rfl⟩ (by exact Nat.le_of_ble_eq_true rfl) rfl (fun E s hp => ?_) (fun v s hp => ?_)
  · obtain ⟨hR, k, hc, h⟩ := hp
    obtain ⟨rfl, rfl⟩ := hc
    refine g_catch (pc := 5) (name := iaE) X T [] ⟨0, 10, 13, 13⟩ [] rfl (fun z hz => absurd hz List.not_mem_nil) (by decide) (by decide) kl_L_13 (by simp [gXw]) (fun q => ?_)
    refine g_astore_4 (pc := 13) X dL_law_13 (by decide) rfl ?_
    refine g_iconst (pc := 15) X dL_law_15 kiconst_1 ?_
    exact g_ireturn (pc := 16) X Y dL_law_16 (Nat.le_of_ble_eq_true rfl) (Nat.le_of_ble_eq_true rfl) ⟨_, rfl, LRI.no ⟨b, hR⟩ (by decide) h⟩
  · obtain ⟨hR, h⟩ := hp
    refine g_i2l (pc := 8) X dL_law_8 ?_
    refine g_lastore_n (pc := 9) (a := 0) X dL_law_9 rfl (by decide) rfl (by decide) ?_
    refine g_goto (pc := 10) X dL_law_10 (tgt := 17) (by decide) ?_
    refine g_iconst (pc := 17) X dL_law_17 kiconst_0 ?_
    exact g_ireturn (pc := 18) X Y dL_law_18 (Nat.le_of_ble_eq_true rfl) (Nat.le_of_ble_eq_true rfl) ⟨_, rfl, LRI.ok ⟨b, hR⟩ (h _ rfl)⟩
theorem mwL_fix : MIW mL_fix [(0, 12, 15, 19), (0, 12, 19, 13)] := ⟨tb_5 219 rfl (by decide +kernel), by decide +kernel, ⟨by decide +kernel, by decide +kernel, by decide +kernel⟩, tb_1 0 rfl (by decide +kernel)⟩
theorem lL_fix {o : gOm} {l : Launch} {b : Bool} {σ : gSt} (hst : l.stackTraces = false) (hI : Inv b σ) (p0 : Int32) (p1 : Int32) (p2 : Bool) : SpW o l mL_fix [(0, 12, 15, 19), (0, 12, 19, 13)] 9 3 18 [.ref (ad o 0), .int p0, .int p1, .int (zI p2), .ref (ad o 115)] 116 σ (pI (LRI (W_X12_fix p0 p1 (zI p2)))) := by
  have hR := hI.1
  have h := op_fix hI p0 p1 p2
  unfold OKI at h
  refine SpW.of (ls0 := [some (.ref (ad o 0)), some (.int p0), some (.int p1), some (.int (zI p2)), some (.ref (ad o 115)), none]) mwL_fix rfl (Nat.le_of_ble_eq_true rfl) rfl (fun γ hγ X Y T => ?_)
  subst hγ
  have X : gX o γ cL_fix 6 RL := X
  refine g_aload_4 (pc := 0) X dL_fix_0 ?_
  refine g_iconst (pc := 2) X dL_fix_2 kiconst_0 ?_
  refine g_aload_0 (pc := 3) X dL_fix_3 ?_
  refine g_iload_1 (pc := 4) X dL_fix_4 ?_
  refine g_iload_2 (pc := 5) X dL_fix_5 ?_
  refine g_iload_3 (pc := 6) X dL_fix_6 ?_
  refine g_callVX_I (pc := 7) X Y dL_fix_7 miX11_fix li_L_44 (t_X11_fix hst hR h) rfl (by decide) rfl ⟨_, rfl⟩ rfl ⟨Nat.le_of_ble_eq_true rfl, Nat.le_of_ble_eq_true rfl⟩ ⟨Nat.le_of_ble_eq_true rfl, Nat.le_of_ble_eq_true rfl⟩ (by exact Nat.le_of_ble_eq_true rfl) rfl (fun E s hp => ?_) (fun v s hp => ?_)
  · obtain ⟨hR, k, hc, h⟩ := hp
    rcases hc with ⟨rfl, rfl⟩ | ⟨rfl, rfl⟩
    · refine g_catch (pc := 7) (name := nsE) X T [] ⟨0, 12, 15, 19⟩ [⟨0, 12, 19, 13⟩] rfl (fun z hz => absurd hz List.not_mem_nil) (by decide) (by decide) kl_L_19 (by simp [gXw]) (fun q => ?_)
      refine g_astore_5 (pc := 15) X dL_fix_15 (by decide) rfl ?_
      refine g_iconst (pc := 17) X dL_fix_17 kiconst_1 ?_
      exact g_ireturn (pc := 18) X Y dL_fix_18 (Nat.le_of_ble_eq_true rfl) (Nat.le_of_ble_eq_true rfl) ⟨_, rfl, LRI.no ⟨b, hR⟩ (by decide) h⟩
    · refine g_catch (pc := 7) (name := iaE) X T [⟨0, 12, 15, 19⟩] ⟨0, 12, 19, 13⟩ [] rfl (fun z hz => by
          rw [List.mem_singleton] at hz
          subst hz
          exact .inr ⟨by decide, nsE, kl_L_19, fun s h => h.2⟩) (by decide) (by decide) kl_L_13 (by simp [gXw]) (fun q => ?_)
      refine g_astore_5 (pc := 19) X dL_fix_19 (by decide) rfl ?_
      refine g_iconst (pc := 21) X dL_fix_21 kiconst_2 ?_
      exact g_ireturn (pc := 22) X Y dL_fix_22 (Nat.le_of_ble_eq_true rfl) (Nat.le_of_ble_eq_true rfl) ⟨_, rfl, LRI.no ⟨b, hR⟩ (by decide) h⟩
  · obtain ⟨hR, h⟩ := hp
    refine g_i2l (pc := 10) X dL_fix_10 ?_
    refine g_lastore_n (pc := 11) (a := 0) X dL_fix_11 rfl (by decide) rfl (by decide) ?_
    refine g_goto (pc := 12) X dL_fix_12 (tgt := 23) (by decide) ?_
    refine g_iconst (pc := 23) X dL_fix_23 kiconst_0 ?_
    exact g_ireturn (pc := 24) X Y dL_fix_24 (Nat.le_of_ble_eq_true rfl) (Nat.le_of_ble_eq_true rfl) ⟨_, rfl, LRI.ok ⟨b, hR⟩ (h _ rfl)⟩
theorem mwL_loose : MIW mL_loose [(0, 10, 13, 19), (0, 10, 17, 13)] := ⟨tb_5 235 rfl (by decide +kernel), by decide +kernel, ⟨by decide +kernel, by decide +kernel, by decide +kernel⟩, tb_1 0 rfl (by decide +kernel)⟩
theorem lL_loose {o : gOm} {l : Launch} {b : Bool} {σ : gSt} (hst : l.stackTraces = false) (hI : Inv b σ) (p0 : Int32) (p1 : Int32) : SpW o l mL_loose [(0, 10, 13, 19), (0, 10, 17, 13)] 9 3 18 [.ref (ad o 0), .int p0, .int p1, .ref (ad o 115)] 116 σ (pI (LRI (W_X12_loose p0 p1))) := by
  have hR := hI.1
  have h := op_loose hI p0 p1
  unfold OKI at h
  refine SpW.of (ls0 := [some (.ref (ad o 0)), some (.int p0), some (.int p1), some (.ref (ad o 115)), none]) mwL_loose rfl (Nat.le_of_ble_eq_true rfl) rfl (fun γ hγ X Y T => ?_)
  subst hγ
  have X : gX o γ cL_loose 5 RL := X
  refine g_aload_3 (pc := 0) X dL_loose_0 ?_
  refine g_iconst (pc := 1) X dL_loose_1 kiconst_0 ?_
  refine g_aload_0 (pc := 2) X dL_loose_2 ?_
  refine g_iload_1 (pc := 3) X dL_loose_3 ?_
  refine g_iload_2 (pc := 4) X dL_loose_4 ?_
  refine g_callVX_I (pc := 5) X Y dL_loose_5 miX11_loose li_L_48 (t_X11_loose hst hR h) rfl (by decide) rfl ⟨_, rfl⟩ rfl ⟨Nat.le_of_ble_eq_true rfl, Nat.le_of_ble_eq_true rfl⟩ ⟨Nat.le_of_ble_eq_true rfl, Nat.le_of_ble_eq_true rfl⟩ (by exact Nat.le_of_ble_eq_true rfl) rfl (fun E s hp => ?_) (fun v s hp => ?_)
  · obtain ⟨hR, k, hc, h⟩ := hp
    rcases hc with ⟨rfl, rfl⟩ | ⟨rfl, rfl⟩
    · refine g_catch (pc := 5) (name := nsE) X T [] ⟨0, 10, 13, 19⟩ [⟨0, 10, 17, 13⟩] rfl (fun z hz => absurd hz List.not_mem_nil) (by decide) (by decide) kl_L_19 (by simp [gXw]) (fun q => ?_)
      refine g_astore_4 (pc := 13) X dL_loose_13 (by decide) rfl ?_
      refine g_iconst (pc := 15) X dL_loose_15 kiconst_1 ?_
      exact g_ireturn (pc := 16) X Y dL_loose_16 (Nat.le_of_ble_eq_true rfl) (Nat.le_of_ble_eq_true rfl) ⟨_, rfl, LRI.no ⟨b, hR⟩ (by decide) h⟩
    · refine g_catch (pc := 5) (name := iaE) X T [⟨0, 10, 13, 19⟩] ⟨0, 10, 17, 13⟩ [] rfl (fun z hz => by
          rw [List.mem_singleton] at hz
          subst hz
          exact .inr ⟨by decide, nsE, kl_L_19, fun s h => h.2⟩) (by decide) (by decide) kl_L_13 (by simp [gXw]) (fun q => ?_)
      refine g_astore_4 (pc := 17) X dL_loose_17 (by decide) rfl ?_
      refine g_iconst (pc := 19) X dL_loose_19 kiconst_2 ?_
      exact g_ireturn (pc := 20) X Y dL_loose_20 (Nat.le_of_ble_eq_true rfl) (Nat.le_of_ble_eq_true rfl) ⟨_, rfl, LRI.no ⟨b, hR⟩ (by decide) h⟩
  · obtain ⟨hR, h⟩ := hp
    refine g_i2l (pc := 8) X dL_loose_8 ?_
    refine g_lastore_n (pc := 9) (a := 0) X dL_loose_9 rfl (by decide) rfl (by decide) ?_
    refine g_goto (pc := 10) X dL_loose_10 (tgt := 21) (by decide) ?_
    refine g_iconst (pc := 21) X dL_loose_21 kiconst_0 ?_
    exact g_ireturn (pc := 22) X Y dL_loose_22 (Nat.le_of_ble_eq_true rfl) (Nat.le_of_ble_eq_true rfl) ⟨_, rfl, LRI.ok ⟨b, hR⟩ (h _ rfl)⟩
theorem mwL_put : MIW mL_put [(0, 10, 13, 19), (0, 10, 17, 13)] := ⟨tb_6 6 rfl (by decide +kernel), by decide +kernel, ⟨by decide +kernel, by decide +kernel, by decide +kernel⟩, tb_1 0 rfl (by decide +kernel)⟩
theorem lL_put {o : gOm} {l : Launch} {b : Bool} {σ : gSt} (hst : l.stackTraces = false) (hI : Inv b σ) (p0 : Int32) (p1 : Int32) : SpW o l mL_put [(0, 10, 13, 19), (0, 10, 17, 13)] 9 3 18 [.ref (ad o 0), .int p0, .int p1, .ref (ad o 115)] 116 σ (pI (LRI (W_X12_put p0 p1))) := by
  have hR := hI.1
  have h := op_put hI p0 p1
  unfold OKI at h
  refine SpW.of (ls0 := [some (.ref (ad o 0)), some (.int p0), some (.int p1), some (.ref (ad o 115)), none]) mwL_put rfl (Nat.le_of_ble_eq_true rfl) rfl (fun γ hγ X Y T => ?_)
  subst hγ
  have X : gX o γ cL_put 5 RL := X
  refine g_aload_3 (pc := 0) X dL_put_0 ?_
  refine g_iconst (pc := 1) X dL_put_1 kiconst_0 ?_
  refine g_aload_0 (pc := 2) X dL_put_2 ?_
  refine g_iload_1 (pc := 3) X dL_put_3 ?_
  refine g_iload_2 (pc := 4) X dL_put_4 ?_
  refine g_callVX_I (pc := 5) X Y dL_put_5 miX11_put li_L_51 (t_X11_put hst hR h) rfl (by decide) rfl ⟨_, rfl⟩ rfl ⟨Nat.le_of_ble_eq_true rfl, Nat.le_of_ble_eq_true rfl⟩ ⟨Nat.le_of_ble_eq_true rfl, Nat.le_of_ble_eq_true rfl⟩ (by exact Nat.le_of_ble_eq_true rfl) rfl (fun E s hp => ?_) (fun v s hp => ?_)
  · obtain ⟨hR, k, hc, h⟩ := hp
    rcases hc with ⟨rfl, rfl⟩ | ⟨rfl, rfl⟩
    · refine g_catch (pc := 5) (name := nsE) X T [] ⟨0, 10, 13, 19⟩ [⟨0, 10, 17, 13⟩] rfl (fun z hz => absurd hz List.not_mem_nil) (by decide) (by decide) kl_L_19 (by simp [gXw]) (fun q => ?_)
      refine g_astore_4 (pc := 13) X dL_put_13 (by decide) rfl ?_
      refine g_iconst (pc := 15) X dL_put_15 kiconst_1 ?_
      exact g_ireturn (pc := 16) X Y dL_put_16 (Nat.le_of_ble_eq_true rfl) (Nat.le_of_ble_eq_true rfl) ⟨_, rfl, LRI.no ⟨b, hR⟩ (by decide) h⟩
    · refine g_catch (pc := 5) (name := iaE) X T [⟨0, 10, 13, 19⟩] ⟨0, 10, 17, 13⟩ [] rfl (fun z hz => by
          rw [List.mem_singleton] at hz
          subst hz
          exact .inr ⟨by decide, nsE, kl_L_19, fun s h => h.2⟩) (by decide) (by decide) kl_L_13 (by simp [gXw]) (fun q => ?_)
      refine g_astore_4 (pc := 17) X dL_put_17 (by decide) rfl ?_
      refine g_iconst (pc := 19) X dL_put_19 kiconst_2 ?_
      exact g_ireturn (pc := 20) X Y dL_put_20 (Nat.le_of_ble_eq_true rfl) (Nat.le_of_ble_eq_true rfl) ⟨_, rfl, LRI.no ⟨b, hR⟩ (by decide) h⟩
  · obtain ⟨hR, h⟩ := hp
    refine g_i2l (pc := 8) X dL_put_8 ?_
    refine g_lastore_n (pc := 9) (a := 0) X dL_put_9 rfl (by decide) rfl (by decide) ?_
    refine g_goto (pc := 10) X dL_put_10 (tgt := 21) (by decide) ?_
    refine g_iconst (pc := 21) X dL_put_21 kiconst_0 ?_
    exact g_ireturn (pc := 22) X Y dL_put_22 (Nat.le_of_ble_eq_true rfl) (Nat.le_of_ble_eq_true rfl) ⟨_, rfl, LRI.ok ⟨b, hR⟩ (h _ rfl)⟩
theorem mwL_alone : MIW mL_alone [(0, 16, 19, 19)] := ⟨tb_6 22 rfl (by decide +kernel), by decide +kernel, ⟨by decide +kernel, by decide +kernel, by decide +kernel⟩, tb_1 0 rfl (by decide +kernel)⟩
theorem lL_alone {o : gOm} {l : Launch} {b : Bool} {σ : gSt} (hst : l.stackTraces = false) (hI : Inv b σ) (p0 : Int32) : SpW o l mL_alone [(0, 16, 19, 19)] 8 1 6 [.ref (ad o 0), .int p0, .ref (ad o 115)] 116 σ (pI (LRZ (W_X12_alone p0))) := by
  have hR := hI.1
  have h := op_alone2 hI p0
  unfold OKZ2 at h
  refine SpW.of (ls0 := [some (.ref (ad o 0)), some (.int p0), some (.ref (ad o 115)), none]) mwL_alone rfl (Nat.le_of_ble_eq_true rfl) rfl (fun γ hγ X Y T => ?_)
  subst hγ
  have X : gX o γ cL_alone 4 RL := X
  refine g_aload_2 (pc := 0) X dL_alone_0 ?_
  refine g_iconst (pc := 1) X dL_alone_1 kiconst_0 ?_
  refine g_aload_0 (pc := 2) X dL_alone_2 ?_
  refine g_iload_1 (pc := 3) X dL_alone_3 ?_
  refine g_callVX_I (pc := 4) X Y dL_alone_4 miX11_alone li_L_54 (t_X11_alone hst hR h) rfl (by decide) rfl ⟨_, rfl⟩ rfl ⟨Nat.le_of_ble_eq_true rfl, Nat.le_of_ble_eq_true rfl⟩ ⟨Nat.le_of_ble_eq_true rfl, Nat.le_of_ble_eq_true rfl⟩ (by exact Nat.le_of_ble_eq_true rfl) rfl (fun E s hp => ?_) (fun v s hp => ?_)
  · obtain ⟨hR, k, hc, h⟩ := hp
    obtain ⟨rfl, rfl⟩ := hc
    refine g_catch (pc := 4) (name := nsE) X T [] ⟨0, 16, 19, 19⟩ [] rfl (fun z hz => absurd hz List.not_mem_nil) (by decide) (by decide) kl_L_19 (by simp [gXw]) (fun q => ?_)
    refine g_astore_3 (pc := 19) X dL_alone_19 (by decide) rfl ?_
    refine g_iconst (pc := 20) X dL_alone_20 kiconst_1 ?_
    exact g_ireturn (pc := 21) X Y dL_alone_21 (Nat.le_of_ble_eq_true rfl) (Nat.le_of_ble_eq_true rfl) ⟨_, rfl, LRZ.no ⟨b, hR⟩ (by decide) h⟩
  · obtain ⟨hR, h⟩ := hp
    obtain ⟨h01, h⟩ := h
    have fin : ∀ x : Int64, i2l v = x → G o γ (0 + 1) (0 + 6) 116 s 15 [some (.ref (ad o 0)), some (.int p0), some (.ref (ad o 115)), none] [.long x, .int (nI 0), .ref (ad o 115)] := fun x hx => by
      refine g_lastore_n (pc := 15) (a := 0) X dL_alone_15 rfl (by decide) rfl (by decide) ?_
      refine g_goto (pc := 16) X dL_alone_16 (tgt := 22) (by decide) ?_
      refine g_iconst (pc := 22) X dL_alone_22 kiconst_0 ?_
      exact g_ireturn (pc := 23) X Y dL_alone_23 (Nat.le_of_ble_eq_true rfl) (Nat.le_of_ble_eq_true rfl) ⟨_, rfl, LRZ.ok ⟨b, hR⟩ (h _ (by rw [hx]))⟩
    refine g_if_eq (pc := 7) X dL_alone_7 (tgt := 14) (by decide) (fun q => ?_) (fun q => ?_)
    · refine g_lconst (pc := 14) (v := lN 0) X dL_alone_14 rfl ?_
      exact fin _ (by rw [q]; decide)
    · refine g_lconst (pc := 10) (v := lN 1) X dL_alone_10 rfl ?_
      refine g_goto (pc := 11) X dL_alone_11 (tgt := 15) (by decide) ?_
      exact fin _ (by rcases h01 with e | e; exact absurd e q; rw [e]; decide)
theorem mwL_join : MIW mL_join [(0, 10, 13, 19)] := ⟨tb_6 42 rfl (by decide +kernel), by decide +kernel, ⟨by decide +kernel, by decide +kernel, by decide +kernel⟩, tb_1 0 rfl (by decide +kernel)⟩
theorem lL_join {o : gOm} {l : Launch} {b : Bool} {σ : gSt} (hst : l.stackTraces = false) (hI : Inv b σ) (p0 : Int32) (p1 : Int32) : SpW o l mL_join [(0, 10, 13, 19)] 8 2 12 [.ref (ad o 0), .int p0, .int p1, .ref (ad o 115)] 116 σ (pI (LRI (W_X12_join p0 p1))) := by
  have hR := hI.1
  have h := op_join hI p0 p1
  unfold OKI at h
  refine SpW.of (ls0 := [some (.ref (ad o 0)), some (.int p0), some (.int p1), some (.ref (ad o 115)), none]) mwL_join rfl (Nat.le_of_ble_eq_true rfl) rfl (fun γ hγ X Y T => ?_)
  subst hγ
  have X : gX o γ cL_join 5 RL := X
  refine g_aload_3 (pc := 0) X dL_join_0 ?_
  refine g_iconst (pc := 1) X dL_join_1 kiconst_0 ?_
  refine g_aload_0 (pc := 2) X dL_join_2 ?_
  refine g_iload_1 (pc := 3) X dL_join_3 ?_
  refine g_iload_2 (pc := 4) X dL_join_4 ?_
  refine g_callVX_I (pc := 5) X Y dL_join_5 miX11_join li_L_58 (t_X11_join hst hR h) rfl (by decide) rfl ⟨_, rfl⟩ rfl ⟨Nat.le_of_ble_eq_true rfl, Nat.le_of_ble_eq_true rfl⟩ ⟨Nat.le_of_ble_eq_true rfl, Nat.le_of_ble_eq_true rfl⟩ (by exact Nat.le_of_ble_eq_true rfl) rfl (fun E s hp => ?_) (fun v s hp => ?_)
  · obtain ⟨hR, k, hc, h⟩ := hp
    obtain ⟨rfl, rfl⟩ := hc
    refine g_catch (pc := 5) (name := nsE) X T [] ⟨0, 10, 13, 19⟩ [] rfl (fun z hz => absurd hz List.not_mem_nil) (by decide) (by decide) kl_L_19 (by simp [gXw]) (fun q => ?_)
    refine g_astore_4 (pc := 13) X dL_join_13 (by decide) rfl ?_
    refine g_iconst (pc := 15) X dL_join_15 kiconst_1 ?_
    exact g_ireturn (pc := 16) X Y dL_join_16 (Nat.le_of_ble_eq_true rfl) (Nat.le_of_ble_eq_true rfl) ⟨_, rfl, LRI.no ⟨b, hR⟩ (by decide) h⟩
  · obtain ⟨hR, h⟩ := hp
    refine g_i2l (pc := 8) X dL_join_8 ?_
    refine g_lastore_n (pc := 9) (a := 0) X dL_join_9 rfl (by decide) rfl (by decide) ?_
    refine g_goto (pc := 10) X dL_join_10 (tgt := 17) (by decide) ?_
    refine g_iconst (pc := 17) X dL_join_17 kiconst_0 ?_
    exact g_ireturn (pc := 18) X Y dL_join_18 (Nat.le_of_ble_eq_true rfl) (Nat.le_of_ble_eq_true rfl) ⟨_, rfl, LRI.ok ⟨b, hR⟩ (h _ rfl)⟩
theorem mwL_swap : MIW mL_swap [(0, 10, 13, 19)] := ⟨tb_6 53 rfl (by decide +kernel), by decide +kernel, ⟨by decide +kernel, by decide +kernel, by decide +kernel⟩, tb_1 0 rfl (by decide +kernel)⟩
theorem lL_swap {o : gOm} {l : Launch} {b : Bool} {σ : gSt} (hst : l.stackTraces = false) (hI : Inv b σ) (p0 : Int32) (p1 : Int32) : SpW o l mL_swap [(0, 10, 13, 19)] 8 2 12 [.ref (ad o 0), .int p0, .int p1, .ref (ad o 115)] 116 σ (pI (LRI (W_X12_swap p0 p1))) := by
  have hR := hI.1
  have h := op_swap hI p0 p1
  unfold OKI at h
  refine SpW.of (ls0 := [some (.ref (ad o 0)), some (.int p0), some (.int p1), some (.ref (ad o 115)), none]) mwL_swap rfl (Nat.le_of_ble_eq_true rfl) rfl (fun γ hγ X Y T => ?_)
  subst hγ
  have X : gX o γ cL_swap 5 RL := X
  refine g_aload_3 (pc := 0) X dL_swap_0 ?_
  refine g_iconst (pc := 1) X dL_swap_1 kiconst_0 ?_
  refine g_aload_0 (pc := 2) X dL_swap_2 ?_
  refine g_iload_1 (pc := 3) X dL_swap_3 ?_
  refine g_iload_2 (pc := 4) X dL_swap_4 ?_
  refine g_callVX_I (pc := 5) X Y dL_swap_5 miX11_swap li_L_61 (t_X11_swap hst hR h) rfl (by decide) rfl ⟨_, rfl⟩ rfl ⟨Nat.le_of_ble_eq_true rfl, Nat.le_of_ble_eq_true rfl⟩ ⟨Nat.le_of_ble_eq_true rfl, Nat.le_of_ble_eq_true rfl⟩ (by exact Nat.le_of_ble_eq_true rfl) rfl (fun E s hp => ?_) (fun v s hp => ?_)
  · obtain ⟨hR, k, hc, h⟩ := hp
    obtain ⟨rfl, rfl⟩ := hc
    refine g_catch (pc := 5) (name := nsE) X T [] ⟨0, 10, 13, 19⟩ [] rfl (fun z hz => absurd hz List.not_mem_nil) (by decide) (by decide) kl_L_19 (by simp [gXw]) (fun q => ?_)
    refine g_astore_4 (pc := 13) X dL_swap_13 (by decide) rfl ?_
    refine g_iconst (pc := 15) X dL_swap_15 kiconst_1 ?_
    exact g_ireturn (pc := 16) X Y dL_swap_16 (Nat.le_of_ble_eq_true rfl) (Nat.le_of_ble_eq_true rfl) ⟨_, rfl, LRI.no ⟨b, hR⟩ (by decide) h⟩
  · obtain ⟨hR, h⟩ := hp
    refine g_i2l (pc := 8) X dL_swap_8 ?_
    refine g_lastore_n (pc := 9) (a := 0) X dL_swap_9 rfl (by decide) rfl (by decide) ?_
    refine g_goto (pc := 10) X dL_swap_10 (tgt := 17) (by decide) ?_
    refine g_iconst (pc := 17) X dL_swap_17 kiconst_0 ?_
    exact g_ireturn (pc := 18) X Y dL_swap_18 (Nat.le_of_ble_eq_true rfl) (Nat.le_of_ble_eq_true rfl) ⟨_, rfl, LRI.ok ⟨b, hR⟩ (h _ rfl)⟩
theorem mwL_better : MIW mL_better [(0, 8, 11, 13)] := ⟨tb_6 64 rfl (by decide +kernel), by decide +kernel, ⟨by decide +kernel, by decide +kernel, by decide +kernel⟩, tb_1 0 rfl (by decide +kernel)⟩
theorem lL_better {o : gOm} {l : Launch} {b : Bool} {σ : gSt} (hst : l.stackTraces = false) (hI : Inv b σ) (p0 : Int32) : SpW o l mL_better [(0, 8, 11, 13)] 8 1 6 [.ref (ad o 0), .int p0, .ref (ad o 115)] 116 σ (pI (LRL (W_X12_better p0))) := by
  have hR := hI.1
  have h := op_better hI p0
  unfold OKL at h
  refine SpW.of (ls0 := [some (.ref (ad o 0)), some (.int p0), some (.ref (ad o 115)), none]) mwL_better rfl (Nat.le_of_ble_eq_true rfl) rfl (fun γ hγ X Y T => ?_)
  subst hγ
  have X : gX o γ cL_better 4 RL := X
  refine g_aload_2 (pc := 0) X dL_better_0 ?_
  refine g_iconst (pc := 1) X dL_better_1 kiconst_0 ?_
  refine g_aload_0 (pc := 2) X dL_better_2 ?_
  refine g_iload_1 (pc := 3) X dL_better_3 ?_
  refine g_callVX_L (pc := 4) X Y dL_better_4 miX11_better li_L_64 (t_X11_better hst hR h) rfl (by decide) rfl ⟨_, rfl⟩ rfl ⟨Nat.le_of_ble_eq_true rfl, Nat.le_of_ble_eq_true rfl⟩ ⟨Nat.le_of_ble_eq_true rfl, Nat.le_of_ble_eq_true rfl⟩ (by exact Nat.le_of_ble_eq_true rfl) rfl (fun E s hp => ?_) (fun v s hp => ?_)
  · obtain ⟨hR, k, hc, h⟩ := hp
    obtain ⟨rfl, rfl⟩ := hc
    refine g_catch (pc := 4) (name := iaE) X T [] ⟨0, 8, 11, 13⟩ [] rfl (fun z hz => absurd hz List.not_mem_nil) (by decide) (by decide) kl_L_13 (by simp [gXw]) (fun q => ?_)
    refine g_astore_3 (pc := 11) X dL_better_11 (by decide) rfl ?_
    refine g_iconst (pc := 12) X dL_better_12 kiconst_1 ?_
    exact g_ireturn (pc := 13) X Y dL_better_13 (Nat.le_of_ble_eq_true rfl) (Nat.le_of_ble_eq_true rfl) ⟨_, rfl, LRL.no ⟨b, hR⟩ (by decide) h⟩
  · obtain ⟨hR, h⟩ := hp
    refine g_lastore_n (pc := 7) (a := 0) X dL_better_7 rfl (by decide) rfl (by decide) ?_
    refine g_goto (pc := 8) X dL_better_8 (tgt := 14) (by decide) ?_
    refine g_iconst (pc := 14) X dL_better_14 kiconst_0 ?_
    exact g_ireturn (pc := 15) X Y dL_better_15 (Nat.le_of_ble_eq_true rfl) (Nat.le_of_ble_eq_true rfl) ⟨_, rfl, LRL.ok ⟨b, hR⟩ (h _ rfl)⟩
theorem mwL_grow : MIW mL_grow [(0, 9, 12, 13)] := ⟨tb_6 116 rfl (by decide +kernel), by decide +kernel, ⟨by decide +kernel, by decide +kernel, by decide +kernel⟩, tb_1 0 rfl (by decide +kernel)⟩
theorem lL_grow {o : gOm} {l : Launch} {b : Bool} {σ : gSt} (hst : l.stackTraces = false) (hI : Inv b σ) (p0 : Int32) : SpW o l mL_grow [(0, 9, 12, 13)] 8 1 6 [.ref (ad o 0), .int p0, .ref (ad o 115)] 116 σ (pI (LRI (W_X12_grow p0))) := by
  have hR := hI.1
  have h := op_grow hI p0
  unfold OKI at h
  refine SpW.of (ls0 := [some (.ref (ad o 0)), some (.int p0), some (.ref (ad o 115)), none]) mwL_grow rfl (Nat.le_of_ble_eq_true rfl) rfl (fun γ hγ X Y T => ?_)
  subst hγ
  have X : gX o γ cL_grow 4 RL := X
  refine g_aload_2 (pc := 0) X dL_grow_0 ?_
  refine g_iconst (pc := 1) X dL_grow_1 kiconst_0 ?_
  refine g_aload_0 (pc := 2) X dL_grow_2 ?_
  refine g_iload_1 (pc := 3) X dL_grow_3 ?_
  refine g_callVX_I (pc := 4) X Y dL_grow_4 miX11_grow li_L_68 (t_X11_grow hst hR h) rfl (by decide) rfl ⟨_, rfl⟩ rfl ⟨Nat.le_of_ble_eq_true rfl, Nat.le_of_ble_eq_true rfl⟩ ⟨Nat.le_of_ble_eq_true rfl, Nat.le_of_ble_eq_true rfl⟩ (by exact Nat.le_of_ble_eq_true rfl) rfl (fun E s hp => ?_) (fun v s hp => ?_)
  · obtain ⟨hR, k, hc, h⟩ := hp
    obtain ⟨rfl, rfl⟩ := hc
    refine g_catch (pc := 4) (name := iaE) X T [] ⟨0, 9, 12, 13⟩ [] rfl (fun z hz => absurd hz List.not_mem_nil) (by decide) (by decide) kl_L_13 (by simp [gXw]) (fun q => ?_)
    refine g_astore_3 (pc := 12) X dL_grow_12 (by decide) rfl ?_
    refine g_iconst (pc := 13) X dL_grow_13 kiconst_1 ?_
    exact g_ireturn (pc := 14) X Y dL_grow_14 (Nat.le_of_ble_eq_true rfl) (Nat.le_of_ble_eq_true rfl) ⟨_, rfl, LRI.no ⟨b, hR⟩ (by decide) h⟩
  · obtain ⟨hR, h⟩ := hp
    refine g_i2l (pc := 7) X dL_grow_7 ?_
    refine g_lastore_n (pc := 8) (a := 0) X dL_grow_8 rfl (by decide) rfl (by decide) ?_
    refine g_goto (pc := 9) X dL_grow_9 (tgt := 15) (by decide) ?_
    refine g_iconst (pc := 15) X dL_grow_15 kiconst_0 ?_
    exact g_ireturn (pc := 16) X Y dL_grow_16 (Nat.le_of_ble_eq_true rfl) (Nat.le_of_ble_eq_true rfl) ⟨_, rfl, LRI.ok ⟨b, hR⟩ (h _ rfl)⟩
theorem mwL_ring : MIW mL_ring [(0, 10, 13, 13)] := ⟨tb_6 131 rfl (by decide +kernel), by decide +kernel, ⟨by decide +kernel, by decide +kernel, by decide +kernel⟩, tb_1 0 rfl (by decide +kernel)⟩
theorem lL_ring {o : gOm} {l : Launch} {b : Bool} {σ : gSt} (hst : l.stackTraces = false) (hI : Inv b σ) (p0 : Int32) (p1 : Int32) : SpW o l mL_ring [(0, 10, 13, 13)] 8 1 6 [.ref (ad o 0), .int p0, .int p1, .ref (ad o 115)] 116 σ (pI (LRI (W_X12_ring p0 p1))) := by
  have hR := hI.1
  have h := op_ring hI p0 p1
  unfold OKI at h
  refine SpW.of (ls0 := [some (.ref (ad o 0)), some (.int p0), some (.int p1), some (.ref (ad o 115)), none]) mwL_ring rfl (Nat.le_of_ble_eq_true rfl) rfl (fun γ hγ X Y T => ?_)
  subst hγ
  have X : gX o γ cL_ring 5 RL := X
  refine g_aload_3 (pc := 0) X dL_ring_0 ?_
  refine g_iconst (pc := 1) X dL_ring_1 kiconst_0 ?_
  refine g_aload_0 (pc := 2) X dL_ring_2 ?_
  refine g_iload_1 (pc := 3) X dL_ring_3 ?_
  refine g_iload_2 (pc := 4) X dL_ring_4 ?_
  refine g_callVX_I (pc := 5) X Y dL_ring_5 miX11_ring li_L_71 (t_X11_ring hst hR h) rfl (by decide) rfl ⟨_, rfl⟩ rfl ⟨Nat.le_of_ble_eq_true rfl, Nat.le_of_ble_eq_true rfl⟩ ⟨Nat.le_of_ble_eq_true rfl, Nat.le_of_ble_eq_true rfl⟩ (by exact Nat.le_of_ble_eq_true rfl) rfl (fun E s hp => ?_) (fun v s hp => ?_)
  · obtain ⟨hR, k, hc, h⟩ := hp
    obtain ⟨rfl, rfl⟩ := hc
    refine g_catch (pc := 5) (name := iaE) X T [] ⟨0, 10, 13, 13⟩ [] rfl (fun z hz => absurd hz List.not_mem_nil) (by decide) (by decide) kl_L_13 (by simp [gXw]) (fun q => ?_)
    refine g_astore_4 (pc := 13) X dL_ring_13 (by decide) rfl ?_
    refine g_iconst (pc := 15) X dL_ring_15 kiconst_1 ?_
    exact g_ireturn (pc := 16) X Y dL_ring_16 (Nat.le_of_ble_eq_true rfl) (Nat.le_of_ble_eq_true rfl) ⟨_, rfl, LRI.no ⟨b, hR⟩ (by decide) h⟩
  · obtain ⟨hR, h⟩ := hp
    refine g_i2l (pc := 8) X dL_ring_8 ?_
    refine g_lastore_n (pc := 9) (a := 0) X dL_ring_9 rfl (by decide) rfl (by decide) ?_
    refine g_goto (pc := 10) X dL_ring_10 (tgt := 17) (by decide) ?_
    refine g_iconst (pc := 17) X dL_ring_17 kiconst_0 ?_
    exact g_ireturn (pc := 18) X Y dL_ring_18 (Nat.le_of_ble_eq_true rfl) (Nat.le_of_ble_eq_true rfl) ⟨_, rfl, LRI.ok ⟨b, hR⟩ (h _ rfl)⟩
theorem mwL_told : MIW mL_told [(0, 13, 16, 19), (0, 13, 20, 13)] := ⟨tb_6 142 rfl (by decide +kernel), by decide +kernel, ⟨by decide +kernel, by decide +kernel, by decide +kernel⟩, tb_1 0 rfl (by decide +kernel)⟩
theorem lL_told {o : gOm} {l : Launch} {b : Bool} {σ : gSt} (hst : l.stackTraces = false) (hI : Inv b σ) (p0 : Int32) (p1 : Int32) (p2 : Int32) (p3 : Int32) : SpW o l mL_told [(0, 13, 16, 19), (0, 13, 20, 13)] 8 5 30 [.ref (ad o 0), .int p0, .int p1, .int p2, .int p3, .ref (ad o 115)] 116 σ (pI (LRL (W_X12_told p0 p1 p2 p3))) := by
  have hR := hI.1
  have h := op_told hI p0 p1 p2 p3
  unfold OKL at h
  refine SpW.of (ls0 := [some (.ref (ad o 0)), some (.int p0), some (.int p1), some (.int p2), some (.int p3), some (.ref (ad o 115)), none]) mwL_told rfl (Nat.le_of_ble_eq_true rfl) rfl (fun γ hγ X Y T => ?_)
  subst hγ
  have X : gX o γ cL_told 7 RL := X
  refine g_aload_5 (pc := 0) X dL_told_0 ?_
  refine g_iconst (pc := 2) X dL_told_2 kiconst_0 ?_
  refine g_aload_0 (pc := 3) X dL_told_3 ?_
  refine g_iload_1 (pc := 4) X dL_told_4 ?_
  refine g_iload_2 (pc := 5) X dL_told_5 ?_
  refine g_iload_3 (pc := 6) X dL_told_6 ?_
  refine g_iload_4 (pc := 7) X dL_told_7 ?_
  refine g_callVX_L (pc := 9) X Y dL_told_9 miX11_told li_L_74 (t_X11_told hst hR h) rfl (by decide) rfl ⟨_, rfl⟩ rfl ⟨Nat.le_of_ble_eq_true rfl, Nat.le_of_ble_eq_true rfl⟩ ⟨Nat.le_of_ble_eq_true rfl, Nat.le_of_ble_eq_true rfl⟩ (by exact Nat.le_of_ble_eq_true rfl) rfl (fun E s hp => ?_) (fun v s hp => ?_)
  · obtain ⟨hR, k, hc, h⟩ := hp
    rcases hc with ⟨rfl, rfl⟩ | ⟨rfl, rfl⟩
    · refine g_catch (pc := 9) (name := nsE) X T [] ⟨0, 13, 16, 19⟩ [⟨0, 13, 20, 13⟩] rfl (fun z hz => absurd hz List.not_mem_nil) (by decide) (by decide) kl_L_19 (by simp [gXw]) (fun q => ?_)
      refine g_astore_6 (pc := 16) X dL_told_16 (by decide) rfl ?_
      refine g_iconst (pc := 18) X dL_told_18 kiconst_1 ?_
      exact g_ireturn (pc := 19) X Y dL_told_19 (Nat.le_of_ble_eq_true rfl) (Nat.le_of_ble_eq_true rfl) ⟨_, rfl, LRL.no ⟨b, hR⟩ (by decide) h⟩
    · refine g_catch (pc := 9) (name := iaE) X T [⟨0, 13, 16, 19⟩] ⟨0, 13, 20, 13⟩ [] rfl (fun z hz => by
          rw [List.mem_singleton] at hz
          subst hz
          exact .inr ⟨by decide, nsE, kl_L_19, fun s h => h.2⟩) (by decide) (by decide) kl_L_13 (by simp [gXw]) (fun q => ?_)
      refine g_astore_6 (pc := 20) X dL_told_20 (by decide) rfl ?_
      refine g_iconst (pc := 22) X dL_told_22 kiconst_2 ?_
      exact g_ireturn (pc := 23) X Y dL_told_23 (Nat.le_of_ble_eq_true rfl) (Nat.le_of_ble_eq_true rfl) ⟨_, rfl, LRL.no ⟨b, hR⟩ (by decide) h⟩
  · obtain ⟨hR, h⟩ := hp
    refine g_lastore_n (pc := 12) (a := 0) X dL_told_12 rfl (by decide) rfl (by decide) ?_
    refine g_goto (pc := 13) X dL_told_13 (tgt := 24) (by decide) ?_
    refine g_iconst (pc := 24) X dL_told_24 kiconst_0 ?_
    exact g_ireturn (pc := 25) X Y dL_told_25 (Nat.le_of_ble_eq_true rfl) (Nat.le_of_ble_eq_true rfl) ⟨_, rfl, LRL.ok ⟨b, hR⟩ (h _ rfl)⟩
theorem mwL_best : MIW mL_best [(0, 8, 11, 19)] := ⟨tb_6 160 rfl (by decide +kernel), by decide +kernel, ⟨by decide +kernel, by decide +kernel, by decide +kernel⟩, tb_1 0 rfl (by decide +kernel)⟩
theorem lL_best {o : gOm} {l : Launch} {b : Bool} {σ : gSt} (hst : l.stackTraces = false) (hI : Inv b σ) (p0 : Int32) : SpW o l mL_best [(0, 8, 11, 19)] 30 1 6 [.ref (ad o 0), .int p0, .ref (ad o 115)] 116 σ (pI (LRL (W_X12_best p0))) := by
  have hR := hI.1
  have h := op_best hI p0
  unfold OKL at h
  refine SpW.of (ls0 := [some (.ref (ad o 0)), some (.int p0), some (.ref (ad o 115)), none]) mwL_best rfl (Nat.le_of_ble_eq_true rfl) rfl (fun γ hγ X Y T => ?_)
  subst hγ
  have X : gX o γ cL_best 4 RL := X
  refine g_aload_2 (pc := 0) X dL_best_0 ?_
  refine g_iconst (pc := 1) X dL_best_1 kiconst_0 ?_
  refine g_aload_0 (pc := 2) X dL_best_2 ?_
  refine g_iload_1 (pc := 3) X dL_best_3 ?_
  refine g_callVX_L (pc := 4) X Y dL_best_4 miX11_best li_L_78 (t_X11_best hst hR h) rfl (by decide) rfl ⟨_, rfl⟩ rfl ⟨Nat.le_of_ble_eq_true rfl, Nat.le_of_ble_eq_true rfl⟩ ⟨Nat.le_of_ble_eq_true rfl, Nat.le_of_ble_eq_true rfl⟩ (by exact Nat.le_of_ble_eq_true rfl) rfl (fun E s hp => ?_) (fun v s hp => ?_)
  · obtain ⟨hR, k, hc, h⟩ := hp
    obtain ⟨rfl, rfl⟩ := hc
    refine g_catch (pc := 4) (name := nsE) X T [] ⟨0, 8, 11, 19⟩ [] rfl (fun z hz => absurd hz List.not_mem_nil) (by decide) (by decide) kl_L_19 (by simp [gXw]) (fun q => ?_)
    refine g_astore_3 (pc := 11) X dL_best_11 (by decide) rfl ?_
    refine g_iconst (pc := 12) X dL_best_12 kiconst_1 ?_
    exact g_ireturn (pc := 13) X Y dL_best_13 (Nat.le_of_ble_eq_true rfl) (Nat.le_of_ble_eq_true rfl) ⟨_, rfl, LRL.no ⟨b, hR⟩ (by decide) h⟩
  · obtain ⟨hR, h⟩ := hp
    refine g_lastore_n (pc := 7) (a := 0) X dL_best_7 rfl (by decide) rfl (by decide) ?_
    refine g_goto (pc := 8) X dL_best_8 (tgt := 14) (by decide) ?_
    refine g_iconst (pc := 14) X dL_best_14 kiconst_0 ?_
    exact g_ireturn (pc := 15) X Y dL_best_15 (Nat.le_of_ble_eq_true rfl) (Nat.le_of_ble_eq_true rfl) ⟨_, rfl, LRL.ok ⟨b, hR⟩ (h _ rfl)⟩
theorem mwL_many : MIW mL_many [(0, 9, 12, 19)] := ⟨tb_6 167 rfl (by decide +kernel), by decide +kernel, ⟨by decide +kernel, by decide +kernel, by decide +kernel⟩, tb_1 0 rfl (by decide +kernel)⟩
theorem lL_many {o : gOm} {l : Launch} {b : Bool} {σ : gSt} (hst : l.stackTraces = false) (hI : Inv b σ) (p0 : Int32) : SpW o l mL_many [(0, 9, 12, 19)] 31 1 6 [.ref (ad o 0), .int p0, .ref (ad o 115)] 116 σ (pI (LRI (W_X12_many p0))) := by
  have hR := hI.1
  have h := op_many hI p0
  unfold OKI at h
  refine SpW.of (ls0 := [some (.ref (ad o 0)), some (.int p0), some (.ref (ad o 115)), none]) mwL_many rfl (Nat.le_of_ble_eq_true rfl) rfl (fun γ hγ X Y T => ?_)
  subst hγ
  have X : gX o γ cL_many 4 RL := X
  refine g_aload_2 (pc := 0) X dL_many_0 ?_
  refine g_iconst (pc := 1) X dL_many_1 kiconst_0 ?_
  refine g_aload_0 (pc := 2) X dL_many_2 ?_
  refine g_iload_1 (pc := 3) X dL_many_3 ?_
  refine g_callVX_I (pc := 4) X Y dL_many_4 miX11_many li_L_81 (t_X11_many hst hR h) rfl (by decide) rfl ⟨_, rfl⟩ rfl ⟨Nat.le_of_ble_eq_true rfl, Nat.le_of_ble_eq_true rfl⟩ ⟨Nat.le_of_ble_eq_true rfl, Nat.le_of_ble_eq_true rfl⟩ (by exact Nat.le_of_ble_eq_true rfl) rfl (fun E s hp => ?_) (fun v s hp => ?_)
  · obtain ⟨hR, k, hc, h⟩ := hp
    obtain ⟨rfl, rfl⟩ := hc
    refine g_catch (pc := 4) (name := nsE) X T [] ⟨0, 9, 12, 19⟩ [] rfl (fun z hz => absurd hz List.not_mem_nil) (by decide) (by decide) kl_L_19 (by simp [gXw]) (fun q => ?_)
    refine g_astore_3 (pc := 12) X dL_many_12 (by decide) rfl ?_
    refine g_iconst (pc := 13) X dL_many_13 kiconst_1 ?_
    exact g_ireturn (pc := 14) X Y dL_many_14 (Nat.le_of_ble_eq_true rfl) (Nat.le_of_ble_eq_true rfl) ⟨_, rfl, LRI.no ⟨b, hR⟩ (by decide) h⟩
  · obtain ⟨hR, h⟩ := hp
    refine g_i2l (pc := 7) X dL_many_7 ?_
    refine g_lastore_n (pc := 8) (a := 0) X dL_many_8 rfl (by decide) rfl (by decide) ?_
    refine g_goto (pc := 9) X dL_many_9 (tgt := 15) (by decide) ?_
    refine g_iconst (pc := 15) X dL_many_15 kiconst_0 ?_
    exact g_ireturn (pc := 16) X Y dL_many_16 (Nat.le_of_ble_eq_true rfl) (Nat.le_of_ble_eq_true rfl) ⟨_, rfl, LRI.ok ⟨b, hR⟩ (h _ rfl)⟩
theorem mwL_first : MIW mL_first [(0, 9, 12, 19)] := ⟨tb_6 178 rfl (by decide +kernel), by decide +kernel, ⟨by decide +kernel, by decide +kernel, by decide +kernel⟩, tb_1 0 rfl (by decide +kernel)⟩
theorem lL_first {o : gOm} {l : Launch} {b : Bool} {σ : gSt} (hst : l.stackTraces = false) (hI : Inv b σ) (p0 : Int32) : SpW o l mL_first [(0, 9, 12, 19)] 31 1 6 [.ref (ad o 0), .int p0, .ref (ad o 115)] 116 σ (pI (LRI (W_X12_first p0))) := by
  have hR := hI.1
  have h := op_first hI p0
  unfold OKI at h
  refine SpW.of (ls0 := [some (.ref (ad o 0)), some (.int p0), some (.ref (ad o 115)), none]) mwL_first rfl (Nat.le_of_ble_eq_true rfl) rfl (fun γ hγ X Y T => ?_)
  subst hγ
  have X : gX o γ cL_first 4 RL := X
  refine g_aload_2 (pc := 0) X dL_first_0 ?_
  refine g_iconst (pc := 1) X dL_first_1 kiconst_0 ?_
  refine g_aload_0 (pc := 2) X dL_first_2 ?_
  refine g_iload_1 (pc := 3) X dL_first_3 ?_
  refine g_callVX_I (pc := 4) X Y dL_first_4 miX11_first li_L_84 (t_X11_first hst hR h) rfl (by decide) rfl ⟨_, rfl⟩ rfl ⟨Nat.le_of_ble_eq_true rfl, Nat.le_of_ble_eq_true rfl⟩ ⟨Nat.le_of_ble_eq_true rfl, Nat.le_of_ble_eq_true rfl⟩ (by exact Nat.le_of_ble_eq_true rfl) rfl (fun E s hp => ?_) (fun v s hp => ?_)
  · obtain ⟨hR, k, hc, h⟩ := hp
    obtain ⟨rfl, rfl⟩ := hc
    refine g_catch (pc := 4) (name := nsE) X T [] ⟨0, 9, 12, 19⟩ [] rfl (fun z hz => absurd hz List.not_mem_nil) (by decide) (by decide) kl_L_19 (by simp [gXw]) (fun q => ?_)
    refine g_astore_3 (pc := 12) X dL_first_12 (by decide) rfl ?_
    refine g_iconst (pc := 13) X dL_first_13 kiconst_1 ?_
    exact g_ireturn (pc := 14) X Y dL_first_14 (Nat.le_of_ble_eq_true rfl) (Nat.le_of_ble_eq_true rfl) ⟨_, rfl, LRI.no ⟨b, hR⟩ (by decide) h⟩
  · obtain ⟨hR, h⟩ := hp
    refine g_i2l (pc := 7) X dL_first_7 ?_
    refine g_lastore_n (pc := 8) (a := 0) X dL_first_8 rfl (by decide) rfl (by decide) ?_
    refine g_goto (pc := 9) X dL_first_9 (tgt := 15) (by decide) ?_
    refine g_iconst (pc := 15) X dL_first_15 kiconst_0 ?_
    exact g_ireturn (pc := 16) X Y dL_first_16 (Nat.le_of_ble_eq_true rfl) (Nat.le_of_ble_eq_true rfl) ⟨_, rfl, LRI.ok ⟨b, hR⟩ (h _ rfl)⟩
theorem mwL_always : MIW mL_always [(0, 10, 13, 19), (0, 10, 17, 13)] := ⟨tb_6 193 rfl (by decide +kernel), by decide +kernel, ⟨by decide +kernel, by decide +kernel, by decide +kernel⟩, tb_1 0 rfl (by decide +kernel)⟩
theorem lL_always {o : gOm} {l : Launch} {b : Bool} {σ : gSt} (hst : l.stackTraces = false) (hI : Inv b σ) (p0 : Int32) (p1 : Int32) : SpW o l mL_always [(0, 10, 13, 19), (0, 10, 17, 13)] 31 3 18 [.ref (ad o 0), .int p0, .int p1, .ref (ad o 115)] 116 σ (pI (LRI (W_X12_always p0 p1))) := by
  have hR := hI.1
  have h := op_always hI p0 p1
  unfold OKI at h
  refine SpW.of (ls0 := [some (.ref (ad o 0)), some (.int p0), some (.int p1), some (.ref (ad o 115)), none]) mwL_always rfl (Nat.le_of_ble_eq_true rfl) rfl (fun γ hγ X Y T => ?_)
  subst hγ
  have X : gX o γ cL_always 5 RL := X
  refine g_aload_3 (pc := 0) X dL_always_0 ?_
  refine g_iconst (pc := 1) X dL_always_1 kiconst_0 ?_
  refine g_aload_0 (pc := 2) X dL_always_2 ?_
  refine g_iload_1 (pc := 3) X dL_always_3 ?_
  refine g_iload_2 (pc := 4) X dL_always_4 ?_
  refine g_callVX_I (pc := 5) X Y dL_always_5 miX11_always li_L_87 (t_X11_always hst hR h) rfl (by decide) rfl ⟨_, rfl⟩ rfl ⟨Nat.le_of_ble_eq_true rfl, Nat.le_of_ble_eq_true rfl⟩ ⟨Nat.le_of_ble_eq_true rfl, Nat.le_of_ble_eq_true rfl⟩ (by exact Nat.le_of_ble_eq_true rfl) rfl (fun E s hp => ?_) (fun v s hp => ?_)
  · obtain ⟨hR, k, hc, h⟩ := hp
    rcases hc with ⟨rfl, rfl⟩ | ⟨rfl, rfl⟩
    · refine g_catch (pc := 5) (name := nsE) X T [] ⟨0, 10, 13, 19⟩ [⟨0, 10, 17, 13⟩] rfl (fun z hz => absurd hz List.not_mem_nil) (by decide) (by decide) kl_L_19 (by simp [gXw]) (fun q => ?_)
      refine g_astore_4 (pc := 13) X dL_always_13 (by decide) rfl ?_
      refine g_iconst (pc := 15) X dL_always_15 kiconst_1 ?_
      exact g_ireturn (pc := 16) X Y dL_always_16 (Nat.le_of_ble_eq_true rfl) (Nat.le_of_ble_eq_true rfl) ⟨_, rfl, LRI.no ⟨b, hR⟩ (by decide) h⟩
    · refine g_catch (pc := 5) (name := iaE) X T [⟨0, 10, 13, 19⟩] ⟨0, 10, 17, 13⟩ [] rfl (fun z hz => by
          rw [List.mem_singleton] at hz
          subst hz
          exact .inr ⟨by decide, nsE, kl_L_19, fun s h => h.2⟩) (by decide) (by decide) kl_L_13 (by simp [gXw]) (fun q => ?_)
      refine g_astore_4 (pc := 17) X dL_always_17 (by decide) rfl ?_
      refine g_iconst (pc := 19) X dL_always_19 kiconst_2 ?_
      exact g_ireturn (pc := 20) X Y dL_always_20 (Nat.le_of_ble_eq_true rfl) (Nat.le_of_ble_eq_true rfl) ⟨_, rfl, LRI.no ⟨b, hR⟩ (by decide) h⟩
  · obtain ⟨hR, h⟩ := hp
    refine g_i2l (pc := 8) X dL_always_8 ?_
    refine g_lastore_n (pc := 9) (a := 0) X dL_always_9 rfl (by decide) rfl (by decide) ?_
    refine g_goto (pc := 10) X dL_always_10 (tgt := 21) (by decide) ?_
    refine g_iconst (pc := 21) X dL_always_21 kiconst_0 ?_
    exact g_ireturn (pc := 22) X Y dL_always_22 (Nat.le_of_ble_eq_true rfl) (Nat.le_of_ble_eq_true rfl) ⟨_, rfl, LRI.ok ⟨b, hR⟩ (h _ rfl)⟩
theorem mwL_edge : MIW mL_edge [(0, 9, 12, 19), (0, 9, 16, 13)] := ⟨tb_6 208 rfl (by decide +kernel), by decide +kernel, ⟨by decide +kernel, by decide +kernel, by decide +kernel⟩, tb_1 0 rfl (by decide +kernel)⟩
theorem lL_edge {o : gOm} {l : Launch} {b : Bool} {σ : gSt} (hst : l.stackTraces = false) (hI : Inv b σ) (p0 : Int32) (p1 : Int32) : SpW o l mL_edge [(0, 9, 12, 19), (0, 9, 16, 13)] 30 3 18 [.ref (ad o 0), .int p0, .int p1, .ref (ad o 115)] 116 σ (pI (LRL (W_X12_edge p0 p1))) := by
  have hR := hI.1
  have h := op_edge hI p0 p1
  unfold OKL at h
  refine SpW.of (ls0 := [some (.ref (ad o 0)), some (.int p0), some (.int p1), some (.ref (ad o 115)), none]) mwL_edge rfl (Nat.le_of_ble_eq_true rfl) rfl (fun γ hγ X Y T => ?_)
  subst hγ
  have X : gX o γ cL_edge 5 RL := X
  refine g_aload_3 (pc := 0) X dL_edge_0 ?_
  refine g_iconst (pc := 1) X dL_edge_1 kiconst_0 ?_
  refine g_aload_0 (pc := 2) X dL_edge_2 ?_
  refine g_iload_1 (pc := 3) X dL_edge_3 ?_
  refine g_iload_2 (pc := 4) X dL_edge_4 ?_
  refine g_callVX_L (pc := 5) X Y dL_edge_5 miX11_edge li_L_90 (t_X11_edge hst hR h) rfl (by decide) rfl ⟨_, rfl⟩ rfl ⟨Nat.le_of_ble_eq_true rfl, Nat.le_of_ble_eq_true rfl⟩ ⟨Nat.le_of_ble_eq_true rfl, Nat.le_of_ble_eq_true rfl⟩ (by exact Nat.le_of_ble_eq_true rfl) rfl (fun E s hp => ?_) (fun v s hp => ?_)
  · obtain ⟨hR, k, hc, h⟩ := hp
    rcases hc with ⟨rfl, rfl⟩ | ⟨rfl, rfl⟩
    · refine g_catch (pc := 5) (name := nsE) X T [] ⟨0, 9, 12, 19⟩ [⟨0, 9, 16, 13⟩] rfl (fun z hz => absurd hz List.not_mem_nil) (by decide) (by decide) kl_L_19 (by simp [gXw]) (fun q => ?_)
      refine g_astore_4 (pc := 12) X dL_edge_12 (by decide) rfl ?_
      refine g_iconst (pc := 14) X dL_edge_14 kiconst_1 ?_
      exact g_ireturn (pc := 15) X Y dL_edge_15 (Nat.le_of_ble_eq_true rfl) (Nat.le_of_ble_eq_true rfl) ⟨_, rfl, LRL.no ⟨b, hR⟩ (by decide) h⟩
    · refine g_catch (pc := 5) (name := iaE) X T [⟨0, 9, 12, 19⟩] ⟨0, 9, 16, 13⟩ [] rfl (fun z hz => by
          rw [List.mem_singleton] at hz
          subst hz
          exact .inr ⟨by decide, nsE, kl_L_19, fun s h => h.2⟩) (by decide) (by decide) kl_L_13 (by simp [gXw]) (fun q => ?_)
      refine g_astore_4 (pc := 16) X dL_edge_16 (by decide) rfl ?_
      refine g_iconst (pc := 18) X dL_edge_18 kiconst_2 ?_
      exact g_ireturn (pc := 19) X Y dL_edge_19 (Nat.le_of_ble_eq_true rfl) (Nat.le_of_ble_eq_true rfl) ⟨_, rfl, LRL.no ⟨b, hR⟩ (by decide) h⟩
  · obtain ⟨hR, h⟩ := hp
    refine g_lastore_n (pc := 8) (a := 0) X dL_edge_8 rfl (by decide) rfl (by decide) ?_
    refine g_goto (pc := 9) X dL_edge_9 (tgt := 20) (by decide) ?_
    refine g_iconst (pc := 20) X dL_edge_20 kiconst_0 ?_
    exact g_ireturn (pc := 21) X Y dL_edge_21 (Nat.le_of_ble_eq_true rfl) (Nat.le_of_ble_eq_true rfl) ⟨_, rfl, LRL.ok ⟨b, hR⟩ (h _ rfl)⟩
theorem mwL_holds : MIW mL_holds [(0, 12, 15, 19), (0, 12, 19, 13)] := ⟨tb_6 224 rfl (by decide +kernel), by decide +kernel, ⟨by decide +kernel, by decide +kernel, by decide +kernel⟩, tb_1 0 rfl (by decide +kernel)⟩
theorem lL_holds {o : gOm} {l : Launch} {b : Bool} {σ : gSt} (hst : l.stackTraces = false) (hI : Inv b σ) (p0 : Int32) (p1 : Int32) (p2 : Int32) : SpW o l mL_holds [(0, 12, 15, 19), (0, 12, 19, 13)] 30 4 24 [.ref (ad o 0), .int p0, .int p1, .int p2, .ref (ad o 115)] 116 σ (pI (LRI (W_X12_holds p0 p1 p2))) := by
  have hR := hI.1
  have h := op_holds hI p0 p1 p2
  unfold OKI at h
  refine SpW.of (ls0 := [some (.ref (ad o 0)), some (.int p0), some (.int p1), some (.int p2), some (.ref (ad o 115)), none]) mwL_holds rfl (Nat.le_of_ble_eq_true rfl) rfl (fun γ hγ X Y T => ?_)
  subst hγ
  have X : gX o γ cL_holds 6 RL := X
  refine g_aload_4 (pc := 0) X dL_holds_0 ?_
  refine g_iconst (pc := 2) X dL_holds_2 kiconst_0 ?_
  refine g_aload_0 (pc := 3) X dL_holds_3 ?_
  refine g_iload_1 (pc := 4) X dL_holds_4 ?_
  refine g_iload_2 (pc := 5) X dL_holds_5 ?_
  refine g_iload_3 (pc := 6) X dL_holds_6 ?_
  refine g_callVX_I (pc := 7) X Y dL_holds_7 miX11_holds li_L_94 (t_X11_holds hst hR h) rfl (by decide) rfl ⟨_, rfl⟩ rfl ⟨Nat.le_of_ble_eq_true rfl, Nat.le_of_ble_eq_true rfl⟩ ⟨Nat.le_of_ble_eq_true rfl, Nat.le_of_ble_eq_true rfl⟩ (by exact Nat.le_of_ble_eq_true rfl) rfl (fun E s hp => ?_) (fun v s hp => ?_)
  · obtain ⟨hR, k, hc, h⟩ := hp
    rcases hc with ⟨rfl, rfl⟩ | ⟨rfl, rfl⟩
    · refine g_catch (pc := 7) (name := nsE) X T [] ⟨0, 12, 15, 19⟩ [⟨0, 12, 19, 13⟩] rfl (fun z hz => absurd hz List.not_mem_nil) (by decide) (by decide) kl_L_19 (by simp [gXw]) (fun q => ?_)
      refine g_astore_5 (pc := 15) X dL_holds_15 (by decide) rfl ?_
      refine g_iconst (pc := 17) X dL_holds_17 kiconst_1 ?_
      exact g_ireturn (pc := 18) X Y dL_holds_18 (Nat.le_of_ble_eq_true rfl) (Nat.le_of_ble_eq_true rfl) ⟨_, rfl, LRI.no ⟨b, hR⟩ (by decide) h⟩
    · refine g_catch (pc := 7) (name := iaE) X T [⟨0, 12, 15, 19⟩] ⟨0, 12, 19, 13⟩ [] rfl (fun z hz => by
          rw [List.mem_singleton] at hz
          subst hz
          exact .inr ⟨by decide, nsE, kl_L_19, fun s h => h.2⟩) (by decide) (by decide) kl_L_13 (by simp [gXw]) (fun q => ?_)
      refine g_astore_5 (pc := 19) X dL_holds_19 (by decide) rfl ?_
      refine g_iconst (pc := 21) X dL_holds_21 kiconst_2 ?_
      exact g_ireturn (pc := 22) X Y dL_holds_22 (Nat.le_of_ble_eq_true rfl) (Nat.le_of_ble_eq_true rfl) ⟨_, rfl, LRI.no ⟨b, hR⟩ (by decide) h⟩
  · obtain ⟨hR, h⟩ := hp
    refine g_i2l (pc := 10) X dL_holds_10 ?_
    refine g_lastore_n (pc := 11) (a := 0) X dL_holds_11 rfl (by decide) rfl (by decide) ?_
    refine g_goto (pc := 12) X dL_holds_12 (tgt := 23) (by decide) ?_
    refine g_iconst (pc := 23) X dL_holds_23 kiconst_0 ?_
    exact g_ireturn (pc := 24) X Y dL_holds_24 (Nat.le_of_ble_eq_true rfl) (Nat.le_of_ble_eq_true rfl) ⟨_, rfl, LRI.ok ⟨b, hR⟩ (h _ rfl)⟩
theorem mwL_asked : MIW mL_asked [(0, 9, 12, 19)] := ⟨tb_6 239 rfl (by decide +kernel), by decide +kernel, ⟨by decide +kernel, by decide +kernel, by decide +kernel⟩, tb_1 0 rfl (by decide +kernel)⟩
theorem lL_asked {o : gOm} {l : Launch} {b : Bool} {σ : gSt} (hst : l.stackTraces = false) (hI : Inv b σ) (p0 : Int32) : SpW o l mL_asked [(0, 9, 12, 19)] 31 1 6 [.ref (ad o 0), .int p0, .ref (ad o 115)] 116 σ (pI (LRI (W_X12_asked_ p0))) := by
  have hR := hI.1
  have h := op_asked hI p0
  unfold OKI at h
  refine SpW.of (ls0 := [some (.ref (ad o 0)), some (.int p0), some (.ref (ad o 115)), none]) mwL_asked rfl (Nat.le_of_ble_eq_true rfl) rfl (fun γ hγ X Y T => ?_)
  subst hγ
  have X : gX o γ cL_asked 4 RL := X
  refine g_aload_2 (pc := 0) X dL_asked_0 ?_
  refine g_iconst (pc := 1) X dL_asked_1 kiconst_0 ?_
  refine g_aload_0 (pc := 2) X dL_asked_2 ?_
  refine g_iload_1 (pc := 3) X dL_asked_3 ?_
  refine g_callVX_I (pc := 4) X Y dL_asked_4 miX11_asked li_L_97 (t_X11_asked hst hR h) rfl (by decide) rfl ⟨_, rfl⟩ rfl ⟨Nat.le_of_ble_eq_true rfl, Nat.le_of_ble_eq_true rfl⟩ ⟨Nat.le_of_ble_eq_true rfl, Nat.le_of_ble_eq_true rfl⟩ (by exact Nat.le_of_ble_eq_true rfl) rfl (fun E s hp => ?_) (fun v s hp => ?_)
  · obtain ⟨hR, k, hc, h⟩ := hp
    obtain ⟨rfl, rfl⟩ := hc
    refine g_catch (pc := 4) (name := nsE) X T [] ⟨0, 9, 12, 19⟩ [] rfl (fun z hz => absurd hz List.not_mem_nil) (by decide) (by decide) kl_L_19 (by simp [gXw]) (fun q => ?_)
    refine g_astore_3 (pc := 12) X dL_asked_12 (by decide) rfl ?_
    refine g_iconst (pc := 13) X dL_asked_13 kiconst_1 ?_
    exact g_ireturn (pc := 14) X Y dL_asked_14 (Nat.le_of_ble_eq_true rfl) (Nat.le_of_ble_eq_true rfl) ⟨_, rfl, LRI.no ⟨b, hR⟩ (by decide) h⟩
  · obtain ⟨hR, h⟩ := hp
    refine g_i2l (pc := 7) X dL_asked_7 ?_
    refine g_lastore_n (pc := 8) (a := 0) X dL_asked_8 rfl (by decide) rfl (by decide) ?_
    refine g_goto (pc := 9) X dL_asked_9 (tgt := 15) (by decide) ?_
    refine g_iconst (pc := 15) X dL_asked_15 kiconst_0 ?_
    exact g_ireturn (pc := 16) X Y dL_asked_16 (Nat.le_of_ble_eq_true rfl) (Nat.le_of_ble_eq_true rfl) ⟨_, rfl, LRI.ok ⟨b, hR⟩ (h _ rfl)⟩
theorem mwL_near : MIW mL_near [(0, 10, 13, 19), (0, 10, 17, 13)] := ⟨tb_7 20 rfl (by decide +kernel), by decide +kernel, ⟨by decide +kernel, by decide +kernel, by decide +kernel⟩, tb_1 0 rfl (by decide +kernel)⟩
theorem lL_near {o : gOm} {l : Launch} {b : Bool} {σ : gSt} (hst : l.stackTraces = false) (hI : Inv b σ) (p0 : Int32) (p1 : Int32) : SpW o l mL_near [(0, 10, 13, 19), (0, 10, 17, 13)] 31 2 12 [.ref (ad o 0), .int p0, .int p1, .ref (ad o 115)] 116 σ (pI (LRI (W_X12_near p0 p1))) := by
  have hR := hI.1
  have h := op_near hI p0 p1
  unfold OKI at h
  refine SpW.of (ls0 := [some (.ref (ad o 0)), some (.int p0), some (.int p1), some (.ref (ad o 115)), none]) mwL_near rfl (Nat.le_of_ble_eq_true rfl) rfl (fun γ hγ X Y T => ?_)
  subst hγ
  have X : gX o γ cL_near 5 RL := X
  refine g_aload_3 (pc := 0) X dL_near_0 ?_
  refine g_iconst (pc := 1) X dL_near_1 kiconst_0 ?_
  refine g_aload_0 (pc := 2) X dL_near_2 ?_
  refine g_iload_1 (pc := 3) X dL_near_3 ?_
  refine g_iload_2 (pc := 4) X dL_near_4 ?_
  refine g_callVX_I (pc := 5) X Y dL_near_5 miX11_near li_L_100 (t_X11_near hst hR h) rfl (by decide) rfl ⟨_, rfl⟩ rfl ⟨Nat.le_of_ble_eq_true rfl, Nat.le_of_ble_eq_true rfl⟩ ⟨Nat.le_of_ble_eq_true rfl, Nat.le_of_ble_eq_true rfl⟩ (by exact Nat.le_of_ble_eq_true rfl) rfl (fun E s hp => ?_) (fun v s hp => ?_)
  · obtain ⟨hR, k, hc, h⟩ := hp
    rcases hc with ⟨rfl, rfl⟩ | ⟨rfl, rfl⟩
    · refine g_catch (pc := 5) (name := nsE) X T [] ⟨0, 10, 13, 19⟩ [⟨0, 10, 17, 13⟩] rfl (fun z hz => absurd hz List.not_mem_nil) (by decide) (by decide) kl_L_19 (by simp [gXw]) (fun q => ?_)
      refine g_astore_4 (pc := 13) X dL_near_13 (by decide) rfl ?_
      refine g_iconst (pc := 15) X dL_near_15 kiconst_1 ?_
      exact g_ireturn (pc := 16) X Y dL_near_16 (Nat.le_of_ble_eq_true rfl) (Nat.le_of_ble_eq_true rfl) ⟨_, rfl, LRI.no ⟨b, hR⟩ (by decide) h⟩
    · refine g_catch (pc := 5) (name := iaE) X T [⟨0, 10, 13, 19⟩] ⟨0, 10, 17, 13⟩ [] rfl (fun z hz => by
          rw [List.mem_singleton] at hz
          subst hz
          exact .inr ⟨by decide, nsE, kl_L_19, fun s h => h.2⟩) (by decide) (by decide) kl_L_13 (by simp [gXw]) (fun q => ?_)
      refine g_astore_4 (pc := 17) X dL_near_17 (by decide) rfl ?_
      refine g_iconst (pc := 19) X dL_near_19 kiconst_2 ?_
      exact g_ireturn (pc := 20) X Y dL_near_20 (Nat.le_of_ble_eq_true rfl) (Nat.le_of_ble_eq_true rfl) ⟨_, rfl, LRI.no ⟨b, hR⟩ (by decide) h⟩
  · obtain ⟨hR, h⟩ := hp
    refine g_i2l (pc := 8) X dL_near_8 ?_
    refine g_lastore_n (pc := 9) (a := 0) X dL_near_9 rfl (by decide) rfl (by decide) ?_
    refine g_goto (pc := 10) X dL_near_10 (tgt := 21) (by decide) ?_
    refine g_iconst (pc := 21) X dL_near_21 kiconst_0 ?_
    exact g_ireturn (pc := 22) X Y dL_near_22 (Nat.le_of_ble_eq_true rfl) (Nat.le_of_ble_eq_true rfl) ⟨_, rfl, LRI.ok ⟨b, hR⟩ (h _ rfl)⟩
theorem mwL_nearest : MIW mL_nearest [(0, 10, 13, 19), (0, 10, 17, 13)] := ⟨tb_7 40 rfl (by decide +kernel), by decide +kernel, ⟨by decide +kernel, by decide +kernel, by decide +kernel⟩, tb_1 0 rfl (by decide +kernel)⟩
theorem lL_nearest {o : gOm} {l : Launch} {b : Bool} {σ : gSt} (hst : l.stackTraces = false) (hI : Inv b σ) (p0 : Int32) (p1 : Int32) : SpW o l mL_nearest [(0, 10, 13, 19), (0, 10, 17, 13)] 31 2 12 [.ref (ad o 0), .int p0, .int p1, .ref (ad o 115)] 116 σ (pI (LRI (W_X12_nearest p0 p1))) := by
  have hR := hI.1
  have h := op_nearest hI p0 p1
  unfold OKI at h
  refine SpW.of (ls0 := [some (.ref (ad o 0)), some (.int p0), some (.int p1), some (.ref (ad o 115)), none]) mwL_nearest rfl (Nat.le_of_ble_eq_true rfl) rfl (fun γ hγ X Y T => ?_)
  subst hγ
  have X : gX o γ cL_nearest 5 RL := X
  refine g_aload_3 (pc := 0) X dL_nearest_0 ?_
  refine g_iconst (pc := 1) X dL_nearest_1 kiconst_0 ?_
  refine g_aload_0 (pc := 2) X dL_nearest_2 ?_
  refine g_iload_1 (pc := 3) X dL_nearest_3 ?_
  refine g_iload_2 (pc := 4) X dL_nearest_4 ?_
  refine g_callVX_I (pc := 5) X Y dL_nearest_5 miX11_nearest li_L_103 (t_X11_nearest hst hR h) rfl (by decide) rfl ⟨_, rfl⟩ rfl ⟨Nat.le_of_ble_eq_true rfl, Nat.le_of_ble_eq_true rfl⟩ ⟨Nat.le_of_ble_eq_true rfl, Nat.le_of_ble_eq_true rfl⟩ (by exact Nat.le_of_ble_eq_true rfl) rfl (fun E s hp => ?_) (fun v s hp => ?_)
  · obtain ⟨hR, k, hc, h⟩ := hp
    rcases hc with ⟨rfl, rfl⟩ | ⟨rfl, rfl⟩
    · refine g_catch (pc := 5) (name := nsE) X T [] ⟨0, 10, 13, 19⟩ [⟨0, 10, 17, 13⟩] rfl (fun z hz => absurd hz List.not_mem_nil) (by decide) (by decide) kl_L_19 (by simp [gXw]) (fun q => ?_)
      refine g_astore_4 (pc := 13) X dL_nearest_13 (by decide) rfl ?_
      refine g_iconst (pc := 15) X dL_nearest_15 kiconst_1 ?_
      exact g_ireturn (pc := 16) X Y dL_nearest_16 (Nat.le_of_ble_eq_true rfl) (Nat.le_of_ble_eq_true rfl) ⟨_, rfl, LRI.no ⟨b, hR⟩ (by decide) h⟩
    · refine g_catch (pc := 5) (name := iaE) X T [⟨0, 10, 13, 19⟩] ⟨0, 10, 17, 13⟩ [] rfl (fun z hz => by
          rw [List.mem_singleton] at hz
          subst hz
          exact .inr ⟨by decide, nsE, kl_L_19, fun s h => h.2⟩) (by decide) (by decide) kl_L_13 (by simp [gXw]) (fun q => ?_)
      refine g_astore_4 (pc := 17) X dL_nearest_17 (by decide) rfl ?_
      refine g_iconst (pc := 19) X dL_nearest_19 kiconst_2 ?_
      exact g_ireturn (pc := 20) X Y dL_nearest_20 (Nat.le_of_ble_eq_true rfl) (Nat.le_of_ble_eq_true rfl) ⟨_, rfl, LRI.no ⟨b, hR⟩ (by decide) h⟩
  · obtain ⟨hR, h⟩ := hp
    refine g_i2l (pc := 8) X dL_nearest_8 ?_
    refine g_lastore_n (pc := 9) (a := 0) X dL_nearest_9 rfl (by decide) rfl (by decide) ?_
    refine g_goto (pc := 10) X dL_nearest_10 (tgt := 21) (by decide) ?_
    refine g_iconst (pc := 21) X dL_nearest_21 kiconst_0 ?_
    exact g_ireturn (pc := 22) X Y dL_nearest_22 (Nat.le_of_ble_eq_true rfl) (Nat.le_of_ble_eq_true rfl) ⟨_, rfl, LRI.ok ⟨b, hR⟩ (h _ rfl)⟩
theorem mwL_without : MIW mL_without [(0, 8, 11, 13)] := ⟨tb_7 47 rfl (by decide +kernel), by decide +kernel, ⟨by decide +kernel, by decide +kernel, by decide +kernel⟩, tb_1 0 rfl (by decide +kernel)⟩
theorem lL_without {o : gOm} {l : Launch} {b : Bool} {σ : gSt} (hst : l.stackTraces = false) (hI : Inv b σ) (p0 : Int32) : SpW o l mL_without [(0, 8, 11, 13)] 31 1 6 [.ref (ad o 0), .int p0, .ref (ad o 115)] 116 σ (pI (LRL (W_X12_without p0))) := by
  have hR := hI.1
  have h := op_without hI p0
  unfold OKL at h
  refine SpW.of (ls0 := [some (.ref (ad o 0)), some (.int p0), some (.ref (ad o 115)), none]) mwL_without rfl (Nat.le_of_ble_eq_true rfl) rfl (fun γ hγ X Y T => ?_)
  subst hγ
  have X : gX o γ cL_without 4 RL := X
  refine g_aload_2 (pc := 0) X dL_without_0 ?_
  refine g_iconst (pc := 1) X dL_without_1 kiconst_0 ?_
  refine g_aload_0 (pc := 2) X dL_without_2 ?_
  refine g_iload_1 (pc := 3) X dL_without_3 ?_
  refine g_callVX_L (pc := 4) X Y dL_without_4 miX11_without li_L_106 (t_X11_without hst hR h) rfl (by decide) rfl ⟨_, rfl⟩ rfl ⟨Nat.le_of_ble_eq_true rfl, Nat.le_of_ble_eq_true rfl⟩ ⟨Nat.le_of_ble_eq_true rfl, Nat.le_of_ble_eq_true rfl⟩ (by exact Nat.le_of_ble_eq_true rfl) rfl (fun E s hp => ?_) (fun v s hp => ?_)
  · obtain ⟨hR, k, hc, h⟩ := hp
    obtain ⟨rfl, rfl⟩ := hc
    refine g_catch (pc := 4) (name := iaE) X T [] ⟨0, 8, 11, 13⟩ [] rfl (fun z hz => absurd hz List.not_mem_nil) (by decide) (by decide) kl_L_13 (by simp [gXw]) (fun q => ?_)
    refine g_astore_3 (pc := 11) X dL_without_11 (by decide) rfl ?_
    refine g_iconst (pc := 12) X dL_without_12 kiconst_1 ?_
    exact g_ireturn (pc := 13) X Y dL_without_13 (Nat.le_of_ble_eq_true rfl) (Nat.le_of_ble_eq_true rfl) ⟨_, rfl, LRL.no ⟨b, hR⟩ (by decide) h⟩
  · obtain ⟨hR, h⟩ := hp
    refine g_lastore_n (pc := 7) (a := 0) X dL_without_7 rfl (by decide) rfl (by decide) ?_
    refine g_goto (pc := 8) X dL_without_8 (tgt := 14) (by decide) ?_
    refine g_iconst (pc := 14) X dL_without_14 kiconst_0 ?_
    exact g_ireturn (pc := 15) X Y dL_without_15 (Nat.le_of_ble_eq_true rfl) (Nat.le_of_ble_eq_true rfl) ⟨_, rfl, LRL.ok ⟨b, hR⟩ (h _ rfl)⟩
theorem mwL_stands : MIW mL_stands [(0, 9, 12, 13)] := ⟨tb_7 58 rfl (by decide +kernel), by decide +kernel, ⟨by decide +kernel, by decide +kernel, by decide +kernel⟩, tb_1 0 rfl (by decide +kernel)⟩
theorem lL_stands {o : gOm} {l : Launch} {b : Bool} {σ : gSt} (hst : l.stackTraces = false) (hI : Inv b σ) (p0 : Int32) : SpW o l mL_stands [(0, 9, 12, 13)] 31 1 6 [.ref (ad o 0), .int p0, .ref (ad o 115)] 116 σ (pI (LRI (W_X12_stands p0))) := by
  have hR := hI.1
  have h := op_stands hI p0
  unfold OKI at h
  refine SpW.of (ls0 := [some (.ref (ad o 0)), some (.int p0), some (.ref (ad o 115)), none]) mwL_stands rfl (Nat.le_of_ble_eq_true rfl) rfl (fun γ hγ X Y T => ?_)
  subst hγ
  have X : gX o γ cL_stands 4 RL := X
  refine g_aload_2 (pc := 0) X dL_stands_0 ?_
  refine g_iconst (pc := 1) X dL_stands_1 kiconst_0 ?_
  refine g_aload_0 (pc := 2) X dL_stands_2 ?_
  refine g_iload_1 (pc := 3) X dL_stands_3 ?_
  refine g_callVX_I (pc := 4) X Y dL_stands_4 miX11_stands li_L_109 (t_X11_stands hst hR h) rfl (by decide) rfl ⟨_, rfl⟩ rfl ⟨Nat.le_of_ble_eq_true rfl, Nat.le_of_ble_eq_true rfl⟩ ⟨Nat.le_of_ble_eq_true rfl, Nat.le_of_ble_eq_true rfl⟩ (by exact Nat.le_of_ble_eq_true rfl) rfl (fun E s hp => ?_) (fun v s hp => ?_)
  · obtain ⟨hR, k, hc, h⟩ := hp
    obtain ⟨rfl, rfl⟩ := hc
    refine g_catch (pc := 4) (name := iaE) X T [] ⟨0, 9, 12, 13⟩ [] rfl (fun z hz => absurd hz List.not_mem_nil) (by decide) (by decide) kl_L_13 (by simp [gXw]) (fun q => ?_)
    refine g_astore_3 (pc := 12) X dL_stands_12 (by decide) rfl ?_
    refine g_iconst (pc := 13) X dL_stands_13 kiconst_1 ?_
    exact g_ireturn (pc := 14) X Y dL_stands_14 (Nat.le_of_ble_eq_true rfl) (Nat.le_of_ble_eq_true rfl) ⟨_, rfl, LRI.no ⟨b, hR⟩ (by decide) h⟩
  · obtain ⟨hR, h⟩ := hp
    refine g_i2l (pc := 7) X dL_stands_7 ?_
    refine g_lastore_n (pc := 8) (a := 0) X dL_stands_8 rfl (by decide) rfl (by decide) ?_
    refine g_goto (pc := 9) X dL_stands_9 (tgt := 15) (by decide) ?_
    refine g_iconst (pc := 15) X dL_stands_15 kiconst_0 ?_
    exact g_ireturn (pc := 16) X Y dL_stands_16 (Nat.le_of_ble_eq_true rfl) (Nat.le_of_ble_eq_true rfl) ⟨_, rfl, LRI.ok ⟨b, hR⟩ (h _ rfl)⟩
