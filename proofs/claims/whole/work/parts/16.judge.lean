theorem orBits_0 {p : Nat → Bool} {n : Nat} (hn : n ≤ 32) : orBits p n = 0 ↔ anyB p n = false := by
  constructor
  · intro h
    cases e : anyB p n with
    | false => rfl
    | true =>
      obtain ⟨i, h1, h2⟩ := (anyB_iff p n).mp e
      have h3 := bt_orBits p n hn i (by omega)
      rw [h, b_0] at h3
      simp [h1, h2] at h3
  · intro h
    apply b_ext
    intro i hi
    rw [bt_orBits p n hn i hi, b_0]
    cases e : decide (i < n) && p i with
    | false => rfl
    | true =>
      simp only [Bool.and_eq_true, decide_eq_true_eq] at e
      have := (anyB_iff p n).mpr ⟨i, e.1, e.2⟩
      rw [h] at this
      cases this
theorem orBits_or {p q r : Nat → Bool} {n : Nat} (hn : n ≤ 32) (h : ∀ i, i < n → r i = (p i || q i)) : orBits p n ||| orBits q n = orBits r n := by
  apply b_ext
  intro i hi
  rw [b_or, bt_orBits p n hn i hi, bt_orBits q n hn i hi, bt_orBits r n hn i hi]
  by_cases e : i < n
  · simp [e, h i e]
  · simp [e]
def clampV (v : Int32) : Int32 := if -10000 < (if v < nI 10000 then v else nI 10000) then (if v < nI 10000 then v else nI 10000) else -10000
/-- PASSED, NEVER, by which clauses, and the weight, of the rules -/
def psd (F num : Nat → Int32) (kind st cd op : Nat → Nat) (C : Nat) : Bool := anyB (fun j => decide (kind j = 3)) C && !anyB (fun j => decide (kind j = 3) && apl F num st cd op j) C
def nvr (F num : Nat → Int32) (kind st cd op : Nat → Nat) (C : Nat) : Bool := !psd F num kind st cd op C && anyB (fun j => apl F num st cd op j && decide (kind j = 2)) C
def rsn (F num : Nat → Int32) (kind st cd op : Nat → Nat) (C : Nat) : Int32 := if psd F num kind st cd op C then nI 0 else orBits (apl F num st cd op) C
def vdt (F num : Nat → Int32) (kind st cd op : Nat → Nat) (C : Nat) : Int32 := clampV (if psd F num kind st cd op C then nI 0 else vSum F num kind st cd op C)
set_option maxHeartbeats 4000000 in
theorem s_judgeR5 {o : gOm} {l : Launch} {σ : gSt} {b : Bool} (hR : σ.2.2 = gRf b) {C : Nat} {kind st cd op : Nat → Nat} {num F : Nat → Int32} (hr : rulesAt σ 5 C kind st cd op num) (hk : rulesOK C kind st cd op) (hF : ∀ w, w < 6 → σ.1 29 w = F (w + 1))  : Sp o l mX9_judge 5 0 0 [.ref (ad o 5), .ref (ad o 29)] 116 116 σ (pV (fun σ1 => Off [5, 11] σ σ1 ∧ (∀ j, j ≠ 1 → j ≠ 2 → j ≠ 3 → j ≠ 4 → σ1.1 5 j = σ.1 5 j) ∧ σ1.1 5 1 = vdt F num kind st cd op C ∧ σ1.1 5 2 = rsn F num kind st cd op C ∧ σ1.1 5 3 = zI (nvr F num kind st cd op C) ∧ σ1.1 5 4 = zI (psd F num kind st cd op C))) := by
  refine Sp.of (ls0 := [some (.ref (ad o 5)), some (.ref (ad o 29)), none]) miX9_judge rfl (Nat.le_of_ble_eq_true rfl) rfl (fun γ hγ hnm X Y => ?_)
  subst hγ
  have X : gX o γ cX9_judge 3 RX9 := X
  refine g_aload_0 (pc := 0) X dX9_judge_0 ?_
  refine g_iconst (pc := 1) X dX9_judge_1 kiconst_0 ?_
  refine g_putI (pc := 2) X dX9_judge_2 fl_X9_37 rfl (by decide) rfl rfl ?_
  refine g_aload_0 (pc := 5) X dX9_judge_5 ?_
  refine g_iconst (pc := 6) X dX9_judge_6 kiconst_0 ?_
  refine g_putI (pc := 7) X dX9_judge_7 fl_X9_40 rfl (by decide) rfl rfl ?_
  refine g_aload_0 (pc := 10) X dX9_judge_10 ?_
  refine g_iconst (pc := 11) X dX9_judge_11 kiconst_0 ?_
  refine g_putZ (pc := 12) X dX9_judge_12 fl_X9_43 rfl (by decide) rfl rfl (by first | exact Or.inl rfl | exact Or.inr rfl | exact zI_01 _) ?_
  have hr0 : rulesAt (sI (sI (sI σ 5 1 (nI 0)) 5 2 (nI 0)) 5 3 (nI 0)) 5 C kind st cd op num := hr.off (by rw [sI_get, if_neg (by simp), sI_get, if_neg (by simp), sI_get, if_neg (by simp)]) (fun j a c => by funext z; rw [sI_get, if_neg (by omega), sI_get, if_neg (by omega), sI_get, if_neg (by omega)])
  have hF0 : ∀ w, w < 6 → (sI (sI (sI σ 5 1 (nI 0)) 5 2 (nI 0)) 5 3 (nI 0)).1 29 w = F (w + 1) := fun w hw => by rw [sI_get, if_neg (by simp), sI_get, if_neg (by simp), sI_get, if_neg (by simp)]; exact hF w hw
  refine g_aload_0 (pc := 15) X dX9_judge_15 ?_
  refine g_aload_1 (pc := 16) X dX9_judge_16 ?_
  refine g_callV_I (pc := 17) X Y dX9_judge_17 miX9_workLooks li_X9_47 (s_looks5 (σ := (sI (sI (sI σ 5 1 (nI 0)) 5 2 (nI 0)) 5 3 (nI 0))) (F := F) (num := num) hR hr0 hk hF0 (by rw [sI_get, if_neg (by simp), sI_get, if_pos ⟨rfl, rfl⟩])) rfl (by decide) rfl ⟨_, rfl⟩ rfl ⟨Nat.le_of_ble_eq_true rfl, Nat.le_of_ble_eq_true rfl⟩ (Nat.le_of_ble_eq_true rfl) (Nat.le_of_ble_eq_true rfl) rfl (by exact Nat.le_of_ble_eq_true rfl) (fun x9 σ1 hp => ?_)
  obtain ⟨rfl, hO, h2, hre⟩ := hp
  have hc16 := hk.1
  have f0 : ∀ j, j ≠ 1 → j ≠ 2 → j ≠ 3 → σ1.1 5 j = σ.1 5 j := fun j a c d => by rw [h2 j c, sI_get, if_neg (by simp [d]), sI_get, if_neg (by simp [c]), sI_get, if_neg (by simp [a])]
  have f1 : σ1.1 5 1 = nI 0 := by rw [h2 1 (by decide), sI_get, if_neg (by simp), sI_get, if_neg (by simp), sI_get, if_pos ⟨rfl, rfl⟩]
  have f3 : σ1.1 5 3 = nI 0 := by rw [h2 3 (by decide), sI_get, if_pos ⟨rfl, rfl⟩]
  have hz := orBits_0 (p := (fun j => decide (kind j = 3) && apl F num st cd op j)) (n := C) (by omega)
  have hOa : Off [5, 11] σ σ1 := (((Off.rf.i (k := 5) (by simp)).i (k := 5) (by simp)).i (k := 5) (by simp)).trans hO
  refine g_istore_2 (pc := 20) X dX9_judge_20 (by decide) rfl ?_
  refine g_aload_0 (pc := 21) X dX9_judge_21 ?_
  refine g_iload_2 (pc := 22) X dX9_judge_22 ?_
  apply g_val (v := .int (zI (psd F num kind st cd op C))) (pcJ := 38)
  · intro T9
    first | refine g_if_eq_z (pc := 23) X dX9_judge_23 (tgt := 37) (by decide) (fun h23 => ?_) (fun h23 => ?_) | refine g_if_eq (pc := 23) X dX9_judge_23 (tgt := 37) (by decide) (fun h23 => ?_) (fun h23 => ?_)
    · refine g_iconst (pc := 37) X dX9_judge_37 kiconst_0 ?_
      exact T9 _ (by simp_all [psd, zI])
    · refine g_aload_0 (pc := 26) X dX9_judge_26 ?_
      refine g_getI (pc := 27) X dX9_judge_27 rfl (by decide) fl_X9_40 (Or.inl rfl) ?_
      rw [hre]
      refine g_if_ne (pc := 30) X dX9_judge_30 (tgt := 37) (by decide) (fun h30 => ?_) (fun h30 => ?_)
      · refine g_iconst (pc := 37) X dX9_judge_37 kiconst_0 ?_
        exact T9 _ (by simp_all [psd, zI])
      · refine g_iconst (pc := 33) X dX9_judge_33 kiconst_1 ?_
        refine g_goto (pc := 34) X dX9_judge_34 (tgt := 38) (by decide) ?_
        exact T9 _ (by simp_all [psd, zI])
  · refine g_putZ (pc := 38) X dX9_judge_38 fl_X9_51 rfl (by decide) rfl rfl (by first | exact Or.inl rfl | exact Or.inr rfl | exact zI_01 _) ?_
    have hrP : rulesAt (sI σ1 5 4 (zI (psd F num kind st cd op C))) 5 C kind st cd op num := hr.off (by rw [sI_get, if_neg (by simp)]; exact f0 0 (by decide) (by decide) (by decide)) (fun j a c => by funext z; rw [sI_get, if_neg (by omega), (hOa.1 _ (by simp; omega)).1])
    have hFP : ∀ w, w < 6 → (sI σ1 5 4 (zI (psd F num kind st cd op C))).1 29 w = F (w + 1) := fun w hw => by rw [sI_get, if_neg (by simp), (hOa.1 29 (by decide)).1]; exact hF w hw
    refine g_aload_0 (pc := 41) X dX9_judge_41 ?_
    refine g_getI (pc := 42) X dX9_judge_42 rfl (by decide) fl_X9_51 (Or.inr rfl) ?_
    rw [sI_get, if_pos ⟨rfl, rfl⟩]
    first | refine g_if_ne_z (pc := 45) X dX9_judge_45 (tgt := 53) (by decide) (fun h45 => ?_) (fun h45 => ?_) | refine g_if_ne (pc := 45) X dX9_judge_45 (tgt := 53) (by decide) (fun h45 => ?_) (fun h45 => ?_)
    · refine g_aload_0 (pc := 53) X dX9_judge_53 ?_
      refine g_sipush (pc := 54) X dX9_judge_54 ksipush_m10000 ?_
      refine g_sipush (pc := 57) X dX9_judge_57 ksipush_10000 ?_
      refine g_aload_0 (pc := 60) X dX9_judge_60 ?_
      refine g_getI (pc := 61) X dX9_judge_61 rfl (by decide) fl_X9_37 (Or.inl rfl) ?_
      first | rw [gve] | rw [sI_get, if_neg (by simp), f1]
      refine g_mmin (pc := 64) X Y dX9_judge_64 li_X9_58 (by decide) (Nat.le_refl _) (Nat.le_refl _) (Nat.le_of_ble_eq_true rfl) ?_
      refine g_mmax (pc := 67) X Y dX9_judge_67 li_X9_64 (by decide) (Nat.le_refl _) (Nat.le_refl _) (Nat.le_of_ble_eq_true rfl) ?_
      refine g_putI (pc := 70) X dX9_judge_70 fl_X9_37 rfl (by decide) rfl rfl ?_
      first
      | (refine g_return (pc := 73) X Y dX9_judge_73 (Nat.le_of_ble_eq_true rfl) (Nat.le_of_ble_eq_true rfl) ⟨rfl, ((hOa.i (k := 5) (by simp)).trans hO2).i (k := 5) (by simp), fun j a c d e => ?_, ?_, ?_, ?_, ?_⟩
         · rw [sI_get, if_neg (by simp [a]), g2 j a c d, sI_get, if_neg (by simp [e])]; exact f0 j a c d
         · rw [sI_get, if_pos ⟨rfl, rfl⟩, vdt, h45]; rfl
         · rw [sI_get, if_neg (by simp), gre, sI_get, if_neg (by simp), hre, rsn, h45]
           exact orBits_or (by omega) (fun i hi => by by_cases e : kind i = 3 <;> simp [e])
         · rw [sI_get, if_neg (by simp), gne, nvr, h45]; simp
         · rw [sI_get, if_neg (by simp), g2 4 (by decide) (by decide) (by decide), sI_get, if_pos ⟨rfl, rfl⟩])
      | (have hl0 : anyB (fun j => decide (kind j = 3) && apl F num st cd op j) C = false := by
           have := h45
           simp only [psd, Bool.and_eq_true, Bool.not_eq_true'] at this
           exact this.2
         refine g_return (pc := 73) X Y dX9_judge_73 (Nat.le_of_ble_eq_true rfl) (Nat.le_of_ble_eq_true rfl) ⟨rfl, (hOa.i (k := 5) (by simp)).i (k := 5) (by simp), fun j a c d e => ?_, ?_, ?_, ?_, ?_⟩
         · rw [sI_get, if_neg (by simp [a]), sI_get, if_neg (by simp [e])]; exact f0 j a c d
         · rw [sI_get, if_pos ⟨rfl, rfl⟩, vdt, h45]; rfl
         · rw [sI_get, if_neg (by simp), sI_get, if_neg (by simp), hre, rsn, h45, hz.mpr hl0]; exact nI_0.symm
         · rw [sI_get, if_neg (by simp), sI_get, if_neg (by simp), f3, nvr, h45]; rfl
         · rw [sI_get, if_neg (by simp), sI_get, if_pos ⟨rfl, rfl⟩])
    · refine g_aload_0 (pc := 48) X dX9_judge_48 ?_
      refine g_aload_1 (pc := 49) X dX9_judge_49 ?_
      refine g_callV_V (pc := 50) X Y dX9_judge_50 miX9_workOthers li_X9_54 (s_others5 (σ := (sI σ1 5 4 (zI (psd F num kind st cd op C)))) (F := F) (num := num) (hO.2.trans hR) hrP hk hFP (by rw [sI_get, if_neg (by simp)]; exact f1) (by rw [sI_get, if_neg (by simp)]; exact f3)) rfl (by decide) rfl ⟨_, rfl⟩ rfl ⟨Nat.le_of_ble_eq_true rfl, Nat.le_of_ble_eq_true rfl⟩ (Nat.le_of_ble_eq_true rfl) (Nat.le_of_ble_eq_true rfl) rfl (by exact Nat.le_of_ble_eq_true rfl) (fun σ2 hp => ?_)
      obtain ⟨hO2, g2, gre, gne, gve⟩ := hp
      refine g_aload_0 (pc := 53) X dX9_judge_53 ?_
      refine g_sipush (pc := 54) X dX9_judge_54 ksipush_m10000 ?_
      refine g_sipush (pc := 57) X dX9_judge_57 ksipush_10000 ?_
      refine g_aload_0 (pc := 60) X dX9_judge_60 ?_
      refine g_getI (pc := 61) X dX9_judge_61 rfl (by decide) fl_X9_37 (Or.inl rfl) ?_
      first | rw [gve] | rw [sI_get, if_neg (by simp), f1]
      refine g_mmin (pc := 64) X Y dX9_judge_64 li_X9_58 (by decide) (Nat.le_refl _) (Nat.le_refl _) (Nat.le_of_ble_eq_true rfl) ?_
      refine g_mmax (pc := 67) X Y dX9_judge_67 li_X9_64 (by decide) (Nat.le_refl _) (Nat.le_refl _) (Nat.le_of_ble_eq_true rfl) ?_
      refine g_putI (pc := 70) X dX9_judge_70 fl_X9_37 rfl (by decide) rfl rfl ?_
      first
      | (refine g_return (pc := 73) X Y dX9_judge_73 (Nat.le_of_ble_eq_true rfl) (Nat.le_of_ble_eq_true rfl) ⟨rfl, ((hOa.i (k := 5) (by simp)).trans hO2).i (k := 5) (by simp), fun j a c d e => ?_, ?_, ?_, ?_, ?_⟩
         · rw [sI_get, if_neg (by simp [a]), g2 j a c d, sI_get, if_neg (by simp [e])]; exact f0 j a c d
         · rw [sI_get, if_pos ⟨rfl, rfl⟩, vdt, h45]; rfl
         · rw [sI_get, if_neg (by simp), gre, sI_get, if_neg (by simp), hre, rsn, h45]
           exact orBits_or (by omega) (fun i hi => by by_cases e : kind i = 3 <;> simp [e])
         · rw [sI_get, if_neg (by simp), gne, nvr, h45]; simp
         · rw [sI_get, if_neg (by simp), g2 4 (by decide) (by decide) (by decide), sI_get, if_pos ⟨rfl, rfl⟩])
      | (have hl0 : anyB (fun j => decide (kind j = 3) && apl F num st cd op j) C = false := by
           have := h45
           simp only [psd, Bool.and_eq_true, Bool.not_eq_true'] at this
           exact this.2
         refine g_return (pc := 73) X Y dX9_judge_73 (Nat.le_of_ble_eq_true rfl) (Nat.le_of_ble_eq_true rfl) ⟨rfl, (hOa.i (k := 5) (by simp)).i (k := 5) (by simp), fun j a c d e => ?_, ?_, ?_, ?_, ?_⟩
         · rw [sI_get, if_neg (by simp [a]), sI_get, if_neg (by simp [e])]; exact f0 j a c d
         · rw [sI_get, if_pos ⟨rfl, rfl⟩, vdt, h45]; rfl
         · rw [sI_get, if_neg (by simp), sI_get, if_neg (by simp), hre, rsn, h45, hz.mpr hl0]; exact nI_0.symm
         · rw [sI_get, if_neg (by simp), sI_get, if_neg (by simp), f3, nvr, h45]; rfl
         · rw [sI_get, if_neg (by simp), sI_get, if_pos ⟨rfl, rfl⟩])
set_option maxHeartbeats 4000000 in
theorem s_judgeR17 {o : gOm} {l : Launch} {σ : gSt} {b : Bool} (hR : σ.2.2 = gRf b) {C : Nat} {kind st cd op : Nat → Nat} {num F : Nat → Int32} (hr : rulesAt σ 17 C kind st cd op num) (hk : rulesOK C kind st cd op) (hF : ∀ w, w < 6 → σ.1 29 w = F (w + 1))  : Sp o l mX9_judge 5 0 0 [.ref (ad o 17), .ref (ad o 29)] 116 116 σ (pV (fun σ1 => Off [17, 23] σ σ1 ∧ (∀ j, j ≠ 1 → j ≠ 2 → j ≠ 3 → j ≠ 4 → σ1.1 17 j = σ.1 17 j) ∧ σ1.1 17 1 = vdt F num kind st cd op C ∧ σ1.1 17 2 = rsn F num kind st cd op C ∧ σ1.1 17 3 = zI (nvr F num kind st cd op C) ∧ σ1.1 17 4 = zI (psd F num kind st cd op C))) := by
  refine Sp.of (ls0 := [some (.ref (ad o 17)), some (.ref (ad o 29)), none]) miX9_judge rfl (Nat.le_of_ble_eq_true rfl) rfl (fun γ hγ hnm X Y => ?_)
  subst hγ
  have X : gX o γ cX9_judge 3 RX9 := X
  refine g_aload_0 (pc := 0) X dX9_judge_0 ?_
  refine g_iconst (pc := 1) X dX9_judge_1 kiconst_0 ?_
  refine g_putI (pc := 2) X dX9_judge_2 fl_X9_37 rfl (by decide) rfl rfl ?_
  refine g_aload_0 (pc := 5) X dX9_judge_5 ?_
  refine g_iconst (pc := 6) X dX9_judge_6 kiconst_0 ?_
  refine g_putI (pc := 7) X dX9_judge_7 fl_X9_40 rfl (by decide) rfl rfl ?_
  refine g_aload_0 (pc := 10) X dX9_judge_10 ?_
  refine g_iconst (pc := 11) X dX9_judge_11 kiconst_0 ?_
  refine g_putZ (pc := 12) X dX9_judge_12 fl_X9_43 rfl (by decide) rfl rfl (by first | exact Or.inl rfl | exact Or.inr rfl | exact zI_01 _) ?_
  have hr0 : rulesAt (sI (sI (sI σ 17 1 (nI 0)) 17 2 (nI 0)) 17 3 (nI 0)) 17 C kind st cd op num := hr.off (by rw [sI_get, if_neg (by simp), sI_get, if_neg (by simp), sI_get, if_neg (by simp)]) (fun j a c => by funext z; rw [sI_get, if_neg (by omega), sI_get, if_neg (by omega), sI_get, if_neg (by omega)])
  have hF0 : ∀ w, w < 6 → (sI (sI (sI σ 17 1 (nI 0)) 17 2 (nI 0)) 17 3 (nI 0)).1 29 w = F (w + 1) := fun w hw => by rw [sI_get, if_neg (by simp), sI_get, if_neg (by simp), sI_get, if_neg (by simp)]; exact hF w hw
  refine g_aload_0 (pc := 15) X dX9_judge_15 ?_
  refine g_aload_1 (pc := 16) X dX9_judge_16 ?_
  refine g_callV_I (pc := 17) X Y dX9_judge_17 miX9_workLooks li_X9_47 (s_looks17 (σ := (sI (sI (sI σ 17 1 (nI 0)) 17 2 (nI 0)) 17 3 (nI 0))) (F := F) (num := num) hR hr0 hk hF0 (by rw [sI_get, if_neg (by simp), sI_get, if_pos ⟨rfl, rfl⟩])) rfl (by decide) rfl ⟨_, rfl⟩ rfl ⟨Nat.le_of_ble_eq_true rfl, Nat.le_of_ble_eq_true rfl⟩ (Nat.le_of_ble_eq_true rfl) (Nat.le_of_ble_eq_true rfl) rfl (by exact Nat.le_of_ble_eq_true rfl) (fun x9 σ1 hp => ?_)
  obtain ⟨rfl, hO, h2, hre⟩ := hp
  have hc16 := hk.1
  have f0 : ∀ j, j ≠ 1 → j ≠ 2 → j ≠ 3 → σ1.1 17 j = σ.1 17 j := fun j a c d => by rw [h2 j c, sI_get, if_neg (by simp [d]), sI_get, if_neg (by simp [c]), sI_get, if_neg (by simp [a])]
  have f1 : σ1.1 17 1 = nI 0 := by rw [h2 1 (by decide), sI_get, if_neg (by simp), sI_get, if_neg (by simp), sI_get, if_pos ⟨rfl, rfl⟩]
  have f3 : σ1.1 17 3 = nI 0 := by rw [h2 3 (by decide), sI_get, if_pos ⟨rfl, rfl⟩]
  have hz := orBits_0 (p := (fun j => decide (kind j = 3) && apl F num st cd op j)) (n := C) (by omega)
  have hOa : Off [17, 23] σ σ1 := (((Off.rf.i (k := 17) (by simp)).i (k := 17) (by simp)).i (k := 17) (by simp)).trans hO
  refine g_istore_2 (pc := 20) X dX9_judge_20 (by decide) rfl ?_
  refine g_aload_0 (pc := 21) X dX9_judge_21 ?_
  refine g_iload_2 (pc := 22) X dX9_judge_22 ?_
  apply g_val (v := .int (zI (psd F num kind st cd op C))) (pcJ := 38)
  · intro T9
    first | refine g_if_eq_z (pc := 23) X dX9_judge_23 (tgt := 37) (by decide) (fun h23 => ?_) (fun h23 => ?_) | refine g_if_eq (pc := 23) X dX9_judge_23 (tgt := 37) (by decide) (fun h23 => ?_) (fun h23 => ?_)
    · refine g_iconst (pc := 37) X dX9_judge_37 kiconst_0 ?_
      exact T9 _ (by simp_all [psd, zI])
    · refine g_aload_0 (pc := 26) X dX9_judge_26 ?_
      refine g_getI (pc := 27) X dX9_judge_27 rfl (by decide) fl_X9_40 (Or.inl rfl) ?_
      rw [hre]
      refine g_if_ne (pc := 30) X dX9_judge_30 (tgt := 37) (by decide) (fun h30 => ?_) (fun h30 => ?_)
      · refine g_iconst (pc := 37) X dX9_judge_37 kiconst_0 ?_
        exact T9 _ (by simp_all [psd, zI])
      · refine g_iconst (pc := 33) X dX9_judge_33 kiconst_1 ?_
        refine g_goto (pc := 34) X dX9_judge_34 (tgt := 38) (by decide) ?_
        exact T9 _ (by simp_all [psd, zI])
  · refine g_putZ (pc := 38) X dX9_judge_38 fl_X9_51 rfl (by decide) rfl rfl (by first | exact Or.inl rfl | exact Or.inr rfl | exact zI_01 _) ?_
    have hrP : rulesAt (sI σ1 17 4 (zI (psd F num kind st cd op C))) 17 C kind st cd op num := hr.off (by rw [sI_get, if_neg (by simp)]; exact f0 0 (by decide) (by decide) (by decide)) (fun j a c => by funext z; rw [sI_get, if_neg (by omega), (hOa.1 _ (by simp; omega)).1])
    have hFP : ∀ w, w < 6 → (sI σ1 17 4 (zI (psd F num kind st cd op C))).1 29 w = F (w + 1) := fun w hw => by rw [sI_get, if_neg (by simp), (hOa.1 29 (by decide)).1]; exact hF w hw
    refine g_aload_0 (pc := 41) X dX9_judge_41 ?_
    refine g_getI (pc := 42) X dX9_judge_42 rfl (by decide) fl_X9_51 (Or.inr rfl) ?_
    rw [sI_get, if_pos ⟨rfl, rfl⟩]
    first | refine g_if_ne_z (pc := 45) X dX9_judge_45 (tgt := 53) (by decide) (fun h45 => ?_) (fun h45 => ?_) | refine g_if_ne (pc := 45) X dX9_judge_45 (tgt := 53) (by decide) (fun h45 => ?_) (fun h45 => ?_)
    · refine g_aload_0 (pc := 53) X dX9_judge_53 ?_
      refine g_sipush (pc := 54) X dX9_judge_54 ksipush_m10000 ?_
      refine g_sipush (pc := 57) X dX9_judge_57 ksipush_10000 ?_
      refine g_aload_0 (pc := 60) X dX9_judge_60 ?_
      refine g_getI (pc := 61) X dX9_judge_61 rfl (by decide) fl_X9_37 (Or.inl rfl) ?_
      first | rw [gve] | rw [sI_get, if_neg (by simp), f1]
      refine g_mmin (pc := 64) X Y dX9_judge_64 li_X9_58 (by decide) (Nat.le_refl _) (Nat.le_refl _) (Nat.le_of_ble_eq_true rfl) ?_
      refine g_mmax (pc := 67) X Y dX9_judge_67 li_X9_64 (by decide) (Nat.le_refl _) (Nat.le_refl _) (Nat.le_of_ble_eq_true rfl) ?_
      refine g_putI (pc := 70) X dX9_judge_70 fl_X9_37 rfl (by decide) rfl rfl ?_
      first
      | (refine g_return (pc := 73) X Y dX9_judge_73 (Nat.le_of_ble_eq_true rfl) (Nat.le_of_ble_eq_true rfl) ⟨rfl, ((hOa.i (k := 17) (by simp)).trans hO2).i (k := 17) (by simp), fun j a c d e => ?_, ?_, ?_, ?_, ?_⟩
         · rw [sI_get, if_neg (by simp [a]), g2 j a c d, sI_get, if_neg (by simp [e])]; exact f0 j a c d
         · rw [sI_get, if_pos ⟨rfl, rfl⟩, vdt, h45]; rfl
         · rw [sI_get, if_neg (by simp), gre, sI_get, if_neg (by simp), hre, rsn, h45]
           exact orBits_or (by omega) (fun i hi => by by_cases e : kind i = 3 <;> simp [e])
         · rw [sI_get, if_neg (by simp), gne, nvr, h45]; simp
         · rw [sI_get, if_neg (by simp), g2 4 (by decide) (by decide) (by decide), sI_get, if_pos ⟨rfl, rfl⟩])
      | (have hl0 : anyB (fun j => decide (kind j = 3) && apl F num st cd op j) C = false := by
           have := h45
           simp only [psd, Bool.and_eq_true, Bool.not_eq_true'] at this
           exact this.2
         refine g_return (pc := 73) X Y dX9_judge_73 (Nat.le_of_ble_eq_true rfl) (Nat.le_of_ble_eq_true rfl) ⟨rfl, (hOa.i (k := 17) (by simp)).i (k := 17) (by simp), fun j a c d e => ?_, ?_, ?_, ?_, ?_⟩
         · rw [sI_get, if_neg (by simp [a]), sI_get, if_neg (by simp [e])]; exact f0 j a c d
         · rw [sI_get, if_pos ⟨rfl, rfl⟩, vdt, h45]; rfl
         · rw [sI_get, if_neg (by simp), sI_get, if_neg (by simp), hre, rsn, h45, hz.mpr hl0]; exact nI_0.symm
         · rw [sI_get, if_neg (by simp), sI_get, if_neg (by simp), f3, nvr, h45]; rfl
         · rw [sI_get, if_neg (by simp), sI_get, if_pos ⟨rfl, rfl⟩])
    · refine g_aload_0 (pc := 48) X dX9_judge_48 ?_
      refine g_aload_1 (pc := 49) X dX9_judge_49 ?_
      refine g_callV_V (pc := 50) X Y dX9_judge_50 miX9_workOthers li_X9_54 (s_others17 (σ := (sI σ1 17 4 (zI (psd F num kind st cd op C)))) (F := F) (num := num) (hO.2.trans hR) hrP hk hFP (by rw [sI_get, if_neg (by simp)]; exact f1) (by rw [sI_get, if_neg (by simp)]; exact f3)) rfl (by decide) rfl ⟨_, rfl⟩ rfl ⟨Nat.le_of_ble_eq_true rfl, Nat.le_of_ble_eq_true rfl⟩ (Nat.le_of_ble_eq_true rfl) (Nat.le_of_ble_eq_true rfl) rfl (by exact Nat.le_of_ble_eq_true rfl) (fun σ2 hp => ?_)
      obtain ⟨hO2, g2, gre, gne, gve⟩ := hp
      refine g_aload_0 (pc := 53) X dX9_judge_53 ?_
      refine g_sipush (pc := 54) X dX9_judge_54 ksipush_m10000 ?_
      refine g_sipush (pc := 57) X dX9_judge_57 ksipush_10000 ?_
      refine g_aload_0 (pc := 60) X dX9_judge_60 ?_
      refine g_getI (pc := 61) X dX9_judge_61 rfl (by decide) fl_X9_37 (Or.inl rfl) ?_
      first | rw [gve] | rw [sI_get, if_neg (by simp), f1]
      refine g_mmin (pc := 64) X Y dX9_judge_64 li_X9_58 (by decide) (Nat.le_refl _) (Nat.le_refl _) (Nat.le_of_ble_eq_true rfl) ?_
      refine g_mmax (pc := 67) X Y dX9_judge_67 li_X9_64 (by decide) (Nat.le_refl _) (Nat.le_refl _) (Nat.le_of_ble_eq_true rfl) ?_
      refine g_putI (pc := 70) X dX9_judge_70 fl_X9_37 rfl (by decide) rfl rfl ?_
      first
      | (refine g_return (pc := 73) X Y dX9_judge_73 (Nat.le_of_ble_eq_true rfl) (Nat.le_of_ble_eq_true rfl) ⟨rfl, ((hOa.i (k := 17) (by simp)).trans hO2).i (k := 17) (by simp), fun j a c d e => ?_, ?_, ?_, ?_, ?_⟩
         · rw [sI_get, if_neg (by simp [a]), g2 j a c d, sI_get, if_neg (by simp [e])]; exact f0 j a c d
         · rw [sI_get, if_pos ⟨rfl, rfl⟩, vdt, h45]; rfl
         · rw [sI_get, if_neg (by simp), gre, sI_get, if_neg (by simp), hre, rsn, h45]
           exact orBits_or (by omega) (fun i hi => by by_cases e : kind i = 3 <;> simp [e])
         · rw [sI_get, if_neg (by simp), gne, nvr, h45]; simp
         · rw [sI_get, if_neg (by simp), g2 4 (by decide) (by decide) (by decide), sI_get, if_pos ⟨rfl, rfl⟩])
      | (have hl0 : anyB (fun j => decide (kind j = 3) && apl F num st cd op j) C = false := by
           have := h45
           simp only [psd, Bool.and_eq_true, Bool.not_eq_true'] at this
           exact this.2
         refine g_return (pc := 73) X Y dX9_judge_73 (Nat.le_of_ble_eq_true rfl) (Nat.le_of_ble_eq_true rfl) ⟨rfl, (hOa.i (k := 17) (by simp)).i (k := 17) (by simp), fun j a c d e => ?_, ?_, ?_, ?_, ?_⟩
         · rw [sI_get, if_neg (by simp [a]), sI_get, if_neg (by simp [e])]; exact f0 j a c d
         · rw [sI_get, if_pos ⟨rfl, rfl⟩, vdt, h45]; rfl
         · rw [sI_get, if_neg (by simp), sI_get, if_neg (by simp), hre, rsn, h45, hz.mpr hl0]; exact nI_0.symm
         · rw [sI_get, if_neg (by simp), sI_get, if_neg (by simp), f3, nvr, h45]; rfl
         · rw [sI_get, if_neg (by simp), sI_get, if_pos ⟨rfl, rfl⟩])
