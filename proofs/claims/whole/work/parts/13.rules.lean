set_option maxHeartbeats 4000000 in
theorem s_fill {o : gOm} {l : Launch} {σ : gSt} {k len : Nat} (v : Int32) (hk : k < 116) (hlay : lay k = (0, len)) : Sp o l mJ7_fill_53178 1 0 0 [.ref (ad o k), .int v] 116 116 σ (pV (fun σ1 => Off [k] σ σ1 ∧ ∀ j, σ1.1 k j = if j < len then v else σ.1 k j)) := by
  refine Sp.of (ls0 := [some (.ref (ad o k)), some (.int v), none, none]) miJ7_fill_53178 rfl (Nat.le_of_ble_eq_true rfl) rfl (fun γ hγ hnm X Y => ?_)
  subst hγ
  have X : gX o γ cJ7_fill_53178 4 RJ7 := X
  have hsm := lay_small hlay
  have hL : ∀ (m i : Nat), i ≤ len → len + 1 ≤ i + m → ∀ σ1 : gSt, Off [k] σ σ1 → (∀ j, σ1.1 k j = if j < i then v else σ.1 k j) → G o γ 0 0 116 σ1 5 [some (.ref (ad o k)), some (.int v), some (.int (nI i)), some (.int (nI len))] [] := by
    intro m
    induction m with
    | zero => intro i q1 q2; omega
    | succ m ihhL =>
      intro i q1 q2 σ1 hO hv
      refine g_iload_2 (pc := 5) X dJ7_fill_53178_5 ?_
      refine g_iload_3 (pc := 6) X dJ7_fill_53178_6 ?_
      first | refine g_icmp_ge_n (pc := 7) X dJ7_fill_53178_7 (tgt := 20) (by decide) (by omega) (by omega) (fun h7 => ?_) (fun h7 => ?_) | refine g_icmp_ge (pc := 7) X dJ7_fill_53178_7 (tgt := 20) (by decide) (fun h7 => ?_) (fun h7 => ?_)
      · exact g_return (pc := 20) X Y dJ7_fill_53178_20 (Nat.le_of_ble_eq_true rfl) (Nat.le_of_ble_eq_true rfl) (by obtain rfl : i = len := (by omega); exact ⟨rfl, hO, hv⟩)
      · refine g_aload_0 (pc := 10) X dJ7_fill_53178_10 ?_
        refine g_iload_2 (pc := 11) X dJ7_fill_53178_11 ?_
        refine g_iload_1 (pc := 12) X dJ7_fill_53178_12 ?_
        refine g_iastore_n (pc := 13) X dJ7_fill_53178_13 hlay hk (rfl) (by omega) ?_
        first | refine g_iinc_2_n (pc := 14) X dJ7_fill_53178_14 (by decide) rfl ?_ | refine g_iinc_2 (pc := 14) X dJ7_fill_53178_14 rfl (by decide) rfl ?_
        refine g_goto (pc := 17) X dJ7_fill_53178_17 (tgt := 5) (by decide) ?_
        exact ihhL (i + 1) (by omega) (by omega) _ (hO.i (by simp)) (fun j => by
          rw [sI_get, hv]
          by_cases e : j = i
          · simp [e]
          · have : (j < i + 1) = (j < i) := by simp; omega
            simp [e, this])
  refine g_iconst (pc := 0) X dJ7_fill_53178_0 kiconst_0 ?_
  refine g_istore_2 (pc := 1) X dJ7_fill_53178_1 (by decide) rfl ?_
  refine g_aload_0 (pc := 2) X dJ7_fill_53178_2 ?_
  refine g_alen (pc := 3) X dJ7_fill_53178_3 hlay hk ?_
  refine g_istore_3 (pc := 4) X dJ7_fill_53178_4 (by decide) rfl ?_
  exact hL (len + 1) 0 (by omega) (by omega) σ Off.rf (by simp)
set_option maxHeartbeats 4000000 in
theorem s_combine {o : gOm} {l : Launch} {σ : gSt} (op : Nat) (x y : Int32) (h1 : 7 ≤ op) (h2 : op ≤ 17) : Sp o l mX9_combine 1 0 0 [.int (nI (op + 1)), .int x, .int y] 116 116 σ (pI (fun v σ1 => v = binM op x y ∧ σ = σ1)) := by
  refine Sp.of (ls0 := [some (.int (nI (op + 1))), some (.int x), some (.int y)]) miX9_combine rfl (Nat.le_of_ble_eq_true rfl) rfl (fun γ hγ hnm X Y => ?_)
  subst hγ
  have X : gX o γ cX9_combine 3 RX9 := X
  refine g_iload_0 (pc := 0) X dX9_combine_0 ?_
  have hop : op = 7 ∨ op = 8 ∨ op = 9 ∨ op = 10 ∨ op = 11 ∨ op = 12 ∨ op = 13 ∨ op = 14 ∨ op = 15 ∨ op = 16 ∨ op = 17 := by omega
  rcases hop with rfl | rfl | rfl | rfl | rfl | rfl | rfl | rfl | rfl | rfl | rfl
  · refine g_tableIn (pc := 1) X dX9_combine_1 (off := 55) (tgt := 56) (by decide +kernel) (by decide +kernel) (by decide +kernel) (by decide) ?_
    refine g_iload_1 (pc := 56) X dX9_combine_56 ?_
    refine g_iload_2 (pc := 57) X dX9_combine_57 ?_
    first | refine g_iadd_n (pc := 58) X dX9_combine_58 ?_ | refine g_iadd (pc := 58) X dX9_combine_58 ?_
    exact g_ireturn (pc := 59) X Y dX9_combine_59 (Nat.le_of_ble_eq_true rfl) (Nat.le_of_ble_eq_true rfl) (⟨_, rfl, by simp_all [binM, zI, ← Int32.not_le], rfl⟩)
  · refine g_tableIn (pc := 1) X dX9_combine_1 (off := 59) (tgt := 60) (by decide +kernel) (by decide +kernel) (by decide +kernel) (by decide) ?_
    refine g_iload_1 (pc := 60) X dX9_combine_60 ?_
    refine g_iload_2 (pc := 61) X dX9_combine_61 ?_
    refine g_isub (pc := 62) X dX9_combine_62 ?_
    exact g_ireturn (pc := 63) X Y dX9_combine_63 (Nat.le_of_ble_eq_true rfl) (Nat.le_of_ble_eq_true rfl) (⟨_, rfl, by simp_all [binM, zI, ← Int32.not_le], rfl⟩)
  · refine g_tableIn (pc := 1) X dX9_combine_1 (off := 63) (tgt := 64) (by decide +kernel) (by decide +kernel) (by decide +kernel) (by decide) ?_
    refine g_iload_1 (pc := 64) X dX9_combine_64 ?_
    refine g_iload_2 (pc := 65) X dX9_combine_65 ?_
    first | refine g_imul_n (pc := 66) X dX9_combine_66 ?_ | refine g_imul (pc := 66) X dX9_combine_66 ?_
    exact g_ireturn (pc := 67) X Y dX9_combine_67 (Nat.le_of_ble_eq_true rfl) (Nat.le_of_ble_eq_true rfl) (⟨_, rfl, by simp_all [binM, zI, ← Int32.not_le], rfl⟩)
  · refine g_tableIn (pc := 1) X dX9_combine_1 (off := 67) (tgt := 68) (by decide +kernel) (by decide +kernel) (by decide +kernel) (by decide) ?_
    refine g_iload_2 (pc := 68) X dX9_combine_68 ?_
    refine g_if_ne (pc := 69) X dX9_combine_69 (tgt := 76) (by decide) (fun h69 => ?_) (fun h69 => ?_)
    · refine g_iload_1 (pc := 76) X dX9_combine_76 ?_
      refine g_iload_2 (pc := 77) X dX9_combine_77 ?_
      refine g_idiv (pc := 78) X dX9_combine_78 (by assumption) ?_
      exact g_ireturn (pc := 79) X Y dX9_combine_79 (Nat.le_of_ble_eq_true rfl) (Nat.le_of_ble_eq_true rfl) (⟨_, rfl, by simp_all [binM, zI, ← Int32.not_le], rfl⟩)
    · refine g_iconst (pc := 72) X dX9_combine_72 kiconst_0 ?_
      refine g_goto (pc := 73) X dX9_combine_73 (tgt := 79) (by decide) ?_
      exact g_ireturn (pc := 79) X Y dX9_combine_79 (Nat.le_of_ble_eq_true rfl) (Nat.le_of_ble_eq_true rfl) (⟨_, rfl, by simp_all [binM, zI, ← Int32.not_le], rfl⟩)
  · refine g_tableIn (pc := 1) X dX9_combine_1 (off := 79) (tgt := 80) (by decide +kernel) (by decide +kernel) (by decide +kernel) (by decide) ?_
    refine g_iload_1 (pc := 80) X dX9_combine_80 ?_
    refine g_iload_2 (pc := 81) X dX9_combine_81 ?_
    refine g_icmp_ge (pc := 82) X dX9_combine_82 (tgt := 89) (by decide) (fun h82 => ?_) (fun h82 => ?_)
    · refine g_iload_2 (pc := 89) X dX9_combine_89 ?_
      exact g_ireturn (pc := 90) X Y dX9_combine_90 (Nat.le_of_ble_eq_true rfl) (Nat.le_of_ble_eq_true rfl) (⟨_, rfl, by simp_all [binM, zI, ← Int32.not_le], rfl⟩)
    · refine g_iload_1 (pc := 85) X dX9_combine_85 ?_
      refine g_goto (pc := 86) X dX9_combine_86 (tgt := 90) (by decide) ?_
      exact g_ireturn (pc := 90) X Y dX9_combine_90 (Nat.le_of_ble_eq_true rfl) (Nat.le_of_ble_eq_true rfl) (⟨_, rfl, by simp_all [binM, zI, ← Int32.not_le], rfl⟩)
  · refine g_tableIn (pc := 1) X dX9_combine_1 (off := 90) (tgt := 91) (by decide +kernel) (by decide +kernel) (by decide +kernel) (by decide) ?_
    refine g_iload_1 (pc := 91) X dX9_combine_91 ?_
    refine g_iload_2 (pc := 92) X dX9_combine_92 ?_
    refine g_icmp_le (pc := 93) X dX9_combine_93 (tgt := 100) (by decide) (fun h93 => ?_) (fun h93 => ?_)
    · refine g_iload_2 (pc := 100) X dX9_combine_100 ?_
      exact g_ireturn (pc := 101) X Y dX9_combine_101 (Nat.le_of_ble_eq_true rfl) (Nat.le_of_ble_eq_true rfl) (⟨_, rfl, by simp_all [binM, zI, ← Int32.not_le], rfl⟩)
    · refine g_iload_1 (pc := 96) X dX9_combine_96 ?_
      refine g_goto (pc := 97) X dX9_combine_97 (tgt := 101) (by decide) ?_
      exact g_ireturn (pc := 101) X Y dX9_combine_101 (Nat.le_of_ble_eq_true rfl) (Nat.le_of_ble_eq_true rfl) (⟨_, rfl, by simp_all [binM, zI, ← Int32.not_le], rfl⟩)
  · refine g_tableIn (pc := 1) X dX9_combine_1 (off := 101) (tgt := 102) (by decide +kernel) (by decide +kernel) (by decide +kernel) (by decide) ?_
    refine g_iload_1 (pc := 102) X dX9_combine_102 ?_
    refine g_iload_2 (pc := 103) X dX9_combine_103 ?_
    refine g_icmp_ge (pc := 104) X dX9_combine_104 (tgt := 111) (by decide) (fun h104 => ?_) (fun h104 => ?_)
    · refine g_iconst (pc := 111) X dX9_combine_111 kiconst_0 ?_
      exact g_ireturn (pc := 112) X Y dX9_combine_112 (Nat.le_of_ble_eq_true rfl) (Nat.le_of_ble_eq_true rfl) (⟨_, rfl, by simp_all [binM, zI, ← Int32.not_le], rfl⟩)
    · refine g_iconst (pc := 107) X dX9_combine_107 kiconst_1 ?_
      refine g_goto (pc := 108) X dX9_combine_108 (tgt := 112) (by decide) ?_
      exact g_ireturn (pc := 112) X Y dX9_combine_112 (Nat.le_of_ble_eq_true rfl) (Nat.le_of_ble_eq_true rfl) (⟨_, rfl, by simp_all [binM, zI, ← Int32.not_le], rfl⟩)
  · refine g_tableIn (pc := 1) X dX9_combine_1 (off := 112) (tgt := 113) (by decide +kernel) (by decide +kernel) (by decide +kernel) (by decide) ?_
    refine g_iload_1 (pc := 113) X dX9_combine_113 ?_
    refine g_iload_2 (pc := 114) X dX9_combine_114 ?_
    refine g_icmp_le (pc := 115) X dX9_combine_115 (tgt := 122) (by decide) (fun h115 => ?_) (fun h115 => ?_)
    · refine g_iconst (pc := 122) X dX9_combine_122 kiconst_0 ?_
      exact g_ireturn (pc := 123) X Y dX9_combine_123 (Nat.le_of_ble_eq_true rfl) (Nat.le_of_ble_eq_true rfl) (⟨_, rfl, by simp_all [binM, zI, ← Int32.not_le], rfl⟩)
    · refine g_iconst (pc := 118) X dX9_combine_118 kiconst_1 ?_
      refine g_goto (pc := 119) X dX9_combine_119 (tgt := 123) (by decide) ?_
      exact g_ireturn (pc := 123) X Y dX9_combine_123 (Nat.le_of_ble_eq_true rfl) (Nat.le_of_ble_eq_true rfl) (⟨_, rfl, by simp_all [binM, zI, ← Int32.not_le], rfl⟩)
  · refine g_tableIn (pc := 1) X dX9_combine_1 (off := 123) (tgt := 124) (by decide +kernel) (by decide +kernel) (by decide +kernel) (by decide) ?_
    refine g_iload_1 (pc := 124) X dX9_combine_124 ?_
    refine g_iload_2 (pc := 125) X dX9_combine_125 ?_
    refine g_icmp_ne (pc := 126) X dX9_combine_126 (tgt := 133) (by decide) (fun h126 => ?_) (fun h126 => ?_)
    · refine g_iconst (pc := 133) X dX9_combine_133 kiconst_0 ?_
      exact g_ireturn (pc := 134) X Y dX9_combine_134 (Nat.le_of_ble_eq_true rfl) (Nat.le_of_ble_eq_true rfl) (⟨_, rfl, by simp_all [binM, zI, ← Int32.not_le], rfl⟩)
    · refine g_iconst (pc := 129) X dX9_combine_129 kiconst_1 ?_
      refine g_goto (pc := 130) X dX9_combine_130 (tgt := 134) (by decide) ?_
      exact g_ireturn (pc := 134) X Y dX9_combine_134 (Nat.le_of_ble_eq_true rfl) (Nat.le_of_ble_eq_true rfl) (⟨_, rfl, by simp_all [binM, zI, ← Int32.not_le], rfl⟩)
  · refine g_tableIn (pc := 1) X dX9_combine_1 (off := 134) (tgt := 135) (by decide +kernel) (by decide +kernel) (by decide +kernel) (by decide) ?_
    refine g_iload_1 (pc := 135) X dX9_combine_135 ?_
    refine g_iload_2 (pc := 136) X dX9_combine_136 ?_
    refine g_ior (pc := 137) X dX9_combine_137 ?_
    exact g_ireturn (pc := 138) X Y dX9_combine_138 (Nat.le_of_ble_eq_true rfl) (Nat.le_of_ble_eq_true rfl) (⟨_, rfl, by simp_all [binM, zI, ← Int32.not_le], rfl⟩)
  · refine g_tableOut (pc := 1) X dX9_combine_1 (tgt := 139) (by decide +kernel) (by decide) ?_
    refine g_iload_1 (pc := 139) X dX9_combine_139 ?_
    refine g_iload_2 (pc := 140) X dX9_combine_140 ?_
    refine g_iand (pc := 141) X dX9_combine_141 ?_
    exact g_ireturn (pc := 142) X Y dX9_combine_142 (Nat.le_of_ble_eq_true rfl) (Nat.le_of_ble_eq_true rfl) (⟨_, rfl, by simp_all [binM, zI, ← Int32.not_le], rfl⟩)
def opC (op : Nat) : Nat := if op = 0 then 6 else if op ≤ 6 then op - 1 else if op = 18 then 7 else op + 1
/-- the steps of the rules at k: those of the reference, in the class's numbers; what they push -/
def codeAt (σ : gSt) (k : Nat) (op : Nat → Nat) (num F : Nat → Int32) (f t : Nat) : Prop := (∀ i, f ≤ i → i < t → σ.1 (k + 4) i = nI (opC (op i)) ∧ op i ≤ 18 ∧ σ.1 (k + 5) i = num i) ∧ ∀ w, w < 6 → σ.1 29 w = F (w + 1)
theorem nI_dec {n : Nat} (h : 1 ≤ n) : nI n + Int32.ofInt (-1) = nI (n - 1) := by
  obtain ⟨m, rfl⟩ : ∃ m, n = m + 1 := ⟨n - 1, by omega⟩
  rw [Nat.add_sub_cancel, ← nI_pred m, Int32.sub_eq_add_neg]
  rfl
theorem tyN_step {op : Nat → Nat} {t i : Nat} {ty u : List Bool} (hi : i < t) (h : tyN op (t - i) i ty = some u) : ∃ r, ty1 (op i) ty = some r ∧ tyN op (t - (i + 1)) (i + 1) r = some u := by
  rw [show t - i = (t - (i + 1)) + 1 by omega, tyN] at h
  cases h1 : ty1 (op i) ty with
  | none => rw [h1] at h; cases h
  | some r => rw [h1] at h; exact ⟨r, rfl, h⟩
theorem exN_step {F num : Nat → Int32} {op : Nat → Nat} {t i : Nat} {s : (Nat → Int32) × Nat} (hi : i < t) : exN F num op (t - i) i s = exN F num op (t - (i + 1)) (i + 1) (ex1 F num op i s) := by
  rw [show t - i = (t - (i + 1)) + 1 by omega, exN]
theorem ty1_push {op : Nat} {ty r : List Bool} (h : ty1 op ty = some r) (h6 : op ≤ 6) : ty.length < 60 ∧ r = false :: ty := by
  rcases ty1_cases h with ⟨c1, c2, c3⟩ | ⟨c1, -⟩ | ⟨c1, -⟩ | ⟨c1, -⟩ | ⟨c1, -⟩
  · exact ⟨c2, c3⟩
  all_goals omega
theorem ty1_not {op : Nat} {ty r : List Bool} (h : ty1 op ty = some r) (h6 : op = 18) : 1 ≤ ty.length ∧ r.length = ty.length := by
  rcases ty1_cases h with ⟨c1, c2, c3⟩ | ⟨c1, q, rfl, rfl⟩ | ⟨c1, c2, -⟩ | ⟨c1, c2, -⟩ | ⟨c1, c2, -⟩
  · omega
  · simp
  all_goals omega
theorem ty1_bin {op : Nat} {ty r : List Bool} (h : ty1 op ty = some r) (h6 : ¬ op ≤ 6) (h18 : ¬ op = 18) : 2 ≤ ty.length ∧ r.length = ty.length - 1 ∧ op ≤ 17 := by
  rcases ty1_cases h with ⟨c1, c2, c3⟩ | ⟨c1, -⟩ | ⟨c1, c2, q, rfl, rfl⟩ | ⟨c1, c2, q, rfl, rfl⟩ | ⟨c1, c2, q, rfl, rfl⟩
  · omega
  · omega
  all_goals exact ⟨by simp, by simp, by omega⟩
theorem opC_le {op : Nat} (h : op ≤ 18) : opC op ≤ 18 ∧ (opC op ≤ 6 ↔ op ≤ 6) ∧ (opC op < 6 ↔ 1 ≤ op ∧ op ≤ 6) ∧ (1 ≤ op → op ≤ 6 → opC op + 1 = op) ∧ (opC op = 7 ↔ op = 18) ∧ (¬ op ≤ 6 → ¬ op = 18 → opC op = op + 1) := by
  unfold opC
  split
  · omega
  · split
    · omega
    · split <;> omega
set_option maxHeartbeats 4000000 in
theorem s_work5 {o : gOm} {l : Launch} {σ : gSt} {b : Bool} (hR : σ.2.2 = gRf b) {op : Nat → Nat} {num F : Nat → Int32} {f t : Nat} {τ : Bool} (hft : f ≤ t) (ht : t ≤ 400) (hc : codeAt σ 5 op num F f t) (hw : tyN op (t - f) f [] = some [τ]) : Sp o l mX9_work 2 0 0 [.ref (ad o 5), .int (nI f), .int (nI t), .ref (ad o 29)] 116 116 σ (pI (fun x σ1 => x = (exN F num op (t - f) f (σ.1 11, 0)).1 0 ∧ Off [11] σ σ1)) := by
  refine Sp.of (ls0 := [some (.ref (ad o 5)), some (.int (nI f)), some (.int (nI t)), some (.ref (ad o 29)), none, none, none]) miX9_work rfl (Nat.le_of_ble_eq_true rfl) rfl (fun γ hγ hnm X Y => ?_)
  subst hγ
  have X : gX o γ cX9_work 7 RX9 := X
  have hL : ∀ (m i : Nat), i ≤ t → t + 1 ≤ i + m → f ≤ i → ∀ (σ1 : gSt) (ty : List Bool), ty.length ≤ 60 → Off [11] σ σ1 → tyN op (t - i) i ty = some [τ] → exN F num op (t - i) i (σ1.1 11, ty.length) = exN F num op (t - f) f (σ.1 11, 0) → G o γ 0 0 116 σ1 6 [some (.ref (ad o 5)), some (.int (nI f)), some (.int (nI t)), some (.ref (ad o 29)), some (.int (nI ty.length)), some (.int (nI i)), none] [] := by
    intro m
    induction m with
    | zero => intro i q1 q2; omega
    | succ m ihhL =>
      intro i q1 q2 hfi σ1 ty hl60 hO hty hfin
      have hR := hO.2.trans hR
      refine g_iload_5 (pc := 6) X dX9_work_6 ?_
      refine g_iload_2 (pc := 8) X dX9_work_8 ?_
      first | refine g_icmp_ge_n (pc := 9) X dX9_work_9 (tgt := 152) (by decide) (by omega) (by omega) (fun h9 => ?_) (fun h9 => ?_) | refine g_icmp_ge (pc := 9) X dX9_work_9 (tgt := 152) (by decide) (fun h9 => ?_) (fun h9 => ?_)
      · have : i = t := by omega
        subst this
        rw [Nat.sub_self] at hty hfin
        cases hty
        have hfin : (σ1.1 11, 1) = exN F num op (i - f) f (σ.1 11, 0) := hfin
        refine g_iload_4 (pc := 152) X dX9_work_152 ?_
        refine g_iconst (pc := 154) X dX9_work_154 kiconst_1 ?_
        first | refine g_icmp_lt_n (pc := 155) X dX9_work_155 (tgt := 170) (by decide) (by omega) (by omega) (fun h155 => ?_) (fun h155 => ?_) | refine g_icmp_lt (pc := 155) X dX9_work_155 (tgt := 170) (by decide) (fun h155 => ?_) (fun h155 => ?_)
        · simp at h155
        · refine g_aload_0 (pc := 158) X dX9_work_158 ?_
          refine g_getRf (pc := 159) X dX9_work_159 fl_X9_27 rfl (by decide) rfl hR rfl ?_
          refine g_iload_4 (pc := 162) X dX9_work_162 ?_
          refine g_iconst (pc := 164) X dX9_work_164 kiconst_1 ?_
          refine g_isub_n (pc := 165) X dX9_work_165 (by simp) ?_
          refine g_iaload_n (pc := 166) X dX9_work_166 rfl (by decide) (rfl) (by simp) ?_
          refine g_goto (pc := 167) X dX9_work_167 (tgt := 171) (by decide) ?_
          exact g_ireturn (pc := 171) X Y dX9_work_171 (Nat.le_of_ble_eq_true rfl) (Nat.le_of_ble_eq_true rfl) (⟨_, rfl, by rw [← hfin]; rfl, hO⟩)
      · obtain ⟨r, hr1, hr2⟩ := tyN_step h9 hty
        have hop := (hc.1 i (by omega) h9).2.1
        have hcl := opC_le hop
        have hck := (hc.1 i (by omega) h9).1
        have hnm := (hc.1 i (by omega) h9).2.2
        rw [exN_step h9] at hfin
        refine g_aload_0 (pc := 12) X dX9_work_12 ?_
        refine g_getRf (pc := 13) X dX9_work_13 fl_X9_21 rfl (by decide) rfl hR rfl ?_
        refine g_iload_5 (pc := 16) X dX9_work_16 ?_
        refine g_iaload_n (pc := 18) X dX9_work_18 rfl (by decide) (rfl) (by omega) ?_
        rw [show σ1.1 9 i = nI (opC (op i)) by rw [(hO.1 9 (by decide)).1]; exact hck]
        refine g_istore_6 (pc := 19) X dX9_work_19 (by decide) rfl ?_
        refine g_iload_6 (pc := 21) X dX9_work_21 ?_
        refine g_bipush (pc := 23) X dX9_work_23 kbipush_6 ?_
        first | refine g_icmp_gt_n (pc := 25) X dX9_work_25 (tgt := 69) (by decide) (by omega) (by omega) (fun h25 => ?_) (fun h25 => ?_) | refine g_icmp_gt (pc := 25) X dX9_work_25 (tgt := 69) (by decide) (fun h25 => ?_) (fun h25 => ?_)
        · have h6 : ¬ op i ≤ 6 := fun q => by have := hcl.2.1.mpr q; omega
          refine g_iload_6 (pc := 69) X dX9_work_69 ?_
          refine g_bipush (pc := 71) X dX9_work_71 kbipush_7 ?_
          first | refine g_icmp_ne_n (pc := 73) X dX9_work_73 (tgt := 105) (by decide) (by omega) (by omega) (fun h73 => ?_) (fun h73 => ?_) | refine g_icmp_ne (pc := 73) X dX9_work_73 (tgt := 105) (by decide) (fun h73 => ?_) (fun h73 => ?_)
          · have h18 : ¬ op i = 18 := fun q => by have := hcl.2.2.2.2.1.mpr q; omega
            obtain ⟨hl1, hrl, h17⟩ := ty1_bin hr1 h6 h18
            refine g_iload_4 (pc := 105) X dX9_work_105 ?_
            refine g_iconst (pc := 107) X dX9_work_107 kiconst_2 ?_
            first | refine g_icmp_lt_n (pc := 108) X dX9_work_108 (tgt := 146) (by decide) (by omega) (by omega) (fun h108 => ?_) (fun h108 => ?_) | refine g_icmp_lt (pc := 108) X dX9_work_108 (tgt := 146) (by decide) (fun h108 => ?_) (fun h108 => ?_)
            · omega
            · refine g_aload_0 (pc := 111) X dX9_work_111 ?_
              refine g_getRf (pc := 112) X dX9_work_112 fl_X9_27 rfl (by decide) rfl hR rfl ?_
              refine g_iload_4 (pc := 115) X dX9_work_115 ?_
              refine g_iconst (pc := 117) X dX9_work_117 kiconst_2 ?_
              refine g_isub_n (pc := 118) X dX9_work_118 (by omega) ?_
              refine g_iload_6 (pc := 119) X dX9_work_119 ?_
              rw [hcl.2.2.2.2.2 h6 h18]
              refine g_aload_0 (pc := 121) X dX9_work_121 ?_
              refine g_getRf (pc := 122) X dX9_work_122 fl_X9_27 rfl (by decide) rfl hR rfl ?_
              refine g_iload_4 (pc := 125) X dX9_work_125 ?_
              refine g_iconst (pc := 127) X dX9_work_127 kiconst_2 ?_
              refine g_isub_n (pc := 128) X dX9_work_128 (by omega) ?_
              refine g_iaload_n (pc := 129) X dX9_work_129 rfl (by decide) (rfl) (by omega) ?_
              refine g_aload_0 (pc := 130) X dX9_work_130 ?_
              refine g_getRf (pc := 131) X dX9_work_131 fl_X9_27 rfl (by decide) rfl hR rfl ?_
              refine g_iload_4 (pc := 134) X dX9_work_134 ?_
              refine g_iconst (pc := 136) X dX9_work_136 kiconst_1 ?_
              refine g_isub_n (pc := 137) X dX9_work_137 (by omega) ?_
              refine g_iaload_n (pc := 138) X dX9_work_138 rfl (by decide) (rfl) (by omega) ?_
              refine g_callS_I (pc := 139) X Y dX9_work_139 miX9_combine li_X9_75 (s_combine (σ := σ1) (op i) _ _ (by omega) h17) rfl ⟨Nat.le_of_ble_eq_true rfl, Nat.le_of_ble_eq_true rfl⟩ (Nat.le_of_ble_eq_true rfl) (Nat.le_of_ble_eq_true rfl) rfl (by exact Nat.le_of_ble_eq_true rfl) (fun x9 σ1 hp => ?_)
              obtain ⟨rfl, rfl⟩ := hp
              refine g_iastore_n (pc := 142) X dX9_work_142 rfl (by decide) (rfl) (by omega) ?_
              refine g_iinc_4 (pc := 143) (v := nI (ty.length - 1)) X dX9_work_143 (nI_dec (by omega)) (by decide) rfl ?_
              first | refine g_iinc_5_n (pc := 146) X dX9_work_146 (by decide) rfl ?_ | refine g_iinc_5 (pc := 146) X dX9_work_146 rfl (by decide) rfl ?_
              refine g_goto (pc := 149) X dX9_work_149 (tgt := 6) (by decide) ?_
              rw [← hrl]
              exact g_drop (by simp [lsub]) (ihhL (i + 1) (by omega) (by omega) (by omega) _ r (by omega) (hO.i (by simp)) hr2 (by rw [sI_k, hrl]; simpa [ex1, h6, h18] using hfin))
          · have h18 : op i = 18 := hcl.2.2.2.2.1.mp (by omega)
            obtain ⟨hl1, hrl⟩ := ty1_not hr1 h18
            refine g_iload_4 (pc := 76) X dX9_work_76 ?_
            refine g_iconst (pc := 78) X dX9_work_78 kiconst_1 ?_
            first | refine g_icmp_lt_n (pc := 79) X dX9_work_79 (tgt := 146) (by decide) (by omega) (by omega) (fun h79 => ?_) (fun h79 => ?_) | refine g_icmp_lt (pc := 79) X dX9_work_79 (tgt := 146) (by decide) (fun h79 => ?_) (fun h79 => ?_)
            · omega
            · refine g_aload_0 (pc := 82) X dX9_work_82 ?_
              refine g_getRf (pc := 83) X dX9_work_83 fl_X9_27 rfl (by decide) rfl hR rfl ?_
              refine g_iload_4 (pc := 86) X dX9_work_86 ?_
              refine g_iconst (pc := 88) X dX9_work_88 kiconst_1 ?_
              refine g_isub_n (pc := 89) X dX9_work_89 (by omega) ?_
              refine g_iconst (pc := 90) X dX9_work_90 kiconst_1 ?_
              refine g_aload_0 (pc := 91) X dX9_work_91 ?_
              refine g_getRf (pc := 92) X dX9_work_92 fl_X9_27 rfl (by decide) rfl hR rfl ?_
              refine g_iload_4 (pc := 95) X dX9_work_95 ?_
              refine g_iconst (pc := 97) X dX9_work_97 kiconst_1 ?_
              refine g_isub_n (pc := 98) X dX9_work_98 (by omega) ?_
              refine g_iaload_n (pc := 99) X dX9_work_99 rfl (by decide) (rfl) (by omega) ?_
              refine g_isub (pc := 100) X dX9_work_100 ?_
              refine g_iastore_n (pc := 101) X dX9_work_101 rfl (by decide) (rfl) (by omega) ?_
              refine g_goto (pc := 102) X dX9_work_102 (tgt := 146) (by decide) ?_
              refine g_iinc_5_n (pc := 146) X dX9_work_146 (by decide) rfl ?_
              refine g_goto (pc := 149) X dX9_work_149 (tgt := 6) (by decide) ?_
              rw [← hrl]
              exact g_drop (by simp [lsub]) (ihhL (i + 1) (by omega) (by omega) (by omega) _ r (by omega) (hO.i (by simp)) hr2 (by rw [sI_k, hrl]; simpa [ex1, h6, h18] using hfin))
        · have h6 : op i ≤ 6 := hcl.2.1.mp (by omega)
          obtain ⟨hlt60, rfl⟩ := ty1_push hr1 h6
          refine g_iload_4 (pc := 28) X dX9_work_28 ?_
          refine g_bipush (pc := 30) X dX9_work_30 kbipush_64 ?_
          first | refine g_icmp_ge_n (pc := 32) X dX9_work_32 (tgt := 146) (by decide) (by omega) (by omega) (fun h32 => ?_) (fun h32 => ?_) | refine g_icmp_ge (pc := 32) X dX9_work_32 (tgt := 146) (by decide) (fun h32 => ?_) (fun h32 => ?_)
          · omega
          · refine g_aload_0 (pc := 35) X dX9_work_35 ?_
            refine g_getRf (pc := 36) X dX9_work_36 fl_X9_27 rfl (by decide) rfl hR rfl ?_
            refine g_iload_4 (pc := 39) X dX9_work_39 ?_
            refine g_iload_6 (pc := 41) X dX9_work_41 ?_
            apply g_val (v := .int (if op i = 0 then num i else F (op i))) (pcJ := 62)
            · intro T9
              refine g_bipush (pc := 43) X dX9_work_43 kbipush_6 ?_
              first | refine g_icmp_ge_n (pc := 45) X dX9_work_45 (tgt := 55) (by decide) (by omega) (by omega) (fun h45 => ?_) (fun h45 => ?_) | refine g_icmp_ge (pc := 45) X dX9_work_45 (tgt := 55) (by decide) (fun h45 => ?_) (fun h45 => ?_)
              · refine g_aload_0 (pc := 55) X dX9_work_55 ?_
                refine g_getRf (pc := 56) X dX9_work_56 fl_X9_24 rfl (by decide) rfl hR rfl ?_
                refine g_iload_5 (pc := 59) X dX9_work_59 ?_
                refine g_iaload_n (pc := 61) X dX9_work_61 rfl (by decide) (rfl) (by omega) ?_
                have h0 : op i = 0 := by have := hcl.2.2.1; omega
                rw [show σ1.1 10 i = num i by rw [(hO.1 10 (by decide)).1]; exact hnm]
                exact T9 _ (by simp_all)
              · refine g_aload_3 (pc := 48) X dX9_work_48 ?_
                refine g_iload_6 (pc := 49) X dX9_work_49 ?_
                refine g_iaload_n (pc := 51) X dX9_work_51 rfl (by decide) (rfl) (by omega) ?_
                have h0 : ¬ op i = 0 := by have := hcl.2.2.1.mp h45; omega
                rw [show σ1.1 29 (opC (op i)) = F (op i) by rw [(hO.1 29 (by decide)).1, hc.2 _ h45, hcl.2.2.2.1 (by omega) h6]]
                refine g_goto (pc := 52) X dX9_work_52 (tgt := 62) (by decide) ?_
                exact T9 _ (by simp_all)
            · refine g_iastore_n (pc := 62) X dX9_work_62 rfl (by decide) (rfl) (by omega) ?_
              first | refine g_iinc_4_n (pc := 63) X dX9_work_63 (by decide) rfl ?_ | refine g_iinc_4 (pc := 63) X dX9_work_63 rfl (by decide) rfl ?_
              refine g_goto (pc := 66) X dX9_work_66 (tgt := 146) (by decide) ?_
              refine g_iinc_5_n (pc := 146) X dX9_work_146 (by decide) rfl ?_
              refine g_goto (pc := 149) X dX9_work_149 (tgt := 6) (by decide) ?_
              exact g_drop (by simp [lsub]) (ihhL (i + 1) (by omega) (by omega) (by omega) _ (false :: ty) (by simp; omega) (hO.i (by simp)) hr2 (by rw [sI_k]; simpa [ex1, h6] using hfin))
  refine g_iconst (pc := 0) X dX9_work_0 kiconst_0 ?_
  refine g_istore_4 (pc := 1) X dX9_work_1 (by decide) rfl ?_
  refine g_iload_1 (pc := 3) X dX9_work_3 ?_
  refine g_istore_5 (pc := 4) X dX9_work_4 (by decide) rfl ?_
  exact hL (t + 1) f hft (by omega) (Nat.le_refl _) σ [] (by simp) Off.rf hw rfl
set_option maxHeartbeats 4000000 in
theorem s_work17 {o : gOm} {l : Launch} {σ : gSt} {b : Bool} (hR : σ.2.2 = gRf b) {op : Nat → Nat} {num F : Nat → Int32} {f t : Nat} {τ : Bool} (hft : f ≤ t) (ht : t ≤ 400) (hc : codeAt σ 17 op num F f t) (hw : tyN op (t - f) f [] = some [τ]) : Sp o l mX9_work 2 0 0 [.ref (ad o 17), .int (nI f), .int (nI t), .ref (ad o 29)] 116 116 σ (pI (fun x σ1 => x = (exN F num op (t - f) f (σ.1 23, 0)).1 0 ∧ Off [23] σ σ1)) := by
  refine Sp.of (ls0 := [some (.ref (ad o 17)), some (.int (nI f)), some (.int (nI t)), some (.ref (ad o 29)), none, none, none]) miX9_work rfl (Nat.le_of_ble_eq_true rfl) rfl (fun γ hγ hnm X Y => ?_)
  subst hγ
  have X : gX o γ cX9_work 7 RX9 := X
  have hL : ∀ (m i : Nat), i ≤ t → t + 1 ≤ i + m → f ≤ i → ∀ (σ1 : gSt) (ty : List Bool), ty.length ≤ 60 → Off [23] σ σ1 → tyN op (t - i) i ty = some [τ] → exN F num op (t - i) i (σ1.1 23, ty.length) = exN F num op (t - f) f (σ.1 23, 0) → G o γ 0 0 116 σ1 6 [some (.ref (ad o 17)), some (.int (nI f)), some (.int (nI t)), some (.ref (ad o 29)), some (.int (nI ty.length)), some (.int (nI i)), none] [] := by
    intro m
    induction m with
    | zero => intro i q1 q2; omega
    | succ m ihhL =>
      intro i q1 q2 hfi σ1 ty hl60 hO hty hfin
      have hR := hO.2.trans hR
      refine g_iload_5 (pc := 6) X dX9_work_6 ?_
      refine g_iload_2 (pc := 8) X dX9_work_8 ?_
      first | refine g_icmp_ge_n (pc := 9) X dX9_work_9 (tgt := 152) (by decide) (by omega) (by omega) (fun h9 => ?_) (fun h9 => ?_) | refine g_icmp_ge (pc := 9) X dX9_work_9 (tgt := 152) (by decide) (fun h9 => ?_) (fun h9 => ?_)
      · have : i = t := by omega
        subst this
        rw [Nat.sub_self] at hty hfin
        cases hty
        have hfin : (σ1.1 23, 1) = exN F num op (i - f) f (σ.1 23, 0) := hfin
        refine g_iload_4 (pc := 152) X dX9_work_152 ?_
        refine g_iconst (pc := 154) X dX9_work_154 kiconst_1 ?_
        first | refine g_icmp_lt_n (pc := 155) X dX9_work_155 (tgt := 170) (by decide) (by omega) (by omega) (fun h155 => ?_) (fun h155 => ?_) | refine g_icmp_lt (pc := 155) X dX9_work_155 (tgt := 170) (by decide) (fun h155 => ?_) (fun h155 => ?_)
        · simp at h155
        · refine g_aload_0 (pc := 158) X dX9_work_158 ?_
          refine g_getRf (pc := 159) X dX9_work_159 fl_X9_27 rfl (by decide) rfl hR rfl ?_
          refine g_iload_4 (pc := 162) X dX9_work_162 ?_
          refine g_iconst (pc := 164) X dX9_work_164 kiconst_1 ?_
          refine g_isub_n (pc := 165) X dX9_work_165 (by simp) ?_
          refine g_iaload_n (pc := 166) X dX9_work_166 rfl (by decide) (rfl) (by simp) ?_
          refine g_goto (pc := 167) X dX9_work_167 (tgt := 171) (by decide) ?_
          exact g_ireturn (pc := 171) X Y dX9_work_171 (Nat.le_of_ble_eq_true rfl) (Nat.le_of_ble_eq_true rfl) (⟨_, rfl, by rw [← hfin]; rfl, hO⟩)
      · obtain ⟨r, hr1, hr2⟩ := tyN_step h9 hty
        have hop := (hc.1 i (by omega) h9).2.1
        have hcl := opC_le hop
        have hck := (hc.1 i (by omega) h9).1
        have hnm := (hc.1 i (by omega) h9).2.2
        rw [exN_step h9] at hfin
        refine g_aload_0 (pc := 12) X dX9_work_12 ?_
        refine g_getRf (pc := 13) X dX9_work_13 fl_X9_21 rfl (by decide) rfl hR rfl ?_
        refine g_iload_5 (pc := 16) X dX9_work_16 ?_
        refine g_iaload_n (pc := 18) X dX9_work_18 rfl (by decide) (rfl) (by omega) ?_
        rw [show σ1.1 21 i = nI (opC (op i)) by rw [(hO.1 21 (by decide)).1]; exact hck]
        refine g_istore_6 (pc := 19) X dX9_work_19 (by decide) rfl ?_
        refine g_iload_6 (pc := 21) X dX9_work_21 ?_
        refine g_bipush (pc := 23) X dX9_work_23 kbipush_6 ?_
        first | refine g_icmp_gt_n (pc := 25) X dX9_work_25 (tgt := 69) (by decide) (by omega) (by omega) (fun h25 => ?_) (fun h25 => ?_) | refine g_icmp_gt (pc := 25) X dX9_work_25 (tgt := 69) (by decide) (fun h25 => ?_) (fun h25 => ?_)
        · have h6 : ¬ op i ≤ 6 := fun q => by have := hcl.2.1.mpr q; omega
          refine g_iload_6 (pc := 69) X dX9_work_69 ?_
          refine g_bipush (pc := 71) X dX9_work_71 kbipush_7 ?_
          first | refine g_icmp_ne_n (pc := 73) X dX9_work_73 (tgt := 105) (by decide) (by omega) (by omega) (fun h73 => ?_) (fun h73 => ?_) | refine g_icmp_ne (pc := 73) X dX9_work_73 (tgt := 105) (by decide) (fun h73 => ?_) (fun h73 => ?_)
          · have h18 : ¬ op i = 18 := fun q => by have := hcl.2.2.2.2.1.mpr q; omega
            obtain ⟨hl1, hrl, h17⟩ := ty1_bin hr1 h6 h18
            refine g_iload_4 (pc := 105) X dX9_work_105 ?_
            refine g_iconst (pc := 107) X dX9_work_107 kiconst_2 ?_
            first | refine g_icmp_lt_n (pc := 108) X dX9_work_108 (tgt := 146) (by decide) (by omega) (by omega) (fun h108 => ?_) (fun h108 => ?_) | refine g_icmp_lt (pc := 108) X dX9_work_108 (tgt := 146) (by decide) (fun h108 => ?_) (fun h108 => ?_)
            · omega
            · refine g_aload_0 (pc := 111) X dX9_work_111 ?_
              refine g_getRf (pc := 112) X dX9_work_112 fl_X9_27 rfl (by decide) rfl hR rfl ?_
              refine g_iload_4 (pc := 115) X dX9_work_115 ?_
              refine g_iconst (pc := 117) X dX9_work_117 kiconst_2 ?_
              refine g_isub_n (pc := 118) X dX9_work_118 (by omega) ?_
              refine g_iload_6 (pc := 119) X dX9_work_119 ?_
              rw [hcl.2.2.2.2.2 h6 h18]
              refine g_aload_0 (pc := 121) X dX9_work_121 ?_
              refine g_getRf (pc := 122) X dX9_work_122 fl_X9_27 rfl (by decide) rfl hR rfl ?_
              refine g_iload_4 (pc := 125) X dX9_work_125 ?_
              refine g_iconst (pc := 127) X dX9_work_127 kiconst_2 ?_
              refine g_isub_n (pc := 128) X dX9_work_128 (by omega) ?_
              refine g_iaload_n (pc := 129) X dX9_work_129 rfl (by decide) (rfl) (by omega) ?_
              refine g_aload_0 (pc := 130) X dX9_work_130 ?_
              refine g_getRf (pc := 131) X dX9_work_131 fl_X9_27 rfl (by decide) rfl hR rfl ?_
              refine g_iload_4 (pc := 134) X dX9_work_134 ?_
              refine g_iconst (pc := 136) X dX9_work_136 kiconst_1 ?_
              refine g_isub_n (pc := 137) X dX9_work_137 (by omega) ?_
              refine g_iaload_n (pc := 138) X dX9_work_138 rfl (by decide) (rfl) (by omega) ?_
              refine g_callS_I (pc := 139) X Y dX9_work_139 miX9_combine li_X9_75 (s_combine (σ := σ1) (op i) _ _ (by omega) h17) rfl ⟨Nat.le_of_ble_eq_true rfl, Nat.le_of_ble_eq_true rfl⟩ (Nat.le_of_ble_eq_true rfl) (Nat.le_of_ble_eq_true rfl) rfl (by exact Nat.le_of_ble_eq_true rfl) (fun x9 σ1 hp => ?_)
              obtain ⟨rfl, rfl⟩ := hp
              refine g_iastore_n (pc := 142) X dX9_work_142 rfl (by decide) (rfl) (by omega) ?_
              refine g_iinc_4 (pc := 143) (v := nI (ty.length - 1)) X dX9_work_143 (nI_dec (by omega)) (by decide) rfl ?_
              first | refine g_iinc_5_n (pc := 146) X dX9_work_146 (by decide) rfl ?_ | refine g_iinc_5 (pc := 146) X dX9_work_146 rfl (by decide) rfl ?_
              refine g_goto (pc := 149) X dX9_work_149 (tgt := 6) (by decide) ?_
              rw [← hrl]
              exact g_drop (by simp [lsub]) (ihhL (i + 1) (by omega) (by omega) (by omega) _ r (by omega) (hO.i (by simp)) hr2 (by rw [sI_k, hrl]; simpa [ex1, h6, h18] using hfin))
          · have h18 : op i = 18 := hcl.2.2.2.2.1.mp (by omega)
            obtain ⟨hl1, hrl⟩ := ty1_not hr1 h18
            refine g_iload_4 (pc := 76) X dX9_work_76 ?_
            refine g_iconst (pc := 78) X dX9_work_78 kiconst_1 ?_
            first | refine g_icmp_lt_n (pc := 79) X dX9_work_79 (tgt := 146) (by decide) (by omega) (by omega) (fun h79 => ?_) (fun h79 => ?_) | refine g_icmp_lt (pc := 79) X dX9_work_79 (tgt := 146) (by decide) (fun h79 => ?_) (fun h79 => ?_)
            · omega
            · refine g_aload_0 (pc := 82) X dX9_work_82 ?_
              refine g_getRf (pc := 83) X dX9_work_83 fl_X9_27 rfl (by decide) rfl hR rfl ?_
              refine g_iload_4 (pc := 86) X dX9_work_86 ?_
              refine g_iconst (pc := 88) X dX9_work_88 kiconst_1 ?_
              refine g_isub_n (pc := 89) X dX9_work_89 (by omega) ?_
              refine g_iconst (pc := 90) X dX9_work_90 kiconst_1 ?_
              refine g_aload_0 (pc := 91) X dX9_work_91 ?_
              refine g_getRf (pc := 92) X dX9_work_92 fl_X9_27 rfl (by decide) rfl hR rfl ?_
              refine g_iload_4 (pc := 95) X dX9_work_95 ?_
              refine g_iconst (pc := 97) X dX9_work_97 kiconst_1 ?_
              refine g_isub_n (pc := 98) X dX9_work_98 (by omega) ?_
              refine g_iaload_n (pc := 99) X dX9_work_99 rfl (by decide) (rfl) (by omega) ?_
              refine g_isub (pc := 100) X dX9_work_100 ?_
              refine g_iastore_n (pc := 101) X dX9_work_101 rfl (by decide) (rfl) (by omega) ?_
              refine g_goto (pc := 102) X dX9_work_102 (tgt := 146) (by decide) ?_
              refine g_iinc_5_n (pc := 146) X dX9_work_146 (by decide) rfl ?_
              refine g_goto (pc := 149) X dX9_work_149 (tgt := 6) (by decide) ?_
              rw [← hrl]
              exact g_drop (by simp [lsub]) (ihhL (i + 1) (by omega) (by omega) (by omega) _ r (by omega) (hO.i (by simp)) hr2 (by rw [sI_k, hrl]; simpa [ex1, h6, h18] using hfin))
        · have h6 : op i ≤ 6 := hcl.2.1.mp (by omega)
          obtain ⟨hlt60, rfl⟩ := ty1_push hr1 h6
          refine g_iload_4 (pc := 28) X dX9_work_28 ?_
          refine g_bipush (pc := 30) X dX9_work_30 kbipush_64 ?_
          first | refine g_icmp_ge_n (pc := 32) X dX9_work_32 (tgt := 146) (by decide) (by omega) (by omega) (fun h32 => ?_) (fun h32 => ?_) | refine g_icmp_ge (pc := 32) X dX9_work_32 (tgt := 146) (by decide) (fun h32 => ?_) (fun h32 => ?_)
          · omega
          · refine g_aload_0 (pc := 35) X dX9_work_35 ?_
            refine g_getRf (pc := 36) X dX9_work_36 fl_X9_27 rfl (by decide) rfl hR rfl ?_
            refine g_iload_4 (pc := 39) X dX9_work_39 ?_
            refine g_iload_6 (pc := 41) X dX9_work_41 ?_
            apply g_val (v := .int (if op i = 0 then num i else F (op i))) (pcJ := 62)
            · intro T9
              refine g_bipush (pc := 43) X dX9_work_43 kbipush_6 ?_
              first | refine g_icmp_ge_n (pc := 45) X dX9_work_45 (tgt := 55) (by decide) (by omega) (by omega) (fun h45 => ?_) (fun h45 => ?_) | refine g_icmp_ge (pc := 45) X dX9_work_45 (tgt := 55) (by decide) (fun h45 => ?_) (fun h45 => ?_)
              · refine g_aload_0 (pc := 55) X dX9_work_55 ?_
                refine g_getRf (pc := 56) X dX9_work_56 fl_X9_24 rfl (by decide) rfl hR rfl ?_
                refine g_iload_5 (pc := 59) X dX9_work_59 ?_
                refine g_iaload_n (pc := 61) X dX9_work_61 rfl (by decide) (rfl) (by omega) ?_
                have h0 : op i = 0 := by have := hcl.2.2.1; omega
                rw [show σ1.1 22 i = num i by rw [(hO.1 22 (by decide)).1]; exact hnm]
                exact T9 _ (by simp_all)
              · refine g_aload_3 (pc := 48) X dX9_work_48 ?_
                refine g_iload_6 (pc := 49) X dX9_work_49 ?_
                refine g_iaload_n (pc := 51) X dX9_work_51 rfl (by decide) (rfl) (by omega) ?_
                have h0 : ¬ op i = 0 := by have := hcl.2.2.1.mp h45; omega
                rw [show σ1.1 29 (opC (op i)) = F (op i) by rw [(hO.1 29 (by decide)).1, hc.2 _ h45, hcl.2.2.2.1 (by omega) h6]]
                refine g_goto (pc := 52) X dX9_work_52 (tgt := 62) (by decide) ?_
                exact T9 _ (by simp_all)
            · refine g_iastore_n (pc := 62) X dX9_work_62 rfl (by decide) (rfl) (by omega) ?_
              first | refine g_iinc_4_n (pc := 63) X dX9_work_63 (by decide) rfl ?_ | refine g_iinc_4 (pc := 63) X dX9_work_63 rfl (by decide) rfl ?_
              refine g_goto (pc := 66) X dX9_work_66 (tgt := 146) (by decide) ?_
              refine g_iinc_5_n (pc := 146) X dX9_work_146 (by decide) rfl ?_
              refine g_goto (pc := 149) X dX9_work_149 (tgt := 6) (by decide) ?_
              exact g_drop (by simp [lsub]) (ihhL (i + 1) (by omega) (by omega) (by omega) _ (false :: ty) (by simp; omega) (hO.i (by simp)) hr2 (by rw [sI_k]; simpa [ex1, h6] using hfin))
  refine g_iconst (pc := 0) X dX9_work_0 kiconst_0 ?_
  refine g_istore_4 (pc := 1) X dX9_work_1 (by decide) rfl ?_
  refine g_iload_1 (pc := 3) X dX9_work_3 ?_
  refine g_istore_5 (pc := 4) X dX9_work_4 (by decide) rfl ?_
  exact hL (t + 1) f hft (by omega) (Nat.le_refl _) σ [] (by simp) Off.rf hw rfl
