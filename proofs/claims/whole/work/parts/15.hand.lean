/-! HAND -/
/-- the least number of i's heap -/
def lst (h : Nat → Nat) (i : Nat) : Nat := fa_first (fun j => decide (h j = h i)) i
theorem fst_yes {h : Nat → Nat} {v n : Nat} (hlt : fa_first (fun j => decide (h j = v)) n < n) : h (fa_first (fun j => decide (h j = v)) n) = v := by
  have := fa_first_yes (fun j => decide (h j = v)) n hlt
  simpa using this
theorem m1_ne {n : Nat} (hn : n < 1000) : ¬ nI n = (-1 : Int32) := by
  intro q
  have h1 := nI_pos (n := n) (by omega)
  rw [q] at h1
  exact h1 (by decide)
set_option maxHeartbeats 4000000 in
theorem s_renumber {o : gOm} {l : Launch} {σ : gSt} {b : Bool} (hR : σ.2.2 = gRf b) (N : Nat) (hN : N ≤ 30) (hsz : σ.1 33 1 = nI N) (h : Nat → Nat) (hh : ∀ i, i < N → σ.1 34 i = nI (h i)) (hb : ∀ i, i < N → h i ≤ 30)  : Sp o l mX2_renumber 2 0 0 [.ref (ad o 33)] 116 116 σ (pV (fun σ1 => Off [34, 35] σ σ1 ∧ ∀ j, σ1.1 34 j = if j < N then nI (lst h j) else σ.1 34 j)) := by
  refine Sp.of (ls0 := [some (.ref (ad o 33)), none, none]) miX2_renumber rfl (Nat.le_of_ble_eq_true rfl) rfl (fun γ hγ hnm X Y => ?_)
  subst hγ
  have X : gX o γ cX2_renumber 3 RX2 := X
  have hL : ∀ (m i : Nat), i ≤ N → N + 1 ≤ i + m → ∀ σ1 : gSt, Off [34, 35] σ σ1 → (∀ j, σ1.1 34 j = if j < i then nI (lst h j) else σ.1 34 j) → (∀ v, v < 31 → σ1.1 35 v = if fa_first (fun j => decide (h j = v)) i < i then nI (fa_first (fun j => decide (h j = v)) i) else -1) → G o γ 0 0 116 σ1 10 [some (.ref (ad o 33)), some (.int (nI i)), none] [] := by
    intro m
    induction m with
    | zero => intro i q1 q2; omega
    | succ m ihhL =>
      intro i q1 q2 σ1 hO h2 h3
      have hR := hO.2.trans hR
      refine g_iload_1 (pc := 10) X dX2_renumber_10 ?_
      refine g_aload_0 (pc := 11) X dX2_renumber_11 ?_
      refine g_getI (pc := 12) X dX2_renumber_12 rfl (by decide) fl_X2_32 (Or.inl rfl) ?_
      rw [show σ1.1 33 1 = nI N by rw [(hO.1 33 (by decide)).1]; exact hsz]
      first | refine g_icmp_ge_n (pc := 15) X dX2_renumber_15 (tgt := 60) (by decide) (by omega) (by omega) (fun h15 => ?_) (fun h15 => ?_) | refine g_icmp_ge (pc := 15) X dX2_renumber_15 (tgt := 60) (by decide) (fun h15 => ?_) (fun h15 => ?_)
      · exact g_return (pc := 60) X Y dX2_renumber_60 (Nat.le_of_ble_eq_true rfl) (Nat.le_of_ble_eq_true rfl) (by obtain rfl : i = N := (by omega); exact ⟨rfl, hO, h2⟩)
      · have hbi := hb i h15
        have hfle := fa_first_le (fun j => decide (h j = h i)) i
        refine g_aload_0 (pc := 18) X dX2_renumber_18 ?_
        refine g_getRf (pc := 19) X dX2_renumber_19 fl_X2_9 rfl (by decide) rfl hR rfl ?_
        refine g_iload_1 (pc := 22) X dX2_renumber_22 ?_
        refine g_iaload_n (pc := 23) X dX2_renumber_23 rfl (by decide) (rfl) (by omega) ?_
        rw [show σ1.1 34 i = nI (h i) by rw [h2 i, if_neg (by omega)]; exact hh i h15]
        refine g_istore_2 (pc := 24) X dX2_renumber_24 (by decide) rfl ?_
        refine g_aload_0 (pc := 25) X dX2_renumber_25 ?_
        refine g_getRf (pc := 26) X dX2_renumber_26 fl_X2_15 rfl (by decide) rfl hR rfl ?_
        refine g_iload_2 (pc := 29) X dX2_renumber_29 ?_
        refine g_iaload_n (pc := 30) X dX2_renumber_30 rfl (by decide) (rfl) (by omega) ?_
        refine g_iconst (pc := 31) X dX2_renumber_31 kiconst_m1 ?_
        refine g_icmp_ne (pc := 32) X dX2_renumber_32 (tgt := 42) (by decide) (fun h32 => ?_) (fun h32 => ?_)
        · have hf : fa_first (fun j => decide (h j = h i)) i < i := by
            have := h3 (h i) (by omega)
            rw [this] at h32
            by_cases q : fa_first (fun j => decide (h j = h i)) i < i
            · exact q
            · rw [if_neg q] at h32; exact absurd rfl h32
          refine g_aload_0 (pc := 42) X dX2_renumber_42 ?_
          refine g_getRf (pc := 43) X dX2_renumber_43 fl_X2_9 rfl (by decide) rfl hR rfl ?_
          refine g_iload_1 (pc := 46) X dX2_renumber_46 ?_
          refine g_aload_0 (pc := 47) X dX2_renumber_47 ?_
          refine g_getRf (pc := 48) X dX2_renumber_48 fl_X2_15 rfl (by decide) rfl hR rfl ?_
          refine g_iload_2 (pc := 51) X dX2_renumber_51 ?_
          refine g_iaload_n (pc := 52) X dX2_renumber_52 rfl (by decide) (rfl) (by omega) ?_
          refine g_iastore_n (pc := 53) X dX2_renumber_53 rfl (by decide) (rfl) (by omega) ?_
          refine g_iinc_1_n (pc := 54) X dX2_renumber_54 (by decide) rfl ?_
          refine g_goto (pc := 57) X dX2_renumber_57 (tgt := 10) (by decide) ?_
          first
          | (have hl : lst h i = fa_first (fun j => decide (h j = h i)) i := rfl
             refine g_drop (by simp [lsub]) (ihhL (i + 1) (by omega) (by omega) _ (hO.i (by simp)) (fun j => ?_) (fun v hv => ?_))
             · rw [sI_get]
               by_cases e : j = i
               · rw [if_pos ⟨rfl, e⟩, e, if_pos (by omega), hl, h3 (h i) (by omega), if_pos hf]
               · rw [if_neg (by simp [e]), h2 j]
                 have : (j < i + 1) = (j < i) := by simp; omega
                 simp [this]
             · rw [sI_get, if_neg (by simp), h3 v hv, fa_first]
               by_cases e : h i = v
               · subst e
                 simp [hf]
                 omega
               · by_cases q : fa_first (fun j => decide (h j = v)) i < i
                 · simp [q]; omega
                 · simp [q, e])
          | (refine g_drop (by simp [lsub]) (ihhL (i + 1) (by omega) (by omega) _ ((hO.i (k := 35) (by simp)).i (by simp)) (fun j => ?_) (fun v hv => ?_))
             · rw [sI_get]
               by_cases e : j = i
               · rw [if_pos ⟨rfl, e⟩, e, if_pos (by omega), sI_get, if_pos ⟨rfl, rfl⟩, lst, hf]
               · rw [if_neg (by simp [e]), sI_get, if_neg (by simp), h2 j]
                 have : (j < i + 1) = (j < i) := by simp; omega
                 simp [this]
             · rw [sI_get, if_neg (by simp), sI_get, fa_first]
               by_cases e : v = h i
               · subst e
                 simp [hf]
               · rw [if_neg (by simp [e]), h3 v hv]
                 by_cases q : fa_first (fun j => decide (h j = v)) i < i
                 · simp [q]; omega
                 · have e2 : ¬ h i = v := fun q => e q.symm
                   simp [q, e2])
        · have hf : fa_first (fun j => decide (h j = h i)) i = i := by
            have := h3 (h i) (by omega)
            rw [this] at h32
            by_cases q : fa_first (fun j => decide (h j = h i)) i < i
            · rw [if_pos q] at h32; exact absurd h32 (m1_ne (by omega))
            · omega
          refine g_aload_0 (pc := 35) X dX2_renumber_35 ?_
          refine g_getRf (pc := 36) X dX2_renumber_36 fl_X2_15 rfl (by decide) rfl hR rfl ?_
          refine g_iload_2 (pc := 39) X dX2_renumber_39 ?_
          refine g_iload_1 (pc := 40) X dX2_renumber_40 ?_
          refine g_iastore_n (pc := 41) X dX2_renumber_41 rfl (by decide) (rfl) (by omega) ?_
          refine g_aload_0 (pc := 42) X dX2_renumber_42 ?_
          refine g_getRf (pc := 43) X dX2_renumber_43 fl_X2_9 rfl (by decide) rfl hR rfl ?_
          refine g_iload_1 (pc := 46) X dX2_renumber_46 ?_
          refine g_aload_0 (pc := 47) X dX2_renumber_47 ?_
          refine g_getRf (pc := 48) X dX2_renumber_48 fl_X2_15 rfl (by decide) rfl hR rfl ?_
          refine g_iload_2 (pc := 51) X dX2_renumber_51 ?_
          refine g_iaload_n (pc := 52) X dX2_renumber_52 rfl (by decide) (rfl) (by omega) ?_
          refine g_iastore_n (pc := 53) X dX2_renumber_53 rfl (by decide) (rfl) (by omega) ?_
          refine g_iinc_1_n (pc := 54) X dX2_renumber_54 (by decide) rfl ?_
          refine g_goto (pc := 57) X dX2_renumber_57 (tgt := 10) (by decide) ?_
          first
          | (have hl : lst h i = fa_first (fun j => decide (h j = h i)) i := rfl
             refine g_drop (by simp [lsub]) (ihhL (i + 1) (by omega) (by omega) _ (hO.i (by simp)) (fun j => ?_) (fun v hv => ?_))
             · rw [sI_get]
               by_cases e : j = i
               · rw [if_pos ⟨rfl, e⟩, e, if_pos (by omega), hl, h3 (h i) (by omega), if_pos hf]
               · rw [if_neg (by simp [e]), h2 j]
                 have : (j < i + 1) = (j < i) := by simp; omega
                 simp [this]
             · rw [sI_get, if_neg (by simp), h3 v hv, fa_first]
               by_cases e : h i = v
               · subst e
                 simp [hf]
                 omega
               · by_cases q : fa_first (fun j => decide (h j = v)) i < i
                 · simp [q]; omega
                 · simp [q, e])
          | (refine g_drop (by simp [lsub]) (ihhL (i + 1) (by omega) (by omega) _ ((hO.i (k := 35) (by simp)).i (by simp)) (fun j => ?_) (fun v hv => ?_))
             · rw [sI_get]
               by_cases e : j = i
               · rw [if_pos ⟨rfl, e⟩, e, if_pos (by omega), sI_get, if_pos ⟨rfl, rfl⟩, lst, hf]
               · rw [if_neg (by simp [e]), sI_get, if_neg (by simp), h2 j]
                 have : (j < i + 1) = (j < i) := by simp; omega
                 simp [this]
             · rw [sI_get, if_neg (by simp), sI_get, fa_first]
               by_cases e : v = h i
               · subst e
                 simp [hf]
               · rw [if_neg (by simp [e]), h3 v hv]
                 by_cases q : fa_first (fun j => decide (h j = v)) i < i
                 · simp [q]; omega
                 · have e2 : ¬ h i = v := fun q => e q.symm
                   simp [q, e2])
  refine g_aload_0 (pc := 0) X dX2_renumber_0 ?_
  refine g_getRf (pc := 1) X dX2_renumber_1 fl_X2_15 rfl (by decide) rfl hR rfl ?_
  refine g_iconst (pc := 4) X dX2_renumber_4 kiconst_m1 ?_
  refine g_callS_V (pc := 5) X Y dX2_renumber_5 miJ7_fill_53178 li_X2_36 (s_fill (-1) (by decide) rfl) rfl ⟨Nat.le_of_ble_eq_true rfl, Nat.le_of_ble_eq_true rfl⟩ (Nat.le_of_ble_eq_true rfl) (Nat.le_of_ble_eq_true rfl) rfl (by exact Nat.le_of_ble_eq_true rfl) (fun σ1 hp => ?_)
  obtain ⟨hO, hf⟩ := hp
  refine g_iconst (pc := 8) X dX2_renumber_8 kiconst_0 ?_
  refine g_istore_1 (pc := 9) X dX2_renumber_9 (by decide) rfl ?_
  exact g_drop (by simp [lsub]) (hL (N + 1) 0 (by omega) (by omega) σ1 (hO.mono (by simp)) (fun j => by rw [(hO.1 34 (by decide)).1]; simp) (fun v hv => by rw [hf v, if_pos hv]; simp [fa_first]))
set_option maxHeartbeats 4000000 in
theorem s_maskOfHeap {o : gOm} {l : Launch} {σ : gSt} {b : Bool} (hR : σ.2.2 = gRf b) (N : Nat) (hN : N ≤ 30) (hsz : σ.1 33 1 = nI N) (h : Nat → Nat) (hh : ∀ i, i < N → σ.1 34 i = nI (h i)) (hb : ∀ i, i < N → h i ≤ 30) (g : Nat) (hg : g ≤ 30) : Sp o l mX2_maskOfHeap 1 0 0 [.ref (ad o 33), .int (nI g)] 116 116 σ (pI (fun x σ1 => x = orBits (fun i => decide (h i = g)) N ∧ σ = σ1)) := by
  refine Sp.of (ls0 := [some (.ref (ad o 33)), some (.int (nI g)), none, none]) miX2_maskOfHeap rfl (Nat.le_of_ble_eq_true rfl) rfl (fun γ hγ hnm X Y => ?_)
  subst hγ
  have X : gX o γ cX2_maskOfHeap 4 RX2 := X
  have hL : ∀ (m i : Nat), i ≤ N → N + 1 ≤ i + m → G o γ 0 0 116 σ 4 [some (.ref (ad o 33)), some (.int (nI g)), some (.int (orBits (fun i => decide (h i = g)) i)), some (.int (nI i))] [] := by
    intro m
    induction m with
    | zero => intro i q1 q2; omega
    | succ m ihhL =>
      intro i q1 q2 
      refine g_iload_3 (pc := 4) X dX2_maskOfHeap_4 ?_
      refine g_aload_0 (pc := 5) X dX2_maskOfHeap_5 ?_
      refine g_getI (pc := 6) X dX2_maskOfHeap_6 rfl (by decide) fl_X2_32 (Or.inl rfl) ?_
      rw [hsz]
      first | refine g_icmp_ge_n (pc := 9) X dX2_maskOfHeap_9 (tgt := 34) (by decide) (by omega) (by omega) (fun h9 => ?_) (fun h9 => ?_) | refine g_icmp_ge (pc := 9) X dX2_maskOfHeap_9 (tgt := 34) (by decide) (fun h9 => ?_) (fun h9 => ?_)
      · refine g_iload_2 (pc := 34) X dX2_maskOfHeap_34 ?_
        exact g_ireturn (pc := 35) X Y dX2_maskOfHeap_35 (Nat.le_of_ble_eq_true rfl) (Nat.le_of_ble_eq_true rfl) (by obtain rfl : i = N := (by omega); exact ⟨_, rfl, rfl, rfl⟩)
      · have hbi := hb i h9
        refine g_aload_0 (pc := 12) X dX2_maskOfHeap_12 ?_
        refine g_getRf (pc := 13) X dX2_maskOfHeap_13 fl_X2_9 rfl (by decide) rfl hR rfl ?_
        refine g_iload_3 (pc := 16) X dX2_maskOfHeap_16 ?_
        refine g_iaload_n (pc := 17) X dX2_maskOfHeap_17 rfl (by decide) (rfl) (by omega) ?_
        rw [hh i h9]
        refine g_iload_1 (pc := 18) X dX2_maskOfHeap_18 ?_
        first | refine g_icmp_ne_n (pc := 19) X dX2_maskOfHeap_19 (tgt := 28) (by decide) (by omega) (by omega) (fun h19 => ?_) (fun h19 => ?_) | refine g_icmp_ne (pc := 19) X dX2_maskOfHeap_19 (tgt := 28) (by decide) (fun h19 => ?_) (fun h19 => ?_)
        · refine g_iinc_3_n (pc := 28) X dX2_maskOfHeap_28 (by decide) rfl ?_
          refine g_goto (pc := 31) X dX2_maskOfHeap_31 (tgt := 4) (by decide) ?_
          have w := ihhL (i + 1) (by omega) (by omega)
          rw [orBits, if_neg (by simp [h19])] at w
          exact w
        · refine g_iload_2 (pc := 22) X dX2_maskOfHeap_22 ?_
          refine g_iconst (pc := 23) X dX2_maskOfHeap_23 kiconst_1 ?_
          refine g_iload_3 (pc := 24) X dX2_maskOfHeap_24 ?_
          refine g_ishl (pc := 25) X dX2_maskOfHeap_25 ?_
          refine g_ior (pc := 26) X dX2_maskOfHeap_26 ?_
          refine g_istore_2 (pc := 27) X dX2_maskOfHeap_27 (by decide) rfl ?_
          first | refine g_iinc_3_n (pc := 28) X dX2_maskOfHeap_28 (by decide) rfl ?_ | refine g_iinc_3 (pc := 28) X dX2_maskOfHeap_28 rfl (by decide) rfl ?_
          refine g_goto (pc := 31) X dX2_maskOfHeap_31 (tgt := 4) (by decide) ?_
          have w := ihhL (i + 1) (by omega) (by omega)
          rw [orBits, if_pos (by simp [h19])] at w
          exact w
  refine g_iconst (pc := 0) X dX2_maskOfHeap_0 kiconst_0 ?_
  refine g_istore_2 (pc := 1) X dX2_maskOfHeap_1 (by decide) rfl ?_
  refine g_iconst (pc := 2) X dX2_maskOfHeap_2 kiconst_0 ?_
  refine g_istore_3 (pc := 3) X dX2_maskOfHeap_3 (by decide) rfl ?_
  exact hL (N + 1) 0 (by omega) (by omega)
