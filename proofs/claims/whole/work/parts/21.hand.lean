set_option maxHeartbeats 4000000 in
theorem s_welcome {o : gOm} {l : Launch} {σ : gSt} {b : Bool} (hR : σ.2.2 = gRf b) {N : Nat} (hN : N ≤ 30) (hsz : σ.1 33 1 = nI N) (hN2 : N < 30) : Sp o l mX2_welcome 1 0 0 [.ref (ad o 33)] 116 116 σ (pV (fun σ1 => Off [33, 34] σ σ1 ∧ σ1.1 33 1 = nI (N + 1) ∧ (∀ j, j ≠ 1 → σ1.1 33 j = σ.1 33 j) ∧ ∀ j, σ1.1 34 j = if j = N then nI N else σ.1 34 j)) := by
  refine Sp.of (ls0 := [some (.ref (ad o 33))]) miX2_welcome rfl (Nat.le_of_ble_eq_true rfl) rfl (fun γ hγ hnm X Y => ?_)
  subst hγ
  have X : gX o γ cX2_welcome 1 RX2 := X
  refine g_aload_0 (pc := 0) X dX2_welcome_0 ?_
  refine g_getRf (pc := 1) X dX2_welcome_1 fl_X2_9 rfl (by decide) rfl hR rfl ?_
  refine g_aload_0 (pc := 4) X dX2_welcome_4 ?_
  refine g_getI (pc := 5) X dX2_welcome_5 rfl (by decide) fl_X2_32 (Or.inl rfl) ?_
  rw [hsz]
  refine g_aload_0 (pc := 8) X dX2_welcome_8 ?_
  refine g_getI (pc := 9) X dX2_welcome_9 rfl (by decide) fl_X2_32 (Or.inl rfl) ?_
  rw [hsz]
  refine g_iastore_n (pc := 12) X dX2_welcome_12 rfl (by decide) (rfl) (by omega) ?_
  refine g_aload_0 (pc := 13) X dX2_welcome_13 ?_
  refine g_dup (pc := 14) X dX2_welcome_14 rfl ?_
  refine g_getI (pc := 15) X dX2_welcome_15 rfl (by decide) fl_X2_32 (Or.inl rfl) ?_
  rw [sI_get, if_neg (by simp), hsz]
  refine g_iconst (pc := 18) X dX2_welcome_18 kiconst_1 ?_
  first | refine g_iadd_n (pc := 19) X dX2_welcome_19 ?_ | refine g_iadd (pc := 19) X dX2_welcome_19 ?_
  refine g_putI (pc := 20) X dX2_welcome_20 fl_X2_32 rfl (by decide) rfl rfl ?_
  exact g_return (pc := 23) X Y dX2_welcome_23 (Nat.le_of_ble_eq_true rfl) (Nat.le_of_ble_eq_true rfl) ⟨rfl, (Off.rf.i (by simp)).i (by simp), by rw [sI_get, if_pos ⟨rfl, rfl⟩], fun j hj => by rw [sI_get, if_neg (by simp [hj]), sI_get, if_neg (by simp)], fun j => by rw [sI_get, if_neg (by simp), sI_get]; simp⟩
set_option maxHeartbeats 4000000 in
theorem s_isAlone {o : gOm} {l : Launch} {σ : gSt} {b : Bool} (hR : σ.2.2 = gRf b) {N : Nat} (hN : N ≤ 30) (hsz : σ.1 33 1 = nI N) {h : Nat → Nat} (hh : ∀ i, i < N → σ.1 34 i = nI (h i)) (hb : ∀ i, i < N → h i ≤ 30) (e : Nat) (he : e < N) : Sp o l mX2_isAlone 2 0 0 [.ref (ad o 33), .int (nI e)] 116 116 σ (pI (fun x σ1 => x = (zI (decide (orBits (fun i => decide (h i = h e)) N = nI 1 <<< (nI e &&& 31)))) ∧ σ = σ1)) := by
  refine Sp.of (ls0 := [some (.ref (ad o 33)), some (.int (nI e))]) miX2_isAlone rfl (Nat.le_of_ble_eq_true rfl) rfl (fun γ hγ hnm X Y => ?_)
  subst hγ
  have X : gX o γ cX2_isAlone 2 RX2 := X
  refine g_aload_0 (pc := 0) X dX2_isAlone_0 ?_
  refine g_aload_0 (pc := 1) X dX2_isAlone_1 ?_
  refine g_getRf (pc := 2) X dX2_isAlone_2 fl_X2_9 rfl (by decide) rfl hR rfl ?_
  refine g_iload_1 (pc := 5) X dX2_isAlone_5 ?_
  refine g_iaload_n (pc := 6) X dX2_isAlone_6 rfl (by decide) (rfl) (by omega) ?_
  rw [hh e he]
  refine g_callV_I (pc := 7) X Y dX2_isAlone_7 miX2_maskOfHeap li_X2_42 (s_maskOfHeap hR N hN hsz h hh hb (h e) (hb e he)) rfl (by decide) rfl ⟨_, rfl⟩ rfl ⟨Nat.le_of_ble_eq_true rfl, Nat.le_of_ble_eq_true rfl⟩ (Nat.le_of_ble_eq_true rfl) (Nat.le_of_ble_eq_true rfl) rfl (by exact Nat.le_of_ble_eq_true rfl) (fun x9 σ1 hp => ?_)
  obtain ⟨rfl, rfl⟩ := hp
  refine g_iconst (pc := 10) X dX2_isAlone_10 kiconst_1 ?_
  refine g_iload_1 (pc := 11) X dX2_isAlone_11 ?_
  refine g_ishl (pc := 12) X dX2_isAlone_12 ?_
  refine g_icmp_ne (pc := 13) X dX2_isAlone_13 (tgt := 20) (by decide) (fun h13 => ?_) (fun h13 => ?_)
  · refine g_iconst (pc := 20) X dX2_isAlone_20 kiconst_0 ?_
    exact g_zreturn (pc := 21) X Y dX2_isAlone_21 (by first | exact Or.inl rfl | exact Or.inr rfl | exact zI_01 _) (Nat.le_of_ble_eq_true rfl) (Nat.le_of_ble_eq_true rfl) (⟨_, rfl, by simp_all [zI], rfl⟩)
  · refine g_iconst (pc := 16) X dX2_isAlone_16 kiconst_1 ?_
    refine g_goto (pc := 17) X dX2_isAlone_17 (tgt := 21) (by decide) ?_
    exact g_zreturn (pc := 21) X Y dX2_isAlone_21 (by first | exact Or.inl rfl | exact Or.inr rfl | exact zI_01 _) (Nat.le_of_ble_eq_true rfl) (Nat.le_of_ble_eq_true rfl) (⟨_, rfl, by simp_all [zI], rfl⟩)
set_option maxHeartbeats 4000000 in
theorem s_moveTo {o : gOm} {l : Launch} {σ : gSt} {b : Bool} (hR : σ.2.2 = gRf b) {N : Nat} (hN : N ≤ 30) (hsz : σ.1 33 1 = nI N) {h : Nat → Nat} (hh : ∀ i, i < N → σ.1 34 i = nI (h i)) (hb : ∀ i, i < N → h i ≤ 30) (e g : Nat) (he : e < N) (hg : g ≤ 30) : Sp o l mX2_moveTo 3 0 0 [.ref (ad o 33), .int (nI e), .int (nI g)] 116 116 σ (pV (fun σ1 => Off [34, 35] σ σ1 ∧ ∀ j, σ1.1 34 j = if j < N then nI (lst (fun i => if i = e then g else h i) j) else σ.1 34 j)) := by
  refine Sp.of (ls0 := [some (.ref (ad o 33)), some (.int (nI e)), some (.int (nI g))]) miX2_moveTo rfl (Nat.le_of_ble_eq_true rfl) rfl (fun γ hγ hnm X Y => ?_)
  subst hγ
  have X : gX o γ cX2_moveTo 3 RX2 := X
  refine g_aload_0 (pc := 0) X dX2_moveTo_0 ?_
  refine g_getRf (pc := 1) X dX2_moveTo_1 fl_X2_9 rfl (by decide) rfl hR rfl ?_
  refine g_iload_1 (pc := 4) X dX2_moveTo_4 ?_
  refine g_iload_2 (pc := 5) X dX2_moveTo_5 ?_
  refine g_iastore_n (pc := 6) X dX2_moveTo_6 rfl (by decide) (rfl) (by omega) ?_
  refine g_aload_0 (pc := 7) X dX2_moveTo_7 ?_
  refine g_callV_V (pc := 8) X Y dX2_moveTo_8 miX2_renumber li_X2_46 (s_renumber (σ := sI σ 34 e (nI g)) hR N hN (by rw [sI_get, if_neg (by simp)]; exact hsz) (fun i => if i = e then g else h i) (fun i hi => by rw [sI_get]; by_cases z : i = e <;> simp [z, hh i hi]) (fun i hi => by by_cases z : i = e <;> simp [z, hg, hb i hi])) rfl (by decide) rfl ⟨_, rfl⟩ rfl ⟨Nat.le_of_ble_eq_true rfl, Nat.le_of_ble_eq_true rfl⟩ (Nat.le_of_ble_eq_true rfl) (Nat.le_of_ble_eq_true rfl) rfl (by exact Nat.le_of_ble_eq_true rfl) (fun σ1 hp => ?_)
  obtain ⟨hO, hv⟩ := hp
  exact g_return (pc := 11) X Y dX2_moveTo_11 (Nat.le_of_ble_eq_true rfl) (Nat.le_of_ble_eq_true rfl) ⟨rfl, (Off.rf.i (by simp)).trans hO, fun j => by rw [hv j]; by_cases z : j < N; simp [z]; rw [if_neg z, if_neg z, sI_get, if_neg (by omega)]⟩
set_option maxHeartbeats 4000000 in
theorem s_moveOut {o : gOm} {l : Launch} {σ : gSt} {b : Bool} (hR : σ.2.2 = gRf b) {N : Nat} (hN : N ≤ 30) (hsz : σ.1 33 1 = nI N) {h : Nat → Nat} (hh : ∀ i, i < N → σ.1 34 i = nI (h i)) (hb : ∀ i, i < N → h i ≤ 30) (e : Nat) (he : e < N) : Sp o l mX2_moveOut 4 0 0 [.ref (ad o 33), .int (nI e)] 116 116 σ (pV (fun σ1 => Off [34, 35] σ σ1 ∧ ∀ j, σ1.1 34 j = if j < N then nI (lst (fun i => if i = e then 30 else h i) j) else σ.1 34 j)) := by
  refine Sp.of (ls0 := [some (.ref (ad o 33)), some (.int (nI e))]) miX2_moveOut rfl (Nat.le_of_ble_eq_true rfl) rfl (fun γ hγ hnm X Y => ?_)
  subst hγ
  have X : gX o γ cX2_moveOut 2 RX2 := X
  refine g_aload_0 (pc := 0) X dX2_moveOut_0 ?_
  refine g_iload_1 (pc := 1) X dX2_moveOut_1 ?_
  refine g_bipush (pc := 2) X dX2_moveOut_2 kbipush_30 ?_
  refine g_callV_V (pc := 4) X Y dX2_moveOut_4 miX2_moveTo li_X2_49 (s_moveTo hR hN hsz hh hb e 30 he (by decide)) rfl (by decide) rfl ⟨_, rfl⟩ rfl ⟨Nat.le_of_ble_eq_true rfl, Nat.le_of_ble_eq_true rfl⟩ (Nat.le_of_ble_eq_true rfl) (Nat.le_of_ble_eq_true rfl) rfl (by exact Nat.le_of_ble_eq_true rfl) (fun σ1 hp => ?_)
  obtain ⟨hO, hv⟩ := hp
  exact g_return (pc := 7) X Y dX2_moveOut_7 (Nat.le_of_ble_eq_true rfl) (Nat.le_of_ble_eq_true rfl) (⟨rfl, hO, hv⟩)
set_option maxHeartbeats 4000000 in
theorem s_unite {o : gOm} {l : Launch} {σ : gSt} {b : Bool} (hR : σ.2.2 = gRf b) {N : Nat} (hN : N ≤ 30) (hsz : σ.1 33 1 = nI N) {h : Nat → Nat} (hh : ∀ i, i < N → σ.1 34 i = nI (h i)) (hb : ∀ i, i < N → h i ≤ 30) (x y : Nat) (hx : x ≤ 30) (hy : y ≤ 30) : Sp o l mX2_unite 3 0 0 [.ref (ad o 33), .int (nI x), .int (nI y)] 116 116 σ (pV (fun σ1 => Off [34, 35] σ σ1 ∧ ∀ j, σ1.1 34 j = if j < N then nI (lst (fun i => if h i = y then x else h i) j) else σ.1 34 j)) := by
  refine Sp.of (ls0 := [some (.ref (ad o 33)), some (.int (nI x)), some (.int (nI y)), none]) miX2_unite rfl (Nat.le_of_ble_eq_true rfl) rfl (fun γ hγ hnm X Y => ?_)
  subst hγ
  have X : gX o γ cX2_unite 4 RX2 := X
  have hL : ∀ (m i : Nat), i ≤ N → N + 1 ≤ i + m → ∀ σ1 : gSt, Off [34] σ σ1 → (∀ j, σ1.1 34 j = if j < i then nI (if h j = y then x else h j) else σ.1 34 j) → G o γ 0 0 116 σ1 2 [some (.ref (ad o 33)), some (.int (nI x)), some (.int (nI y)), some (.int (nI i))] [] := by
    intro m
    induction m with
    | zero => intro i q1 q2; omega
    | succ m ihhL =>
      intro i q1 q2 σ1 hO hv
      have hR := hO.2.trans hR
      refine g_iload_3 (pc := 2) X dX2_unite_2 ?_
      refine g_aload_0 (pc := 3) X dX2_unite_3 ?_
      refine g_getI (pc := 4) X dX2_unite_4 rfl (by decide) fl_X2_32 (Or.inl rfl) ?_
      rw [show σ1.1 33 1 = nI N by rw [(hO.1 33 (by decide)).1]; exact hsz]
      first | refine g_icmp_ge_n (pc := 7) X dX2_unite_7 (tgt := 33) (by decide) (by omega) (by omega) (fun h7 => ?_) (fun h7 => ?_) | refine g_icmp_ge (pc := 7) X dX2_unite_7 (tgt := 33) (by decide) (fun h7 => ?_) (fun h7 => ?_)
      · refine g_aload_0 (pc := 33) X dX2_unite_33 ?_
        refine g_callV_V (pc := 34) X Y dX2_unite_34 miX2_renumber li_X2_46 (s_renumber (σ := σ1) hR N hN (by rw [(hO.1 33 (by decide)).1]; exact hsz) (fun i => if h i = y then x else h i) (fun j hj => by rw [hv j, if_pos (by omega)]) (fun j hj => by by_cases z : h j = y; simp [z, hx]; simp [z, hb j hj])) rfl (by decide) rfl ⟨_, rfl⟩ rfl ⟨Nat.le_of_ble_eq_true rfl, Nat.le_of_ble_eq_true rfl⟩ (Nat.le_of_ble_eq_true rfl) (Nat.le_of_ble_eq_true rfl) rfl (by exact Nat.le_of_ble_eq_true rfl) (fun σ2 hp => ?_)
        obtain ⟨hO2, hv2⟩ := hp
        exact g_return (pc := 37) X Y dX2_unite_37 (Nat.le_of_ble_eq_true rfl) (Nat.le_of_ble_eq_true rfl) ⟨rfl, (hO.mono (by simp)).trans hO2, fun j => by rw [hv2 j]; by_cases z : j < N; simp [z]; rw [if_neg z, if_neg z, hv j, if_neg (by omega)]⟩
      · have hbi := hb i h7
        refine g_aload_0 (pc := 10) X dX2_unite_10 ?_
        refine g_getRf (pc := 11) X dX2_unite_11 fl_X2_9 rfl (by decide) rfl hR rfl ?_
        refine g_iload_3 (pc := 14) X dX2_unite_14 ?_
        refine g_iaload_n (pc := 15) X dX2_unite_15 rfl (by decide) (rfl) (by omega) ?_
        rw [show σ1.1 34 i = nI (h i) by rw [hv i, if_neg (by omega)]; exact hh i h7]
        refine g_iload_2 (pc := 16) X dX2_unite_16 ?_
        first | refine g_icmp_ne_n (pc := 17) X dX2_unite_17 (tgt := 27) (by decide) (by omega) (by omega) (fun h17 => ?_) (fun h17 => ?_) | refine g_icmp_ne (pc := 17) X dX2_unite_17 (tgt := 27) (by decide) (fun h17 => ?_) (fun h17 => ?_)
        · refine g_iinc_3_n (pc := 27) X dX2_unite_27 (by decide) rfl ?_
          refine g_goto (pc := 30) X dX2_unite_30 (tgt := 2) (by decide) ?_
          exact ihhL (i + 1) (by omega) (by omega) σ1 hO (fun j => by
            rw [hv j]
            by_cases z : j = i
            · subst z; rw [if_neg (by omega), if_pos (by omega)]; simp [h17, hh j h7]
            · have : (j < i + 1) = (j < i) := by simp; omega
              simp [this])
        · refine g_aload_0 (pc := 20) X dX2_unite_20 ?_
          refine g_getRf (pc := 21) X dX2_unite_21 fl_X2_9 rfl (by decide) rfl hR rfl ?_
          refine g_iload_3 (pc := 24) X dX2_unite_24 ?_
          refine g_iload_1 (pc := 25) X dX2_unite_25 ?_
          refine g_iastore_n (pc := 26) X dX2_unite_26 rfl (by decide) (rfl) (by omega) ?_
          first | refine g_iinc_3_n (pc := 27) X dX2_unite_27 (by decide) rfl ?_ | refine g_iinc_3 (pc := 27) X dX2_unite_27 rfl (by decide) rfl ?_
          refine g_goto (pc := 30) X dX2_unite_30 (tgt := 2) (by decide) ?_
          exact ihhL (i + 1) (by omega) (by omega) _ (hO.i (by simp)) (fun j => by
            rw [sI_get, hv j]
            by_cases z : j = i
            · subst z; simp [h17]
            · have : (j < i + 1) = (j < i) := by simp; omega
              simp [this, z])
  refine g_iconst (pc := 0) X dX2_unite_0 kiconst_0 ?_
  refine g_istore_3 (pc := 1) X dX2_unite_1 (by decide) rfl ?_
  exact hL (N + 1) 0 (by omega) (by omega) σ Off.rf (by simp)
set_option maxHeartbeats 4000000 in
theorem s_exchange {o : gOm} {l : Launch} {σ : gSt} {b : Bool} (hR : σ.2.2 = gRf b) {N : Nat} (hN : N ≤ 30) (hsz : σ.1 33 1 = nI N) {h : Nat → Nat} (hh : ∀ i, i < N → σ.1 34 i = nI (h i)) (hb : ∀ i, i < N → h i ≤ 30) (a c : Nat) (ha : a < N) (hc : c < N) : Sp o l mX2_exchange 3 0 0 [.ref (ad o 33), .int (nI a), .int (nI c)] 116 116 σ (pV (fun σ1 => Off [34, 35] σ σ1 ∧ ∀ j, σ1.1 34 j = if j < N then nI (lst (fun i => if i = c then h a else if i = a then h c else h i) j) else σ.1 34 j)) := by
  refine Sp.of (ls0 := [some (.ref (ad o 33)), some (.int (nI a)), some (.int (nI c)), none]) miX2_exchange rfl (Nat.le_of_ble_eq_true rfl) rfl (fun γ hγ hnm X Y => ?_)
  subst hγ
  have X : gX o γ cX2_exchange 4 RX2 := X
  refine g_aload_0 (pc := 0) X dX2_exchange_0 ?_
  refine g_getRf (pc := 1) X dX2_exchange_1 fl_X2_9 rfl (by decide) rfl hR rfl ?_
  refine g_iload_1 (pc := 4) X dX2_exchange_4 ?_
  refine g_iaload_n (pc := 5) X dX2_exchange_5 rfl (by decide) (rfl) (by omega) ?_
  rw [hh a ha]
  refine g_istore_3 (pc := 6) X dX2_exchange_6 (by decide) rfl ?_
  refine g_aload_0 (pc := 7) X dX2_exchange_7 ?_
  refine g_getRf (pc := 8) X dX2_exchange_8 fl_X2_9 rfl (by decide) rfl hR rfl ?_
  refine g_iload_1 (pc := 11) X dX2_exchange_11 ?_
  refine g_aload_0 (pc := 12) X dX2_exchange_12 ?_
  refine g_getRf (pc := 13) X dX2_exchange_13 fl_X2_9 rfl (by decide) rfl hR rfl ?_
  refine g_iload_2 (pc := 16) X dX2_exchange_16 ?_
  refine g_iaload_n (pc := 17) X dX2_exchange_17 rfl (by decide) (rfl) (by omega) ?_
  rw [hh c hc]
  refine g_iastore_n (pc := 18) X dX2_exchange_18 rfl (by decide) (rfl) (by omega) ?_
  refine g_aload_0 (pc := 19) X dX2_exchange_19 ?_
  refine g_getRf (pc := 20) X dX2_exchange_20 fl_X2_9 rfl (by decide) rfl hR rfl ?_
  refine g_iload_2 (pc := 23) X dX2_exchange_23 ?_
  refine g_iload_3 (pc := 24) X dX2_exchange_24 ?_
  refine g_iastore_n (pc := 25) X dX2_exchange_25 rfl (by decide) (rfl) (by omega) ?_
  refine g_aload_0 (pc := 26) X dX2_exchange_26 ?_
  refine g_callV_V (pc := 27) X Y dX2_exchange_27 miX2_renumber li_X2_46 (s_renumber (σ := sI (sI σ 34 a (nI (h c))) 34 c (nI (h a))) hR N hN (by rw [sI_get, if_neg (by simp), sI_get, if_neg (by simp)]; exact hsz) (fun i => if i = c then h a else if i = a then h c else h i) (fun i hi => by rw [sI_get, sI_get]; by_cases z : i = c; (subst z; simp); by_cases z2 : i = a; (subst z2; simp [z]); simp [z, z2, hh i hi]) (fun i hi => by by_cases z : i = c; (subst z; simp [hb a ha]); by_cases z2 : i = a; (subst z2; simp [z, hb c hc]); simp [z, z2, hb i hi])) rfl (by decide) rfl ⟨_, rfl⟩ rfl ⟨Nat.le_of_ble_eq_true rfl, Nat.le_of_ble_eq_true rfl⟩ (Nat.le_of_ble_eq_true rfl) (Nat.le_of_ble_eq_true rfl) rfl (by exact Nat.le_of_ble_eq_true rfl) (fun σ1 hp => ?_)
  obtain ⟨hO, hv⟩ := hp
  exact g_return (pc := 30) X Y dX2_exchange_30 (Nat.le_of_ble_eq_true rfl) (Nat.le_of_ble_eq_true rfl) ⟨rfl, ((Off.rf.i (by simp)).i (by simp)).trans hO, fun j => by rw [hv j]; by_cases z : j < N; simp [z]; rw [if_neg z, if_neg z, sI_get, if_neg (by omega), sI_get, if_neg (by omega)]⟩
set_option maxHeartbeats 4000000 in
theorem s_become {o : gOm} {l : Launch} {σ : gSt} {b : Bool} (hR : σ.2.2 = gRf b) {N : Nat} (hN : N ≤ 30) (hsz : σ.1 33 1 = nI N)  : Sp o l mX2_become 2 0 0 [.ref (ad o 33), .ref (ad o 63)] 116 116 σ (pV (fun σ1 => Off [34] σ σ1 ∧ ∀ j, σ1.1 34 j = if j < N then σ.1 63 j else σ.1 34 j)) := by
  refine Sp.of (ls0 := [some (.ref (ad o 33)), some (.ref (ad o 63))]) miX2_become rfl (Nat.le_of_ble_eq_true rfl) rfl (fun γ hγ hnm X Y => ?_)
  subst hγ
  have X : gX o γ cX2_become 2 RX2 := X
  refine g_aload_1 (pc := 0) X dX2_become_0 ?_
  refine g_iconst (pc := 1) X dX2_become_1 kiconst_0 ?_
  refine g_aload_0 (pc := 2) X dX2_become_2 ?_
  refine g_getRf (pc := 3) X dX2_become_3 fl_X2_9 rfl (by decide) rfl hR rfl ?_
  refine g_iconst (pc := 6) X dX2_become_6 kiconst_0 ?_
  refine g_aload_0 (pc := 7) X dX2_become_7 ?_
  refine g_getI (pc := 8) X dX2_become_8 rfl (by decide) fl_X2_32 (Or.inl rfl) ?_
  rw [hsz]
  refine g_copy (pc := 11) X Y dX2_become_11 cl_X2_53 (by decide) rfl rfl (by decide) (by decide) (by omega) (by omega) (Nat.le_of_ble_eq_true rfl) ?_
  exact g_return (pc := 14) X Y dX2_become_14 (Nat.le_of_ble_eq_true rfl) (Nat.le_of_ble_eq_true rfl) ⟨rfl, ⟨fun k hk => ⟨by simp only [sC]; rw [if_neg (by simpa using hk)], rfl⟩, rfl⟩, fun j => by rw [sC_get, if_pos rfl, va_cpy]; simp⟩
set_option maxHeartbeats 4000000 in
theorem s_keep {o : gOm} {l : Launch} {σ : gSt} {b : Bool} (hR : σ.2.2 = gRf b) {N : Nat} (hN : N ≤ 30) (hsz : σ.1 33 1 = nI N) (m : Nat) (hm : m ≤ 6) (hmk : σ.1 33 2 = nI m) : Sp o l mX2_keep 2 0 0 [.ref (ad o 33)] 116 116 σ (pI (fun x σ1 => x = zI (decide (m < 6)) ∧ (6 ≤ m → σ1 = σ) ∧ (m < 6 → Off [33, 36, 37] σ σ1 ∧ σ1.1 33 2 = nI (m + 1) ∧ (∀ j, j ≠ 2 → σ1.1 33 j = σ.1 33 j) ∧ (∀ j, σ1.1 36 j = if m * 30 ≤ j ∧ j < m * 30 + N then σ.1 34 (j - m * 30) else σ.1 36 j) ∧ ∀ j, σ1.1 37 j = if j = m then nI N else σ.1 37 j))) := by
  refine Sp.of (ls0 := [some (.ref (ad o 33))]) miX2_keep rfl (Nat.le_of_ble_eq_true rfl) rfl (fun γ hγ hnm X Y => ?_)
  subst hγ
  have X : gX o γ cX2_keep 1 RX2 := X
  refine g_aload_0 (pc := 0) X dX2_keep_0 ?_
  refine g_getI (pc := 1) X dX2_keep_1 rfl (by decide) fl_X2_87 (Or.inl rfl) ?_
  rw [hmk]
  refine g_bipush (pc := 4) X dX2_keep_4 kbipush_6 ?_
  first | refine g_icmp_lt_n (pc := 6) X dX2_keep_6 (tgt := 11) (by decide) (by omega) (by omega) (fun h6 => ?_) (fun h6 => ?_) | refine g_icmp_lt (pc := 6) X dX2_keep_6 (tgt := 11) (by decide) (fun h6 => ?_) (fun h6 => ?_)
  · refine g_aload_0 (pc := 11) X dX2_keep_11 ?_
    refine g_getRf (pc := 12) X dX2_keep_12 fl_X2_9 rfl (by decide) rfl hR rfl ?_
    refine g_iconst (pc := 15) X dX2_keep_15 kiconst_0 ?_
    refine g_aload_0 (pc := 16) X dX2_keep_16 ?_
    refine g_getRf (pc := 17) X dX2_keep_17 fl_X2_18 rfl (by decide) rfl hR rfl ?_
    refine g_aload_0 (pc := 20) X dX2_keep_20 ?_
    refine g_getI (pc := 21) X dX2_keep_21 rfl (by decide) fl_X2_87 (Or.inl rfl) ?_
    rw [hmk]
    refine g_bipush (pc := 24) X dX2_keep_24 kbipush_30 ?_
    first | refine g_imul_n (pc := 26) X dX2_keep_26 ?_ | refine g_imul (pc := 26) X dX2_keep_26 ?_
    refine g_aload_0 (pc := 27) X dX2_keep_27 ?_
    refine g_getI (pc := 28) X dX2_keep_28 rfl (by decide) fl_X2_32 (Or.inl rfl) ?_
    rw [hsz]
    refine g_copy (pc := 31) X Y dX2_keep_31 cl_X2_53 (by decide) rfl rfl (by decide) (by decide) (by omega) (by omega) (Nat.le_of_ble_eq_true rfl) ?_
    refine g_aload_0 (pc := 34) X dX2_keep_34 ?_
    refine g_getRf (pc := 35) X dX2_keep_35 fl_X2_21 rfl (by decide) rfl hR rfl ?_
    refine g_aload_0 (pc := 38) X dX2_keep_38 ?_
    refine g_getI (pc := 39) X dX2_keep_39 rfl (by decide) fl_X2_87 (Or.inl rfl) ?_
    rw [sC_get, if_neg (by simp), hmk]
    refine g_aload_0 (pc := 42) X dX2_keep_42 ?_
    refine g_getI (pc := 43) X dX2_keep_43 rfl (by decide) fl_X2_32 (Or.inl rfl) ?_
    rw [sC_get, if_neg (by simp), hsz]
    refine g_iastore_n (pc := 46) X dX2_keep_46 rfl (by decide) (rfl) (by omega) ?_
    refine g_aload_0 (pc := 47) X dX2_keep_47 ?_
    refine g_dup (pc := 48) X dX2_keep_48 rfl ?_
    refine g_getI (pc := 49) X dX2_keep_49 rfl (by decide) fl_X2_87 (Or.inl rfl) ?_
    rw [sI_get, if_neg (by simp), sC_get, if_neg (by simp), hmk]
    refine g_iconst (pc := 52) X dX2_keep_52 kiconst_1 ?_
    first | refine g_iadd_n (pc := 53) X dX2_keep_53 ?_ | refine g_iadd (pc := 53) X dX2_keep_53 ?_
    refine g_putI (pc := 54) X dX2_keep_54 fl_X2_87 rfl (by decide) rfl rfl ?_
    refine g_iconst (pc := 57) X dX2_keep_57 kiconst_1 ?_
    refine g_zreturn (pc := 58) X Y dX2_keep_58 (Or.inr rfl) (Nat.le_of_ble_eq_true rfl) (Nat.le_of_ble_eq_true rfl) ⟨_, rfl, by simp [zI, show m < 6 by omega], fun q => by omega, fun _ => ⟨?_, ?_, fun j hj => ?_, fun j => ?_, fun j => ?_⟩⟩
    · refine Off.i (Off.i ⟨fun k hk => ⟨?_, rfl⟩, rfl⟩ (by simp)) (by simp)
      simp only [sC]
      rw [if_neg (by simp at hk; omega)]
    · rw [sI_get, if_pos ⟨rfl, rfl⟩]
    · rw [sI_get, if_neg (by simp [hj]), sI_get, if_neg (by simp), sC_get, if_neg (by simp)]
    · rw [sI_get, if_neg (by simp), sI_get, if_neg (by simp), sC_get, if_pos rfl, va_cpy]
      simp
    · rw [sI_get, if_neg (by simp), sI_get]
      by_cases z : j = m
      · simp [z]
      · simp [z, sC_get]
  · refine g_iconst (pc := 9) X dX2_keep_9 kiconst_0 ?_
    exact g_zreturn (pc := 10) X Y dX2_keep_10 (by first | exact Or.inl rfl | exact Or.inr rfl | exact zI_01 _) (Nat.le_of_ble_eq_true rfl) (Nat.le_of_ble_eq_true rfl) (⟨_, rfl, by simp [zI, Nat.not_lt.mpr (show 6 ≤ m by omega)], fun _ => rfl, fun q => by omega⟩)
