/-! rows over numbers nI a; calls by what they answer; stores that leave all else -/
theorem lay_small {k c len : Nat} (h : lay k = (c, len)) : len < 1000 := by
  have h1 : ∀ q ∈ layL, q.2 < 1000 := by decide +kernel
  unfold lay at h
  rw [List.getD_eq_getElem?_getD] at h
  cases h2 : layL[k]? with
  | none => rw [h2] at h; cases h; decide
  | some q =>
    rw [h2] at h
    have := h1 q (List.mem_of_getElem? h2)
    rw [show q = (c, len) from h] at this
    exact this
theorem nI_mul (a b : Nat) : nI a * nI b = nI (a * b) := (Int32.ofNat_mul a b).symm
theorem nI_sub {a b : Nat} (h : b ≤ a) : nI a - nI b = nI (a - b) := by
  have h1 : nI a = nI (a - b) + nI b := by rw [nI_add, Nat.sub_add_cancel h]
  rw [h1, Int32.add_sub_cancel]
section GN
variable {o : gOm} {γ : gCx} {cc : ByteArray} {nL : Nat} {own : String} {cells slots n : Nat} {σ : gSt} {pc : Nat} {ls : List (Option Value)} {rest : List Value}
theorem g_iadd_n (X : gX o γ cc nL own) {x y : Nat} (hd : decode cc pc = .ok (.iadd, 1)) (k : G o γ cells slots n σ (pc + 1) ls (.int (nI (x + y)) :: rest)) : G o γ cells slots n σ pc ls (.int (nI y) :: .int (nI x) :: rest) := g_iadd X hd (by rw [nI_add]; exact k)
theorem g_imul_n (X : gX o γ cc nL own) {x y : Nat} (hd : decode cc pc = .ok (.imul, 1)) (k : G o γ cells slots n σ (pc + 1) ls (.int (nI (x * y)) :: rest)) : G o γ cells slots n σ pc ls (.int (nI y) :: .int (nI x) :: rest) := g_imul X hd (by rw [nI_mul]; exact k)
theorem g_isub_n (X : gX o γ cc nL own) {x y : Nat} (hd : decode cc pc = .ok (.isub, 1)) (h : y ≤ x) (k : G o γ cells slots n σ (pc + 1) ls (.int (nI (x - y)) :: rest)) : G o γ cells slots n σ pc ls (.int (nI y) :: .int (nI x) :: rest) := g_isub X hd (by rw [nI_sub h]; exact k)
theorem nI_0le {x : Nat} (h : x < 2147483648) : 0 ≤ nI x := by rw [← nI_0]; exact nI_le (Nat.zero_le _) h
theorem g_icmp_eq_n (X : gX o γ cc nL own) {x y : Nat} {off : Int} {tgt : Nat} (hd : decode cc pc = .ok (.if_icmp .eq off, 3)) (ht : (pc : Int) + off = (tgt : Int)) (h1 : x < 2147483648) (h2 : y < 2147483648) (kt : x = y → G o γ cells slots n σ tgt ls rest) (kf : ¬ x = y → G o γ cells slots n σ (pc + 3) ls rest) : G o γ cells slots n σ pc ls (.int (nI y) :: .int (nI x) :: rest) := g_icmp_eq X hd ht (fun h => kt ((nI_eq h1 h2).mp h)) (fun h => kf (fun q => h ((nI_eq h1 h2).mpr q)))
theorem g_icmp_ne_n (X : gX o γ cc nL own) {x y : Nat} {off : Int} {tgt : Nat} (hd : decode cc pc = .ok (.if_icmp .ne off, 3)) (ht : (pc : Int) + off = (tgt : Int)) (h1 : x < 2147483648) (h2 : y < 2147483648) (kt : ¬ x = y → G o γ cells slots n σ tgt ls rest) (kf : x = y → G o γ cells slots n σ (pc + 3) ls rest) : G o γ cells slots n σ pc ls (.int (nI y) :: .int (nI x) :: rest) := g_icmp_ne X hd ht (fun h => kt (fun q => h ((nI_eq h1 h2).mpr q))) (fun h => kf ((nI_eq h1 h2).mp h))
theorem g_icmp_lt_n (X : gX o γ cc nL own) {x y : Nat} {off : Int} {tgt : Nat} (hd : decode cc pc = .ok (.if_icmp .lt off, 3)) (ht : (pc : Int) + off = (tgt : Int)) (h1 : x < 2147483648) (h2 : y < 2147483648) (kt : x < y → G o γ cells slots n σ tgt ls rest) (kf : y ≤ x → G o γ cells slots n σ (pc + 3) ls rest) : G o γ cells slots n σ pc ls (.int (nI y) :: .int (nI x) :: rest) := g_icmp_lt X hd ht (fun h => kt ((nI_ltI h1 h2).mp h)) (fun h => kf (Nat.not_lt.mp (fun q => h ((nI_ltI h1 h2).mpr q))))
theorem g_icmp_ge_n (X : gX o γ cc nL own) {x y : Nat} {off : Int} {tgt : Nat} (hd : decode cc pc = .ok (.if_icmp .ge off, 3)) (ht : (pc : Int) + off = (tgt : Int)) (h1 : x < 2147483648) (h2 : y < 2147483648) (kt : y ≤ x → G o γ cells slots n σ tgt ls rest) (kf : x < y → G o γ cells slots n σ (pc + 3) ls rest) : G o γ cells slots n σ pc ls (.int (nI y) :: .int (nI x) :: rest) := g_icmp_ge X hd ht (fun h => kt ((nI_leI h2 h1).mp h)) (fun h => kf (Nat.not_le.mp (fun q => h ((nI_leI h2 h1).mpr q))))
theorem g_icmp_gt_n (X : gX o γ cc nL own) {x y : Nat} {off : Int} {tgt : Nat} (hd : decode cc pc = .ok (.if_icmp .gt off, 3)) (ht : (pc : Int) + off = (tgt : Int)) (h1 : x < 2147483648) (h2 : y < 2147483648) (kt : y < x → G o γ cells slots n σ tgt ls rest) (kf : x ≤ y → G o γ cells slots n σ (pc + 3) ls rest) : G o γ cells slots n σ pc ls (.int (nI y) :: .int (nI x) :: rest) := g_icmp_gt X hd ht (fun h => kt ((nI_ltI h2 h1).mp h)) (fun h => kf (Nat.not_lt.mp (fun q => h ((nI_ltI h2 h1).mpr q))))
theorem g_icmp_le_n (X : gX o γ cc nL own) {x y : Nat} {off : Int} {tgt : Nat} (hd : decode cc pc = .ok (.if_icmp .le off, 3)) (ht : (pc : Int) + off = (tgt : Int)) (h1 : x < 2147483648) (h2 : y < 2147483648) (kt : x ≤ y → G o γ cells slots n σ tgt ls rest) (kf : y < x → G o γ cells slots n σ (pc + 3) ls rest) : G o γ cells slots n σ pc ls (.int (nI y) :: .int (nI x) :: rest) := g_icmp_le X hd ht (fun h => kt ((nI_leI h1 h2).mp h)) (fun h => kf (Nat.not_le.mp (fun q => h ((nI_leI h1 h2).mpr q))))
theorem nI_z {x : Nat} (h : x < 2147483648) : nI x = 0 ↔ x = 0 := by rw [← nI_0]; exact nI_eq h (by decide)
theorem g_if_eq_n (X : gX o γ cc nL own) {x : Nat} {off : Int} {tgt : Nat} (hd : decode cc pc = .ok (.ifCond .eq off, 3)) (ht : (pc : Int) + off = (tgt : Int)) (h1 : x < 2147483648) (kt : x = 0 → G o γ cells slots n σ tgt ls rest) (kf : ¬ x = 0 → G o γ cells slots n σ (pc + 3) ls rest) : G o γ cells slots n σ pc ls (.int (nI x) :: rest) := g_if_eq X hd ht (fun h => kt ((nI_z h1).mp h)) (fun h => kf (fun q => h ((nI_z h1).mpr q)))
theorem g_if_ne_n (X : gX o γ cc nL own) {x : Nat} {off : Int} {tgt : Nat} (hd : decode cc pc = .ok (.ifCond .ne off, 3)) (ht : (pc : Int) + off = (tgt : Int)) (h1 : x < 2147483648) (kt : ¬ x = 0 → G o γ cells slots n σ tgt ls rest) (kf : x = 0 → G o γ cells slots n σ (pc + 3) ls rest) : G o γ cells slots n σ pc ls (.int (nI x) :: rest) := g_if_ne X hd ht (fun h => kt (fun q => h ((nI_z h1).mpr q))) (fun h => kf ((nI_z h1).mp h))
theorem g_if_ge_n (X : gX o γ cc nL own) {x : Nat} {off : Int} {tgt : Nat} (hd : decode cc pc = .ok (.ifCond .ge off, 3)) (ht : (pc : Int) + off = (tgt : Int)) (h1 : x < 2147483648) (kt : G o γ cells slots n σ tgt ls rest) : G o γ cells slots n σ pc ls (.int (nI x) :: rest) := g_if_ge X hd ht (fun _ => kt) (fun h => absurd (nI_0le h1) h)
theorem g_if_lt_n (X : gX o γ cc nL own) {x : Nat} {off : Int} {tgt : Nat} (hd : decode cc pc = .ok (.ifCond .lt off, 3)) (ht : (pc : Int) + off = (tgt : Int)) (h1 : x < 2147483648) (kf : G o γ cells slots n σ (pc + 3) ls rest) : G o γ cells slots n σ pc ls (.int (nI x) :: rest) := g_if_lt X hd ht (fun h => absurd h (nI_pos h1)) (fun _ => kf)
theorem g_if_gt_n (X : gX o γ cc nL own) {x : Nat} {off : Int} {tgt : Nat} (hd : decode cc pc = .ok (.ifCond .gt off, 3)) (ht : (pc : Int) + off = (tgt : Int)) (h1 : x < 2147483648) (kt : 0 < x → G o γ cells slots n σ tgt ls rest) (kf : ¬ 0 < x → G o γ cells slots n σ (pc + 3) ls rest) : G o γ cells slots n σ pc ls (.int (nI x) :: rest) := g_if_gt X hd ht (fun h => kt (by rw [← nI_0] at h; exact (nI_ltI (by decide) h1).mp h)) (fun h => kf (fun q => h (by rw [← nI_0]; exact (nI_ltI (by decide) h1).mpr q)))
theorem g_if_le_n (X : gX o γ cc nL own) {x : Nat} {off : Int} {tgt : Nat} (hd : decode cc pc = .ok (.ifCond .le off, 3)) (ht : (pc : Int) + off = (tgt : Int)) (h1 : x < 2147483648) (kt : x = 0 → G o γ cells slots n σ tgt ls rest) (kf : ¬ x = 0 → G o γ cells slots n σ (pc + 3) ls rest) : G o γ cells slots n σ pc ls (.int (nI x) :: rest) := g_if_le X hd ht (fun h => kt (by rw [← nI_0] at h; have := (nI_leI h1 (by decide)).mp h; omega)) (fun h => kf (fun q => h (by subst q; exact Int32.le_refl _)))
theorem g_getRf (X : gX o γ cc nL own) {k ci x j i t : Nat} {Rf : Nat → Nat → Option Nat} (hd : decode cc pc = .ok (.getfield i, 3)) (hF : FL own i ci j) (hlay : lay k = (ci + 3, x)) (hk : k < n) (hty : isRefTy (gty ci j) = true) (hR : σ.2.2 = Rf) (hr : Rf k j = some t) (kk : G o γ cells slots n σ (pc + 3) ls (.ref (ad o t) :: rest)) : G o γ cells slots n σ pc ls (.ref (ad o k) :: rest) := g_getR X hd hlay hk hF hty (by rw [hR]; exact hr) kk
/-- ints and longs into fields -/
theorem gfld_sI {ci k j : Nat} {x : Int32} (hty : gty ci j = .int ∨ gty ci j = .boolean) : gfld o (sI σ k j x) ci k j = .int x := by
  rcases hty with h | h <;> simp [gfld, h, sI, upd]
theorem gfld_sI_ne {ci k j b : Nat} {x : Int32} (h : b ≠ j) : gfld o (sI σ k j x) ci k b = gfld o σ ci k b := by
  simp [gfld, sI, upd, h]
theorem gfld_sL {ci k j : Nat} {x : Int64} (hty : gty ci j = .long) : gfld o (sL σ k j x) ci k j = .long x := by
  simp [gfld, hty, sL, vp_updL]
theorem gfld_sL_ne {ci k j b : Nat} {x : Int64} (h : b ≠ j) : gfld o (sL σ k j x) ci k b = gfld o σ ci k b := by
  simp [gfld, sL, vp_updL, h]
theorem gfld_sR {ci k j t : Nat} (hty : isRefTy (gty ci j) = true) : gfld o (sR σ k j (some t)) ci k j = .ref (ad o t) := by
  unfold gfld
  generalize gty ci j = ty at hty
  cases ty <;> first | (simp [isRefTy] at hty; done) | (simp [sR]; rfl)
theorem gfld_sR_ne {ci k j b : Nat} {x : Option Nat} (h : b ≠ j) : gfld o (sR σ k j x) ci k b = gfld o σ ci k b := by
  simp [gfld, sR, h]
theorem g_putI (X : gX o γ cc nL own) {k ci x j i : Nat} {v : Int32} (hd : decode cc pc = .ok (.putfield i, 3)) (hF : FL own i ci j) (hlay : lay k = (ci + 3, x)) (hk : k < n) (hfin : (gcT ci j).2.2.2 = false) (hty : gty ci j = .int) (kk : G o γ cells slots n (sI σ k j v) (pc + 3) ls rest) : G o γ cells slots n σ pc ls (.int v :: .ref (ad o k) :: rest) := g_putf X hd hlay hk hF hfin (by rw [hty]; rfl) (by rw [hty]; rfl) (gfld_sI (Or.inl hty)) (fun _ h => gfld_sI_ne h) (fun a h => ent_sI a h) kk
theorem g_putZ (X : gX o γ cc nL own) {k ci x j i : Nat} {v : Int32} (hd : decode cc pc = .ok (.putfield i, 3)) (hF : FL own i ci j) (hlay : lay k = (ci + 3, x)) (hk : k < n) (hfin : (gcT ci j).2.2.2 = false) (hty : gty ci j = .boolean) (hv : v = 0 ∨ v = 1) (kk : G o γ cells slots n (sI σ k j v) (pc + 3) ls rest) : G o γ cells slots n σ pc ls (.int v :: .ref (ad o k) :: rest) := g_putf X hd hlay hk hF hfin (by rw [hty]; rcases hv with rfl | rfl <;> rfl) (by rw [hty]; rcases hv with rfl | rfl <;> rfl) (gfld_sI (Or.inr hty)) (fun _ h => gfld_sI_ne h) (fun a h => ent_sI a h) kk
theorem g_putL (X : gX o γ cc nL own) {k ci x j i : Nat} {v : Int64} (hd : decode cc pc = .ok (.putfield i, 3)) (hF : FL own i ci j) (hlay : lay k = (ci + 3, x)) (hk : k < n) (hfin : (gcT ci j).2.2.2 = false) (hty : gty ci j = .long) (kk : G o γ cells slots n (sL σ k j v) (pc + 3) ls rest) : G o γ cells slots n σ pc ls (.long v :: .ref (ad o k) :: rest) := g_putf X hd hlay hk hF hfin (by rw [hty]; rfl) (by rw [hty]; rfl) (gfld_sL hty) (fun _ h => gfld_sL_ne h) (fun a h => ent_sL a h) kk
theorem g_putR (X : gX o γ cc nL own) {k ci x j i t : Nat} (hd : decode cc pc = .ok (.putfield i, 3)) (hF : FL own i ci j) (hlay : lay k = (ci + 3, x)) (hk : k < n) (hfin : (gcT ci j).2.2.2 = false) (hty : isRefTy (gty ci j) = true) (kk : G o γ cells slots n (sR σ k j (some t)) (pc + 3) ls rest) : G o γ cells slots n σ pc ls (.ref (ad o t) :: .ref (ad o k) :: rest) := g_putf X hd hlay hk hF hfin (by generalize gty ci j = ty at hty; cases ty <;> first | (simp [isRefTy] at hty; done) | rfl) (by generalize gty ci j = ty at hty; cases ty <;> first | (simp [isRefTy] at hty; done) | rfl) (gfld_sR hty) (fun _ h => gfld_sR_ne h) (fun a h => ent_sR a h) kk
theorem g_putRF (X : gX o γ cc nL own) {k ci x j i t : Nat} (hnm : γ.2.2.2.2.2.2.2.2.1.name = "<init>") (hd : decode cc pc = .ok (.putfield i, 3)) (hF : FL own i ci j) (hlay : lay k = (ci + 3, x)) (hk : k < n) (hfin : (gcT ci j).2.2.2 = true) (hdecl : (gcT ci j).1 = own) (hty : isRefTy (gty ci j) = true) (kk : G o γ cells slots n (sR σ k j (some t)) (pc + 3) ls rest) : G o γ cells slots n σ pc ls (.ref (ad o t) :: .ref (ad o k) :: rest) := g_putfF X hd hlay hk hF hfin hnm hdecl (by generalize gty ci j = ty at hty; cases ty <;> first | (simp [isRefTy] at hty; done) | rfl) (by generalize gty ci j = ty at hty; cases ty <;> first | (simp [isRefTy] at hty; done) | rfl) (gfld_sR hty) (fun _ h => gfld_sR_ne h) (fun a h => ent_sR a h) kk
theorem g_iaload_n (X : gX o γ cc nL own) {k len a : Nat} {j : Int32} (hd : decode cc pc = .ok (.iaload, 1)) (hlay : lay k = (0, len)) (hk : k < n) (hj : j = nI a) (hlt : a < len) (kk : G o γ cells slots n σ (pc + 1) ls (.int (σ.1 k a) :: rest)) : G o γ cells slots n σ pc ls (.int j :: .ref (ad o k) :: rest) := by
  have hs := lay_small hlay
  subst hj
  exact g_iaload X hd hlay hk (nI_clamp (by omega)) (nI_pos (by omega)) hlt kk
theorem g_baload_n (X : gX o γ cc nL own) {k len a : Nat} {j : Int32} (hd : decode cc pc = .ok (.baload, 1)) (hlay : lay k = (2, len)) (hk : k < n) (hj : j = nI a) (hlt : a < len) (kk : G o γ cells slots n σ (pc + 1) ls (.int (σ.1 k a) :: rest)) : G o γ cells slots n σ pc ls (.int j :: .ref (ad o k) :: rest) := by
  have hs := lay_small hlay
  subst hj
  exact g_baload X hd hlay hk (nI_clamp (by omega)) (nI_pos (by omega)) hlt kk
theorem g_laload_n (X : gX o γ cc nL own) {k len a : Nat} {j : Int32} (hd : decode cc pc = .ok (.laload, 1)) (hlay : lay k = (1, len)) (hk : k < n) (hj : j = nI a) (hlt : a < len) (kk : G o γ cells slots n σ (pc + 1) ls (.long (σ.2.1 k a) :: rest)) : G o γ cells slots n σ pc ls (.int j :: .ref (ad o k) :: rest) := by
  have hs := lay_small hlay
  subst hj
  exact g_laload X hd hlay hk (nI_clamp (by omega)) (nI_pos (by omega)) hlt kk
theorem g_iastore_n (X : gX o γ cc nL own) {k len a : Nat} {j : Int32} {x : Int32} (hd : decode cc pc = .ok (.iastore, 1)) (hlay : lay k = (0, len)) (hk : k < n) (hj : j = nI a) (hlt : a < len) (kk : G o γ cells slots n (sI σ k a x) (pc + 1) ls rest) : G o γ cells slots n σ pc ls (.int x :: .int j :: .ref (ad o k) :: rest) := by
  have hs := lay_small hlay
  subst hj
  exact g_iastore X hd hlay hk (nI_clamp (by omega)) (nI_pos (by omega)) hlt kk
theorem g_bastore_n (X : gX o γ cc nL own) {k len a : Nat} {j : Int32} {x : Int32} (hd : decode cc pc = .ok (.bastore, 1)) (hlay : lay k = (2, len)) (hk : k < n) (hj : j = nI a) (hlt : a < len) (hx : x = 0 ∨ x = 1) (kk : G o γ cells slots n (sI σ k a x) (pc + 1) ls rest) : G o γ cells slots n σ pc ls (.int x :: .int j :: .ref (ad o k) :: rest) := by
  have hs := lay_small hlay
  subst hj
  exact g_bastore X hd hlay hk (nI_clamp (by omega)) (nI_pos (by omega)) hlt (by rw [show vp_nar .boolean x = x by rcases hx with rfl | rfl <;> rfl]; exact kk)
theorem g_lastore_n (X : gX o γ cc nL own) {k len a : Nat} {j : Int32} {x : Int64} (hd : decode cc pc = .ok (.lastore, 1)) (hlay : lay k = (1, len)) (hk : k < n) (hj : j = nI a) (hlt : a < len) (kk : G o γ cells slots n (sL σ k a x) (pc + 1) ls rest) : G o γ cells slots n σ pc ls (.long x :: .int j :: .ref (ad o k) :: rest) := by
  have hs := lay_small hlay
  subst hj
  exact g_lastore X hd hlay hk (nI_clamp (by omega)) (nI_pos (by omega)) hlt kk
theorem g_iinc_0_n (X : gX o γ cc nL own) {t : List (Option Value)} {x : Nat} (hd : decode cc pc = .ok (.iinc 0 1, 3)) (hlt : 0 < nL) (k : G o γ cells slots n σ (pc + 3) (some (.int (nI (x + 1))) :: t) rest) : G o γ cells slots n σ pc (some (.int (nI x)) :: t) rest := g_iinc_0 X hd (nI_1 x) hlt k
theorem g_iinc_1_n (X : gX o γ cc nL own) {a0 : Option Value} {t : List (Option Value)} {x : Nat} (hd : decode cc pc = .ok (.iinc 1 1, 3)) (hlt : 1 < nL) (ho : okst a0 = true) (k : G o γ cells slots n σ (pc + 3) (a0 :: some (.int (nI (x + 1))) :: t) rest) : G o γ cells slots n σ pc (a0 :: some (.int (nI x)) :: t) rest := g_iinc_1 X hd (nI_1 x) hlt ho k
theorem g_iinc_2_n (X : gX o γ cc nL own) {a0 a1 : Option Value} {t : List (Option Value)} {x : Nat} (hd : decode cc pc = .ok (.iinc 2 1, 3)) (hlt : 2 < nL) (ho : okst a1 = true) (k : G o γ cells slots n σ (pc + 3) (a0 :: a1 :: some (.int (nI (x + 1))) :: t) rest) : G o γ cells slots n σ pc (a0 :: a1 :: some (.int (nI x)) :: t) rest := g_iinc_2 X hd (nI_1 x) hlt ho k
theorem g_iinc_3_n (X : gX o γ cc nL own) {a0 a1 a2 : Option Value} {t : List (Option Value)} {x : Nat} (hd : decode cc pc = .ok (.iinc 3 1, 3)) (hlt : 3 < nL) (ho : okst a2 = true) (k : G o γ cells slots n σ (pc + 3) (a0 :: a1 :: a2 :: some (.int (nI (x + 1))) :: t) rest) : G o γ cells slots n σ pc (a0 :: a1 :: a2 :: some (.int (nI x)) :: t) rest := g_iinc_3 X hd (nI_1 x) hlt ho k
theorem g_iinc_4_n (X : gX o γ cc nL own) {a0 a1 a2 a3 : Option Value} {t : List (Option Value)} {x : Nat} (hd : decode cc pc = .ok (.iinc 4 1, 3)) (hlt : 4 < nL) (ho : okst a3 = true) (k : G o γ cells slots n σ (pc + 3) (a0 :: a1 :: a2 :: a3 :: some (.int (nI (x + 1))) :: t) rest) : G o γ cells slots n σ pc (a0 :: a1 :: a2 :: a3 :: some (.int (nI x)) :: t) rest := g_iinc_4 X hd (nI_1 x) hlt ho k
theorem g_iinc_5_n (X : gX o γ cc nL own) {a0 a1 a2 a3 a4 : Option Value} {t : List (Option Value)} {x : Nat} (hd : decode cc pc = .ok (.iinc 5 1, 3)) (hlt : 5 < nL) (ho : okst a4 = true) (k : G o γ cells slots n σ (pc + 3) (a0 :: a1 :: a2 :: a3 :: a4 :: some (.int (nI (x + 1))) :: t) rest) : G o γ cells slots n σ pc (a0 :: a1 :: a2 :: a3 :: a4 :: some (.int (nI x)) :: t) rest := g_iinc_5 X hd (nI_1 x) hlt ho k
theorem g_iinc_6_n (X : gX o γ cc nL own) {a0 a1 a2 a3 a4 a5 : Option Value} {t : List (Option Value)} {x : Nat} (hd : decode cc pc = .ok (.iinc 6 1, 3)) (hlt : 6 < nL) (ho : okst a5 = true) (k : G o γ cells slots n σ (pc + 3) (a0 :: a1 :: a2 :: a3 :: a4 :: a5 :: some (.int (nI (x + 1))) :: t) rest) : G o γ cells slots n σ pc (a0 :: a1 :: a2 :: a3 :: a4 :: a5 :: some (.int (nI x)) :: t) rest := g_iinc_6 X hd (nI_1 x) hlt ho k
theorem g_iinc_7_n (X : gX o γ cc nL own) {a0 a1 a2 a3 a4 a5 a6 : Option Value} {t : List (Option Value)} {x : Nat} (hd : decode cc pc = .ok (.iinc 7 1, 3)) (hlt : 7 < nL) (ho : okst a6 = true) (k : G o γ cells slots n σ (pc + 3) (a0 :: a1 :: a2 :: a3 :: a4 :: a5 :: a6 :: some (.int (nI (x + 1))) :: t) rest) : G o γ cells slots n σ pc (a0 :: a1 :: a2 :: a3 :: a4 :: a5 :: a6 :: some (.int (nI x)) :: t) rest := g_iinc_7 X hd (nI_1 x) hlt ho k
theorem g_iinc_8_n (X : gX o γ cc nL own) {a0 a1 a2 a3 a4 a5 a6 a7 : Option Value} {t : List (Option Value)} {x : Nat} (hd : decode cc pc = .ok (.iinc 8 1, 3)) (hlt : 8 < nL) (ho : okst a7 = true) (k : G o γ cells slots n σ (pc + 3) (a0 :: a1 :: a2 :: a3 :: a4 :: a5 :: a6 :: a7 :: some (.int (nI (x + 1))) :: t) rest) : G o γ cells slots n σ pc (a0 :: a1 :: a2 :: a3 :: a4 :: a5 :: a6 :: a7 :: some (.int (nI x)) :: t) rest := g_iinc_8 X hd (nI_1 x) hlt ho k
theorem g_iinc_9_n (X : gX o γ cc nL own) {a0 a1 a2 a3 a4 a5 a6 a7 a8 : Option Value} {t : List (Option Value)} {x : Nat} (hd : decode cc pc = .ok (.iinc 9 1, 3)) (hlt : 9 < nL) (ho : okst a8 = true) (k : G o γ cells slots n σ (pc + 3) (a0 :: a1 :: a2 :: a3 :: a4 :: a5 :: a6 :: a7 :: a8 :: some (.int (nI (x + 1))) :: t) rest) : G o γ cells slots n σ pc (a0 :: a1 :: a2 :: a3 :: a4 :: a5 :: a6 :: a7 :: a8 :: some (.int (nI x)) :: t) rest := g_iinc_9 X hd (nI_1 x) hlt ho k
theorem g_iinc_10_n (X : gX o γ cc nL own) {a0 a1 a2 a3 a4 a5 a6 a7 a8 a9 : Option Value} {t : List (Option Value)} {x : Nat} (hd : decode cc pc = .ok (.iinc 10 1, 3)) (hlt : 10 < nL) (ho : okst a9 = true) (k : G o γ cells slots n σ (pc + 3) (a0 :: a1 :: a2 :: a3 :: a4 :: a5 :: a6 :: a7 :: a8 :: a9 :: some (.int (nI (x + 1))) :: t) rest) : G o γ cells slots n σ pc (a0 :: a1 :: a2 :: a3 :: a4 :: a5 :: a6 :: a7 :: a8 :: a9 :: some (.int (nI x)) :: t) rest := g_iinc_10 X hd (nI_1 x) hlt ho k
theorem g_iinc_11_n (X : gX o γ cc nL own) {a0 a1 a2 a3 a4 a5 a6 a7 a8 a9 a10 : Option Value} {t : List (Option Value)} {x : Nat} (hd : decode cc pc = .ok (.iinc 11 1, 3)) (hlt : 11 < nL) (ho : okst a10 = true) (k : G o γ cells slots n σ (pc + 3) (a0 :: a1 :: a2 :: a3 :: a4 :: a5 :: a6 :: a7 :: a8 :: a9 :: a10 :: some (.int (nI (x + 1))) :: t) rest) : G o γ cells slots n σ pc (a0 :: a1 :: a2 :: a3 :: a4 :: a5 :: a6 :: a7 :: a8 :: a9 :: a10 :: some (.int (nI x)) :: t) rest := g_iinc_11 X hd (nI_1 x) hlt ho k
theorem g_iinc_12_n (X : gX o γ cc nL own) {a0 a1 a2 a3 a4 a5 a6 a7 a8 a9 a10 a11 : Option Value} {t : List (Option Value)} {x : Nat} (hd : decode cc pc = .ok (.iinc 12 1, 3)) (hlt : 12 < nL) (ho : okst a11 = true) (k : G o γ cells slots n σ (pc + 3) (a0 :: a1 :: a2 :: a3 :: a4 :: a5 :: a6 :: a7 :: a8 :: a9 :: a10 :: a11 :: some (.int (nI (x + 1))) :: t) rest) : G o γ cells slots n σ pc (a0 :: a1 :: a2 :: a3 :: a4 :: a5 :: a6 :: a7 :: a8 :: a9 :: a10 :: a11 :: some (.int (nI x)) :: t) rest := g_iinc_12 X hd (nI_1 x) hlt ho k
theorem g_iinc_13_n (X : gX o γ cc nL own) {a0 a1 a2 a3 a4 a5 a6 a7 a8 a9 a10 a11 a12 : Option Value} {t : List (Option Value)} {x : Nat} (hd : decode cc pc = .ok (.iinc 13 1, 3)) (hlt : 13 < nL) (ho : okst a12 = true) (k : G o γ cells slots n σ (pc + 3) (a0 :: a1 :: a2 :: a3 :: a4 :: a5 :: a6 :: a7 :: a8 :: a9 :: a10 :: a11 :: a12 :: some (.int (nI (x + 1))) :: t) rest) : G o γ cells slots n σ pc (a0 :: a1 :: a2 :: a3 :: a4 :: a5 :: a6 :: a7 :: a8 :: a9 :: a10 :: a11 :: a12 :: some (.int (nI x)) :: t) rest := g_iinc_13 X hd (nI_1 x) hlt ho k
theorem g_iinc_14_n (X : gX o γ cc nL own) {a0 a1 a2 a3 a4 a5 a6 a7 a8 a9 a10 a11 a12 a13 : Option Value} {t : List (Option Value)} {x : Nat} (hd : decode cc pc = .ok (.iinc 14 1, 3)) (hlt : 14 < nL) (ho : okst a13 = true) (k : G o γ cells slots n σ (pc + 3) (a0 :: a1 :: a2 :: a3 :: a4 :: a5 :: a6 :: a7 :: a8 :: a9 :: a10 :: a11 :: a12 :: a13 :: some (.int (nI (x + 1))) :: t) rest) : G o γ cells slots n σ pc (a0 :: a1 :: a2 :: a3 :: a4 :: a5 :: a6 :: a7 :: a8 :: a9 :: a10 :: a11 :: a12 :: a13 :: some (.int (nI x)) :: t) rest := g_iinc_14 X hd (nI_1 x) hlt ho k
theorem g_iinc_15_n (X : gX o γ cc nL own) {a0 a1 a2 a3 a4 a5 a6 a7 a8 a9 a10 a11 a12 a13 a14 : Option Value} {t : List (Option Value)} {x : Nat} (hd : decode cc pc = .ok (.iinc 15 1, 3)) (hlt : 15 < nL) (ho : okst a14 = true) (k : G o γ cells slots n σ (pc + 3) (a0 :: a1 :: a2 :: a3 :: a4 :: a5 :: a6 :: a7 :: a8 :: a9 :: a10 :: a11 :: a12 :: a13 :: a14 :: some (.int (nI (x + 1))) :: t) rest) : G o γ cells slots n σ pc (a0 :: a1 :: a2 :: a3 :: a4 :: a5 :: a6 :: a7 :: a8 :: a9 :: a10 :: a11 :: a12 :: a13 :: a14 :: some (.int (nI x)) :: t) rest := g_iinc_15 X hd (nI_1 x) hlt ho k
theorem g_iinc_16_n (X : gX o γ cc nL own) {a0 a1 a2 a3 a4 a5 a6 a7 a8 a9 a10 a11 a12 a13 a14 a15 : Option Value} {t : List (Option Value)} {x : Nat} (hd : decode cc pc = .ok (.iinc 16 1, 3)) (hlt : 16 < nL) (ho : okst a15 = true) (k : G o γ cells slots n σ (pc + 3) (a0 :: a1 :: a2 :: a3 :: a4 :: a5 :: a6 :: a7 :: a8 :: a9 :: a10 :: a11 :: a12 :: a13 :: a14 :: a15 :: some (.int (nI (x + 1))) :: t) rest) : G o γ cells slots n σ pc (a0 :: a1 :: a2 :: a3 :: a4 :: a5 :: a6 :: a7 :: a8 :: a9 :: a10 :: a11 :: a12 :: a13 :: a14 :: a15 :: some (.int (nI x)) :: t) rest := g_iinc_16 X hd (nI_1 x) hlt ho k
theorem g_callV_I (X : gX o γ cc nL own) {d mc ms n0 : Nat} {ret : Option FieldType} {pst : Option Value → gSt → Prop} (Y : gE o γ d mc ms n0 ret pst) {M : gM} {idx d1 n1 : Nat} {b ci x : Nat} {as : List Value} {P : Int32 → gSt → Prop} (hd : decode cc pc = .ok (.invokevirtual idx, 3)) (hM : MI M) (hlk : LV own idx M) (hSp : Sp o γ.2.1 M d1 0 0 (.ref (ad o b) :: as) n n1 σ (pI P)) (hlay : lay b = (ci + 3, x)) (hb : b < n) (hcn : gcn ci = M.1.cls) (hci : ∃ q, classes[ci]? = some (gcn ci, q)) (hn : as.length = M.2.2.2.2) (hrm : d1 + 1 ≤ d ∧ 8 + (M.2.2.1 + 11) + 40 * d1 ≤ 40 * d) (hc : cells ≤ mc) (hs : slots ≤ ms) {st0 : List Value} (hst : st0 = as.reverse ++ .ref (ad o b) :: rest) (hcat : (rest.map fun v => v.category).sum ≤ 8) (kk : ∀ (x9 : Int32) (σ1 : gSt), P x9 σ1 → G o γ cells slots n1 σ1 (pc + 3) ls (.int x9 :: rest)) : G o γ cells slots n σ pc ls st0 := g_callV X Y hd hM hlk hSp hlay hb hcn hci hn hrm ⟨hc, hs⟩ hcat hst (fun r σ1 ⟨x9, hr, hp⟩ => by subst hr; exact kk x9 σ1 hp)
theorem g_callV_L (X : gX o γ cc nL own) {d mc ms n0 : Nat} {ret : Option FieldType} {pst : Option Value → gSt → Prop} (Y : gE o γ d mc ms n0 ret pst) {M : gM} {idx d1 n1 : Nat} {b ci x : Nat} {as : List Value} {P : Int64 → gSt → Prop} (hd : decode cc pc = .ok (.invokevirtual idx, 3)) (hM : MI M) (hlk : LV own idx M) (hSp : Sp o γ.2.1 M d1 0 0 (.ref (ad o b) :: as) n n1 σ (pL P)) (hlay : lay b = (ci + 3, x)) (hb : b < n) (hcn : gcn ci = M.1.cls) (hci : ∃ q, classes[ci]? = some (gcn ci, q)) (hn : as.length = M.2.2.2.2) (hrm : d1 + 1 ≤ d ∧ 8 + (M.2.2.1 + 11) + 40 * d1 ≤ 40 * d) (hc : cells ≤ mc) (hs : slots ≤ ms) {st0 : List Value} (hst : st0 = as.reverse ++ .ref (ad o b) :: rest) (hcat : (rest.map fun v => v.category).sum ≤ 8) (kk : ∀ (x9 : Int64) (σ1 : gSt), P x9 σ1 → G o γ cells slots n1 σ1 (pc + 3) ls (.long x9 :: rest)) : G o γ cells slots n σ pc ls st0 := g_callV X Y hd hM hlk hSp hlay hb hcn hci hn hrm ⟨hc, hs⟩ hcat hst (fun r σ1 ⟨x9, hr, hp⟩ => by subst hr; exact kk x9 σ1 hp)
theorem g_callV_A (X : gX o γ cc nL own) {d mc ms n0 : Nat} {ret : Option FieldType} {pst : Option Value → gSt → Prop} (Y : gE o γ d mc ms n0 ret pst) {M : gM} {idx d1 n1 : Nat} {b ci x : Nat} {as : List Value} {P : Nat → gSt → Prop} (hd : decode cc pc = .ok (.invokevirtual idx, 3)) (hM : MI M) (hlk : LV own idx M) (hSp : Sp o γ.2.1 M d1 0 0 (.ref (ad o b) :: as) n n1 σ (pA P)) (hlay : lay b = (ci + 3, x)) (hb : b < n) (hcn : gcn ci = M.1.cls) (hci : ∃ q, classes[ci]? = some (gcn ci, q)) (hn : as.length = M.2.2.2.2) (hrm : d1 + 1 ≤ d ∧ 8 + (M.2.2.1 + 11) + 40 * d1 ≤ 40 * d) (hc : cells ≤ mc) (hs : slots ≤ ms) {st0 : List Value} (hst : st0 = as.reverse ++ .ref (ad o b) :: rest) (hcat : (rest.map fun v => v.category).sum ≤ 8) (kk : ∀ (x9 : Nat) (σ1 : gSt), P x9 σ1 → G o γ cells slots n1 σ1 (pc + 3) ls (.ref x9 :: rest)) : G o γ cells slots n σ pc ls st0 := g_callV X Y hd hM hlk hSp hlay hb hcn hci hn hrm ⟨hc, hs⟩ hcat hst (fun r σ1 ⟨x9, hr, hp⟩ => by subst hr; exact kk x9 σ1 hp)
theorem g_callV_V (X : gX o γ cc nL own) {d mc ms n0 : Nat} {ret : Option FieldType} {pst : Option Value → gSt → Prop} (Y : gE o γ d mc ms n0 ret pst) {M : gM} {idx d1 n1 : Nat} {b ci x : Nat} {as : List Value} {P : gSt → Prop} (hd : decode cc pc = .ok (.invokevirtual idx, 3)) (hM : MI M) (hlk : LV own idx M) (hSp : Sp o γ.2.1 M d1 0 0 (.ref (ad o b) :: as) n n1 σ (pV P)) (hlay : lay b = (ci + 3, x)) (hb : b < n) (hcn : gcn ci = M.1.cls) (hci : ∃ q, classes[ci]? = some (gcn ci, q)) (hn : as.length = M.2.2.2.2) (hrm : d1 + 1 ≤ d ∧ 8 + (M.2.2.1 + 11) + 40 * d1 ≤ 40 * d) (hc : cells ≤ mc) (hs : slots ≤ ms) {st0 : List Value} (hst : st0 = as.reverse ++ .ref (ad o b) :: rest) (hcat : (rest.map fun v => v.category).sum ≤ 8) (kk : ∀ σ1 : gSt, P σ1 → G o γ cells slots n1 σ1 (pc + 3) ls rest) : G o γ cells slots n σ pc ls st0 := g_callV X Y hd hM hlk hSp hlay hb hcn hci hn hrm ⟨hc, hs⟩ hcat hst (fun r σ1 ⟨hr, hp⟩ => by subst hr; exact kk σ1 hp)
theorem g_callS_I (X : gX o γ cc nL own) {d mc ms n0 : Nat} {ret : Option FieldType} {pst : Option Value → gSt → Prop} (Y : gE o γ d mc ms n0 ret pst) {M : gM} {idx d1 n1 : Nat} {as : List Value} {P : Int32 → gSt → Prop} (hd : decode cc pc = .ok (.invokestatic idx, 3)) (hM : MI M) (hlk : LSt own idx M) (hSp : Sp o γ.2.1 M d1 0 0 as n n1 σ (pI P)) (hn : as.length = M.2.2.2.2) (hrm : d1 + 1 ≤ d ∧ 8 + (M.2.2.1 + 11) + 40 * d1 ≤ 40 * d) (hc : cells ≤ mc) (hs : slots ≤ ms) {st0 : List Value} (hst : st0 = as.reverse ++ rest) (hcat : (rest.map fun v => v.category).sum ≤ 8) (kk : ∀ (x9 : Int32) (σ1 : gSt), P x9 σ1 → G o γ cells slots n1 σ1 (pc + 3) ls (.int x9 :: rest)) : G o γ cells slots n σ pc ls st0 := g_callS X Y hd hM hlk hSp hn hrm ⟨hc, hs⟩ hcat hst (fun r σ1 ⟨x9, hr, hp⟩ => by subst hr; exact kk x9 σ1 hp)
theorem g_callS_L (X : gX o γ cc nL own) {d mc ms n0 : Nat} {ret : Option FieldType} {pst : Option Value → gSt → Prop} (Y : gE o γ d mc ms n0 ret pst) {M : gM} {idx d1 n1 : Nat} {as : List Value} {P : Int64 → gSt → Prop} (hd : decode cc pc = .ok (.invokestatic idx, 3)) (hM : MI M) (hlk : LSt own idx M) (hSp : Sp o γ.2.1 M d1 0 0 as n n1 σ (pL P)) (hn : as.length = M.2.2.2.2) (hrm : d1 + 1 ≤ d ∧ 8 + (M.2.2.1 + 11) + 40 * d1 ≤ 40 * d) (hc : cells ≤ mc) (hs : slots ≤ ms) {st0 : List Value} (hst : st0 = as.reverse ++ rest) (hcat : (rest.map fun v => v.category).sum ≤ 8) (kk : ∀ (x9 : Int64) (σ1 : gSt), P x9 σ1 → G o γ cells slots n1 σ1 (pc + 3) ls (.long x9 :: rest)) : G o γ cells slots n σ pc ls st0 := g_callS X Y hd hM hlk hSp hn hrm ⟨hc, hs⟩ hcat hst (fun r σ1 ⟨x9, hr, hp⟩ => by subst hr; exact kk x9 σ1 hp)
theorem g_callS_A (X : gX o γ cc nL own) {d mc ms n0 : Nat} {ret : Option FieldType} {pst : Option Value → gSt → Prop} (Y : gE o γ d mc ms n0 ret pst) {M : gM} {idx d1 n1 : Nat} {as : List Value} {P : Nat → gSt → Prop} (hd : decode cc pc = .ok (.invokestatic idx, 3)) (hM : MI M) (hlk : LSt own idx M) (hSp : Sp o γ.2.1 M d1 0 0 as n n1 σ (pA P)) (hn : as.length = M.2.2.2.2) (hrm : d1 + 1 ≤ d ∧ 8 + (M.2.2.1 + 11) + 40 * d1 ≤ 40 * d) (hc : cells ≤ mc) (hs : slots ≤ ms) {st0 : List Value} (hst : st0 = as.reverse ++ rest) (hcat : (rest.map fun v => v.category).sum ≤ 8) (kk : ∀ (x9 : Nat) (σ1 : gSt), P x9 σ1 → G o γ cells slots n1 σ1 (pc + 3) ls (.ref x9 :: rest)) : G o γ cells slots n σ pc ls st0 := g_callS X Y hd hM hlk hSp hn hrm ⟨hc, hs⟩ hcat hst (fun r σ1 ⟨x9, hr, hp⟩ => by subst hr; exact kk x9 σ1 hp)
theorem g_callS_V (X : gX o γ cc nL own) {d mc ms n0 : Nat} {ret : Option FieldType} {pst : Option Value → gSt → Prop} (Y : gE o γ d mc ms n0 ret pst) {M : gM} {idx d1 n1 : Nat} {as : List Value} {P : gSt → Prop} (hd : decode cc pc = .ok (.invokestatic idx, 3)) (hM : MI M) (hlk : LSt own idx M) (hSp : Sp o γ.2.1 M d1 0 0 as n n1 σ (pV P)) (hn : as.length = M.2.2.2.2) (hrm : d1 + 1 ≤ d ∧ 8 + (M.2.2.1 + 11) + 40 * d1 ≤ 40 * d) (hc : cells ≤ mc) (hs : slots ≤ ms) {st0 : List Value} (hst : st0 = as.reverse ++ rest) (hcat : (rest.map fun v => v.category).sum ≤ 8) (kk : ∀ σ1 : gSt, P σ1 → G o γ cells slots n1 σ1 (pc + 3) ls rest) : G o γ cells slots n σ pc ls st0 := g_callS X Y hd hM hlk hSp hn hrm ⟨hc, hs⟩ hcat hst (fun r σ1 ⟨hr, hp⟩ => by subst hr; exact kk σ1 hp)
theorem g_callSN_I (X : gX o γ cc nL own) {d mc ms n0 : Nat} {ret : Option FieldType} {pst : Option Value → gSt → Prop} (Y : gE o γ d mc ms n0 ret pst) {M : gM} {idx d1 n1 : Nat} {host : String} {as : List Value} {P : Int32 → gSt → Prop} (hd : decode cc pc = .ok (.invokestatic idx, 3)) (hM : MI M) (hlk : LSN own idx host M) (hSp : Sp o γ.2.1 M d1 0 0 as n n1 σ (pI P)) (hn : as.length = M.2.2.2.2) (hrm : d1 + 1 ≤ d ∧ 8 + (M.2.2.1 + 11) + 40 * d1 ≤ 40 * d) (hc : cells ≤ mc) (hs : slots ≤ ms) {st0 : List Value} (hst : st0 = as.reverse ++ rest) (hcat : (rest.map fun v => v.category).sum ≤ 8) (kk : ∀ (x9 : Int32) (σ1 : gSt), P x9 σ1 → G o γ cells slots n1 σ1 (pc + 3) ls (.int x9 :: rest)) : G o γ cells slots n σ pc ls st0 := g_callSN X Y hd hM hlk hSp hn hrm ⟨hc, hs⟩ hcat hst (fun r σ1 ⟨x9, hr, hp⟩ => by subst hr; exact kk x9 σ1 hp)
theorem g_callSN_L (X : gX o γ cc nL own) {d mc ms n0 : Nat} {ret : Option FieldType} {pst : Option Value → gSt → Prop} (Y : gE o γ d mc ms n0 ret pst) {M : gM} {idx d1 n1 : Nat} {host : String} {as : List Value} {P : Int64 → gSt → Prop} (hd : decode cc pc = .ok (.invokestatic idx, 3)) (hM : MI M) (hlk : LSN own idx host M) (hSp : Sp o γ.2.1 M d1 0 0 as n n1 σ (pL P)) (hn : as.length = M.2.2.2.2) (hrm : d1 + 1 ≤ d ∧ 8 + (M.2.2.1 + 11) + 40 * d1 ≤ 40 * d) (hc : cells ≤ mc) (hs : slots ≤ ms) {st0 : List Value} (hst : st0 = as.reverse ++ rest) (hcat : (rest.map fun v => v.category).sum ≤ 8) (kk : ∀ (x9 : Int64) (σ1 : gSt), P x9 σ1 → G o γ cells slots n1 σ1 (pc + 3) ls (.long x9 :: rest)) : G o γ cells slots n σ pc ls st0 := g_callSN X Y hd hM hlk hSp hn hrm ⟨hc, hs⟩ hcat hst (fun r σ1 ⟨x9, hr, hp⟩ => by subst hr; exact kk x9 σ1 hp)
theorem g_callSN_A (X : gX o γ cc nL own) {d mc ms n0 : Nat} {ret : Option FieldType} {pst : Option Value → gSt → Prop} (Y : gE o γ d mc ms n0 ret pst) {M : gM} {idx d1 n1 : Nat} {host : String} {as : List Value} {P : Nat → gSt → Prop} (hd : decode cc pc = .ok (.invokestatic idx, 3)) (hM : MI M) (hlk : LSN own idx host M) (hSp : Sp o γ.2.1 M d1 0 0 as n n1 σ (pA P)) (hn : as.length = M.2.2.2.2) (hrm : d1 + 1 ≤ d ∧ 8 + (M.2.2.1 + 11) + 40 * d1 ≤ 40 * d) (hc : cells ≤ mc) (hs : slots ≤ ms) {st0 : List Value} (hst : st0 = as.reverse ++ rest) (hcat : (rest.map fun v => v.category).sum ≤ 8) (kk : ∀ (x9 : Nat) (σ1 : gSt), P x9 σ1 → G o γ cells slots n1 σ1 (pc + 3) ls (.ref x9 :: rest)) : G o γ cells slots n σ pc ls st0 := g_callSN X Y hd hM hlk hSp hn hrm ⟨hc, hs⟩ hcat hst (fun r σ1 ⟨x9, hr, hp⟩ => by subst hr; exact kk x9 σ1 hp)
theorem g_callSN_V (X : gX o γ cc nL own) {d mc ms n0 : Nat} {ret : Option FieldType} {pst : Option Value → gSt → Prop} (Y : gE o γ d mc ms n0 ret pst) {M : gM} {idx d1 n1 : Nat} {host : String} {as : List Value} {P : gSt → Prop} (hd : decode cc pc = .ok (.invokestatic idx, 3)) (hM : MI M) (hlk : LSN own idx host M) (hSp : Sp o γ.2.1 M d1 0 0 as n n1 σ (pV P)) (hn : as.length = M.2.2.2.2) (hrm : d1 + 1 ≤ d ∧ 8 + (M.2.2.1 + 11) + 40 * d1 ≤ 40 * d) (hc : cells ≤ mc) (hs : slots ≤ ms) {st0 : List Value} (hst : st0 = as.reverse ++ rest) (hcat : (rest.map fun v => v.category).sum ≤ 8) (kk : ∀ σ1 : gSt, P σ1 → G o γ cells slots n1 σ1 (pc + 3) ls rest) : G o γ cells slots n σ pc ls st0 := g_callSN X Y hd hM hlk hSp hn hrm ⟨hc, hs⟩ hcat hst (fun r σ1 ⟨hr, hp⟩ => by subst hr; exact kk σ1 hp)
theorem g_val {v : Value} {pcJ : Nat} {lsJ : List (Option Value)} {restJ st : List Value} (B : (∀ u : Value, u = v → G o γ cells slots n σ pcJ lsJ (u :: restJ)) → G o γ cells slots n σ pc ls st) (J : G o γ cells slots n σ pcJ lsJ (v :: restJ)) : G o γ cells slots n σ pc ls st := B (fun u h => h ▸ J)
def zI (b : Bool) : Int32 := cond b (nI 1) (nI 0)
theorem zI_01 (b : Bool) : zI b = 0 ∨ zI b = 1 := by cases b <;> first | exact Or.inl rfl | exact Or.inr rfl
theorem zI_t : zI true = nI 1 := rfl
theorem zI_f : zI false = nI 0 := rfl
theorem zI_eq {b : Bool} : zI b = 0 ↔ b = false := by cases b <;> simp [zI, nI_0] <;> decide
theorem g_if_eq_z (X : gX o γ cc nL own) {b : Bool} {off : Int} {tgt : Nat} (hd : decode cc pc = .ok (.ifCond .eq off, 3)) (ht : (pc : Int) + off = (tgt : Int)) (kt : b = false → G o γ cells slots n σ tgt ls rest) (kf : b = true → G o γ cells slots n σ (pc + 3) ls rest) : G o γ cells slots n σ pc ls (.int (zI b) :: rest) := g_if_eq X hd ht (fun h => kt (zI_eq.mp h)) (fun h => kf (by cases b; exact absurd (zI_eq.mpr rfl) h; rfl))
theorem g_if_ne_z (X : gX o γ cc nL own) {b : Bool} {off : Int} {tgt : Nat} (hd : decode cc pc = .ok (.ifCond .ne off, 3)) (ht : (pc : Int) + off = (tgt : Int)) (kt : b = true → G o γ cells slots n σ tgt ls rest) (kf : b = false → G o γ cells slots n σ (pc + 3) ls rest) : G o γ cells slots n σ pc ls (.int (zI b) :: rest) := g_if_ne X hd ht (fun h => kt (by cases b; exact absurd (zI_eq.mpr rfl) h; rfl)) (fun h => kf (zI_eq.mp h))
def lsub : List (Option Value) → List (Option Value) → Prop
  | [], [] => True
  | a :: t, b :: u => (a = none ∨ a = b) ∧ lsub t u
  | _, _ => False
theorem lsub_spec : ∀ (l l2 : List (Option Value)), lsub l l2 → l.length = l2.length ∧ ∀ (i : Nat) (v : Value), l[i]? = some (some v) → l2[i]? = some (some v)
  | [], [], _ => ⟨rfl, fun i v h => by simp at h⟩
  | [], _ :: _, h => h.elim
  | _ :: _, [], h => h.elim
  | a :: t, b :: u, ⟨h1, h2⟩ => by
    obtain ⟨e1, e2⟩ := lsub_spec t u h2
    refine ⟨by simp [e1], fun i v h => ?_⟩
    cases i with
    | zero =>
      rcases h1 with h1 | h1
      · subst h1; simp at h
      · subst h1; exact h
    | succ i => exact e2 i v h
theorem g_drop {ls2 : List (Option Value)} (h : lsub ls2 ls) (k : G o γ cells slots n σ pc ls2 rest) : G o γ cells slots n σ pc ls rest := g_forget (lsub_spec _ _ h).1 (lsub_spec _ _ h).2 k
theorem cmp_all (x y : Int64) : (lg_cmp x y = 0 ↔ x = y) ∧ (lg_cmp x y < 0 ↔ x < y) ∧ (0 < lg_cmp x y ↔ y < x) := ⟨lg_cmp_eq x y, lg_cmp_lt x y, lg_cmp_gt x y⟩

theorem g_lcmp_eq (X : gX o γ cc nL own) {x y : Int64} {off : Int} {tgt : Nat} (hd : decode cc pc = .ok (.lcmp, 1)) (hd2 : decode cc (pc + 1) = .ok (.ifCond .eq off, 3)) (ht : (pc + 1 : Int) + off = (tgt : Int)) (kt : x = y → G o γ cells slots n σ tgt ls rest) (kf : ¬ x = y → G o γ cells slots n σ (pc + 4) ls rest) : G o γ cells slots n σ pc ls (.long y :: .long x :: rest) := g_lcmp X hd (g_if_eq X hd2 ht (fun h => kt ((cmp_all x y).1.mp h)) (fun h => kf (fun q => h ((cmp_all x y).1.mpr q))))
theorem g_lcmp_ne (X : gX o γ cc nL own) {x y : Int64} {off : Int} {tgt : Nat} (hd : decode cc pc = .ok (.lcmp, 1)) (hd2 : decode cc (pc + 1) = .ok (.ifCond .ne off, 3)) (ht : (pc + 1 : Int) + off = (tgt : Int)) (kt : ¬ x = y → G o γ cells slots n σ tgt ls rest) (kf : x = y → G o γ cells slots n σ (pc + 4) ls rest) : G o γ cells slots n σ pc ls (.long y :: .long x :: rest) := g_lcmp X hd (g_if_ne X hd2 ht (fun h => kt (fun q => h ((cmp_all x y).1.mpr q))) (fun h => kf ((cmp_all x y).1.mp h)))
theorem g_lcmp_lt (X : gX o γ cc nL own) {x y : Int64} {off : Int} {tgt : Nat} (hd : decode cc pc = .ok (.lcmp, 1)) (hd2 : decode cc (pc + 1) = .ok (.ifCond .lt off, 3)) (ht : (pc + 1 : Int) + off = (tgt : Int)) (kt : x < y → G o γ cells slots n σ tgt ls rest) (kf : ¬ x < y → G o γ cells slots n σ (pc + 4) ls rest) : G o γ cells slots n σ pc ls (.long y :: .long x :: rest) := g_lcmp X hd (g_if_lt X hd2 ht (fun h => kt ((cmp_all x y).2.1.mp h)) (fun h => kf (fun q => h ((cmp_all x y).2.1.mpr q))))
theorem g_lcmp_ge (X : gX o γ cc nL own) {x y : Int64} {off : Int} {tgt : Nat} (hd : decode cc pc = .ok (.lcmp, 1)) (hd2 : decode cc (pc + 1) = .ok (.ifCond .ge off, 3)) (ht : (pc + 1 : Int) + off = (tgt : Int)) (kt : ¬ x < y → G o γ cells slots n σ tgt ls rest) (kf : x < y → G o γ cells slots n σ (pc + 4) ls rest) : G o γ cells slots n σ pc ls (.long y :: .long x :: rest) := g_lcmp X hd (g_if_ge X hd2 ht (fun h => kt (fun q => absurd ((cmp_all x y).2.1.mpr q) (Int32.not_lt.mpr h))) (fun h => kf ((cmp_all x y).2.1.mp (Int32.not_le.mp h))))
theorem g_lcmp_gt (X : gX o γ cc nL own) {x y : Int64} {off : Int} {tgt : Nat} (hd : decode cc pc = .ok (.lcmp, 1)) (hd2 : decode cc (pc + 1) = .ok (.ifCond .gt off, 3)) (ht : (pc + 1 : Int) + off = (tgt : Int)) (kt : y < x → G o γ cells slots n σ tgt ls rest) (kf : ¬ y < x → G o γ cells slots n σ (pc + 4) ls rest) : G o γ cells slots n σ pc ls (.long y :: .long x :: rest) := g_lcmp X hd (g_if_gt X hd2 ht (fun h => kt ((cmp_all x y).2.2.mp h)) (fun h => kf (fun q => h ((cmp_all x y).2.2.mpr q))))
theorem g_lcmp_le (X : gX o γ cc nL own) {x y : Int64} {off : Int} {tgt : Nat} (hd : decode cc pc = .ok (.lcmp, 1)) (hd2 : decode cc (pc + 1) = .ok (.ifCond .le off, 3)) (ht : (pc + 1 : Int) + off = (tgt : Int)) (kt : ¬ y < x → G o γ cells slots n σ tgt ls rest) (kf : y < x → G o γ cells slots n σ (pc + 4) ls rest) : G o γ cells slots n σ pc ls (.long y :: .long x :: rest) := g_lcmp X hd (g_if_le X hd2 ht (fun h => kt (fun q => absurd ((cmp_all x y).2.2.mpr q) (Int32.not_lt.mpr h))) (fun h => kf ((cmp_all x y).2.2.mp (Int32.not_le.mp h))))
theorem g_mmax (X : gX o γ cc nL own) {d mc ms n0 : Nat} {ret : Option FieldType} {pst : Option Value → gSt → Prop} (Y : gE o γ d mc ms n0 ret pst) {x y : Int32} {idx : Nat} (hd : decode cc pc = .ok (.invokestatic idx, 3)) (hlk : LSt own idx (Lib.Math.max.name, Lib.Math.max.code, 2, some .int, 2)) (h1 : 1 ≤ d) (hc : cells ≤ mc) (hs : slots ≤ ms) (hcat : (rest.map fun v => v.category).sum ≤ 8) (k : G o γ cells slots n σ (pc + 3) ls (.int (if x < y then y else x) :: rest)) : G o γ cells slots n σ pc ls (.int y :: .int x :: rest) := by
  obtain ⟨p, l, e, R, s, m, args, below, meth, c, Q⟩ := γ
  obtain ⟨hx, hb, hml, hown, hts, hK, hbase, hlock, hfx⟩ := X
  intro H locs lsC hW hS hn hl
  have hR := Y.1
  subst hR
  exact va_mmax hx hb hl.1.symm hown (hts _ hlk.1) (hts _ hlk.2) (hts _ mw_ini) (hts _ mw_max) h1 (by show _ ≤ 40 * d; omega) hc hs hd (k H locs lsC hW hS hn hl)
theorem g_mmin (X : gX o γ cc nL own) {d mc ms n0 : Nat} {ret : Option FieldType} {pst : Option Value → gSt → Prop} (Y : gE o γ d mc ms n0 ret pst) {x y : Int32} {idx : Nat} (hd : decode cc pc = .ok (.invokestatic idx, 3)) (hlk : LSt own idx (Lib.Math.min.name, Lib.Math.min.code, 2, some .int, 2)) (h1 : 1 ≤ d) (hc : cells ≤ mc) (hs : slots ≤ ms) (hcat : (rest.map fun v => v.category).sum ≤ 8) (k : G o γ cells slots n σ (pc + 3) ls (.int (if y < x then y else x) :: rest)) : G o γ cells slots n σ pc ls (.int y :: .int x :: rest) := by
  obtain ⟨p, l, e, R, s, m, args, below, meth, c, Q⟩ := γ
  obtain ⟨hx, hb, hml, hown, hts, hK, hbase, hlock, hfx⟩ := X
  intro H locs lsC hW hS hn hl
  have hR := Y.1
  subst hR
  exact va_mmin hx hb hl.1.symm hown (hts _ hlk.1) (hts _ hlk.2) (hts _ mw_ini) (hts _ mw_min) h1 (by show _ ≤ 40 * d; omega) hc hs hd (k H locs lsC hW hS hn hl)
theorem g_mabs (X : gX o γ cc nL own) {d mc ms n0 : Nat} {ret : Option FieldType} {pst : Option Value → gSt → Prop} (Y : gE o γ d mc ms n0 ret pst) {x : Int32} {idx : Nat} (hd : decode cc pc = .ok (.invokestatic idx, 3)) (hlk : LSt own idx (Lib.Math.abs.name, Lib.Math.abs.code, 1, some .int, 1)) (h1 : 1 ≤ d) (hc : cells ≤ mc) (hs : slots ≤ ms) (hcat : (rest.map fun v => v.category).sum ≤ 8) (k : G o γ cells slots n σ (pc + 3) ls (.int (if 0 ≤ x then x else 0 - x) :: rest)) : G o γ cells slots n σ pc ls (.int x :: rest) := by
  obtain ⟨p, l, e, R, s, m, args, below, meth, c, Q⟩ := γ
  obtain ⟨hx, hb, hml, hown, hts, hK, hbase, hlock, hfx⟩ := X
  intro H locs lsC hW hS hn hl
  have hR := Y.1
  subst hR
  exact va_mabs hx hb hl.1.symm hown (hts _ hlk.1) (hts _ hlk.2) (hts _ mw_ini) (hts _ mw_abs) h1 (by show _ ≤ 40 * d; omega) hc hs hd (k H locs lsC hW hS hn hl)
def sC (σ : gSt) (k : Nat) (f : Nat → Int32) : gSt := (fun a => if a = k then f else σ.1 a, σ.2.1, σ.2.2)
theorem sC_get {σ : gSt} {k a b : Nat} {f : Nat → Int32} : (sC σ k f).1 a b = if a = k then f b else σ.1 a b := by
  by_cases h : a = k <;> simp [sC, h]
theorem g_copy (X : gX o γ cc nL own) {d mc ms n0 : Nat} {ret : Option FieldType} {pst : Option Value → gSt → Prop} (Y : gE o γ d mc ms n0 ret pst) {idx k1 k2 len1 len2 a1 a2 m1 : Nat} (hd : decode cc pc = .ok (.invokestatic idx, 3)) (hlk : Cond.methodLink own idx arraycopyName ∈ BIG) (h1 : 1 ≤ d) (hl1 : lay k1 = (0, len1)) (hl2 : lay k2 = (0, len2)) (hk1 : k1 < 116) (hk2 : k2 < 116) (hi1 : a1 + m1 ≤ len1) (hi2 : a2 + m1 ≤ len2) (hcat : (rest.map fun v => v.category).sum ≤ 8) (k : G o γ cells slots 116 (sC σ k2 (va_cpy (σ.1 k1) (σ.1 k2) a1 a2 m1)) (pc + 3) ls rest) : G o γ cells slots 116 σ pc ls (.int (nI m1) :: .int (nI a2) :: .ref (ad o k2) :: .int (nI a1) :: .ref (ad o k1) :: rest) := by
  have hs1 := lay_small hl1
  have hs2 := lay_small hl2
  obtain ⟨p, l, e, R, s, m, args, below, meth, c, Q⟩ := γ
  obtain ⟨hx, hb, hml, hown, hts, hK, hbase, hlock, hfx⟩ := X
  intro H locs lsC hW hS hn hl
  have hR := Y.1
  subst hR
  have b1 : (nI a1).toNatClampNeg = a1 := nI_clamp (by omega)
  have b2 : (nI a2).toNatClampNeg = a2 := nI_clamp (by omega)
  have b3 : (nI m1).toNatClampNeg = m1 := nI_clamp (by omega)
  refine va_copyi (ls := lsC) hx hb hl.1.symm hown (hts _ hlk) (hts _ mw_cpn) (hts _ mw_cps) (hts _ mw_sys) hK hW.1 wl_D hS k1 k2 0 0 (f := σ.1 k1) (g := σ.1 k2) (by rw [wl_get hk1, ent_i hl1]) (by rw [wl_get hk2, ent_i hl2]) rfl rfl rfl (nI_pos (by omega)) (nI_pos (by omega)) (nI_pos (by omega)) (by rw [b1, b3]; exact hi1) (by rw [b2, b3]; exact hi2) (fun _ _ => rfl) h1 (by show _ ≤ 40 * d; have h9 : nativeFrameWords "java/lang/System" "arraycopy" 5 ≤ 20 := (by decide +kernel); omega) hd (fun H1 locs1 g1 g2 g3 => ?_)
  rw [b1, b2, b3, wl_set (σ := σ) (σ' := sC σ k2 (va_cpy (σ.1 k1) (σ.1 k2) a1 a2 m1)) (by rw [ent_i hl2]; simp [sC]) (fun a ha => ent_congr (by simp [sC, ha]) rfl rfl)] at g1
  refine k H1 locs1 lsC ⟨g1, fun q => absurd q (by decide), ?_⟩ g3 hn hl
  have := (g1 115 _ (wl_get (by decide))).lt
  have e : ((ad o 115, ent o (sC σ k2 (va_cpy (σ.1 k1) (σ.1 k2) a1 a2 m1)) 115) : Nat × va_E).1 = gB o + 115 := rfl
  omega
end GN
theorem kbipush_m19 : (Int8.ofInt (-19)).toInt32 = -19 := by decide +kernel
theorem kbipush_m18 : (Int8.ofInt (-18)).toInt32 = -18 := by decide +kernel
theorem kbipush_m17 : (Int8.ofInt (-17)).toInt32 = -17 := by decide +kernel
theorem kbipush_m16 : (Int8.ofInt (-16)).toInt32 = -16 := by decide +kernel
theorem kbipush_m15 : (Int8.ofInt (-15)).toInt32 = -15 := by decide +kernel
theorem kbipush_m14 : (Int8.ofInt (-14)).toInt32 = -14 := by decide +kernel
theorem kbipush_m13 : (Int8.ofInt (-13)).toInt32 = -13 := by decide +kernel
theorem kbipush_m12 : (Int8.ofInt (-12)).toInt32 = -12 := by decide +kernel
theorem kbipush_m11 : (Int8.ofInt (-11)).toInt32 = -11 := by decide +kernel
theorem kbipush_m10 : (Int8.ofInt (-10)).toInt32 = -10 := by decide +kernel
theorem kbipush_m9 : (Int8.ofInt (-9)).toInt32 = -9 := by decide +kernel
theorem kbipush_m8 : (Int8.ofInt (-8)).toInt32 = -8 := by decide +kernel
theorem kbipush_m7 : (Int8.ofInt (-7)).toInt32 = -7 := by decide +kernel
theorem kbipush_m6 : (Int8.ofInt (-6)).toInt32 = -6 := by decide +kernel
theorem kbipush_m2 : (Int8.ofInt (-2)).toInt32 = -2 := by decide +kernel
theorem kbipush_6 : (Int8.ofInt (6)).toInt32 = nI 6 := by decide +kernel
theorem kbipush_7 : (Int8.ofInt (7)).toInt32 = nI 7 := by decide +kernel
theorem kbipush_8 : (Int8.ofInt (8)).toInt32 = nI 8 := by decide +kernel
theorem kbipush_9 : (Int8.ofInt (9)).toInt32 = nI 9 := by decide +kernel
theorem kbipush_10 : (Int8.ofInt (10)).toInt32 = nI 10 := by decide +kernel
theorem kbipush_11 : (Int8.ofInt (11)).toInt32 = nI 11 := by decide +kernel
theorem kbipush_12 : (Int8.ofInt (12)).toInt32 = nI 12 := by decide +kernel
theorem kbipush_13 : (Int8.ofInt (13)).toInt32 = nI 13 := by decide +kernel
theorem kbipush_14 : (Int8.ofInt (14)).toInt32 = nI 14 := by decide +kernel
theorem kbipush_15 : (Int8.ofInt (15)).toInt32 = nI 15 := by decide +kernel
theorem kbipush_16 : (Int8.ofInt (16)).toInt32 = nI 16 := by decide +kernel
theorem kbipush_17 : (Int8.ofInt (17)).toInt32 = nI 17 := by decide +kernel
theorem kbipush_18 : (Int8.ofInt (18)).toInt32 = nI 18 := by decide +kernel
theorem kbipush_20 : (Int8.ofInt (20)).toInt32 = nI 20 := by decide +kernel
theorem kbipush_24 : (Int8.ofInt (24)).toInt32 = nI 24 := by decide +kernel
theorem kbipush_30 : (Int8.ofInt (30)).toInt32 = nI 30 := by decide +kernel
theorem kbipush_31 : (Int8.ofInt (31)).toInt32 = nI 31 := by decide +kernel
theorem kbipush_32 : (Int8.ofInt (32)).toInt32 = nI 32 := by decide +kernel
theorem kbipush_40 : (Int8.ofInt (40)).toInt32 = nI 40 := by decide +kernel
theorem kbipush_41 : (Int8.ofInt (41)).toInt32 = nI 41 := by decide +kernel
theorem kbipush_42 : (Int8.ofInt (42)).toInt32 = nI 42 := by decide +kernel
theorem kbipush_43 : (Int8.ofInt (43)).toInt32 = nI 43 := by decide +kernel
theorem kbipush_44 : (Int8.ofInt (44)).toInt32 = nI 44 := by decide +kernel
theorem kbipush_45 : (Int8.ofInt (45)).toInt32 = nI 45 := by decide +kernel
theorem kbipush_47 : (Int8.ofInt (47)).toInt32 = nI 47 := by decide +kernel
theorem kbipush_48 : (Int8.ofInt (48)).toInt32 = nI 48 := by decide +kernel
theorem kbipush_57 : (Int8.ofInt (57)).toInt32 = nI 57 := by decide +kernel
theorem kbipush_59 : (Int8.ofInt (59)).toInt32 = nI 59 := by decide +kernel
theorem kbipush_60 : (Int8.ofInt (60)).toInt32 = nI 60 := by decide +kernel
theorem kbipush_61 : (Int8.ofInt (61)).toInt32 = nI 61 := by decide +kernel
theorem kbipush_62 : (Int8.ofInt (62)).toInt32 = nI 62 := by decide +kernel
theorem kbipush_63 : (Int8.ofInt (63)).toInt32 = nI 63 := by decide +kernel
theorem kbipush_64 : (Int8.ofInt (64)).toInt32 = nI 64 := by decide +kernel
theorem kbipush_91 : (Int8.ofInt (91)).toInt32 = nI 91 := by decide +kernel
theorem kbipush_93 : (Int8.ofInt (93)).toInt32 = nI 93 := by decide +kernel
theorem kbipush_96 : (Int8.ofInt (96)).toInt32 = nI 96 := by decide +kernel
theorem kbipush_97 : (Int8.ofInt (97)).toInt32 = nI 97 := by decide +kernel
theorem kbipush_100 : (Int8.ofInt (100)).toInt32 = nI 100 := by decide +kernel
theorem kbipush_122 : (Int8.ofInt (122)).toInt32 = nI 122 := by decide +kernel
theorem kbipush_127 : (Int8.ofInt (127)).toInt32 = nI 127 := by decide +kernel
theorem kiconst_m1 : Int32.ofInt (-1) = -1 := by decide +kernel
theorem kiconst_0 : Int32.ofInt (0) = nI 0 := by decide +kernel
theorem kiconst_1 : Int32.ofInt (1) = nI 1 := by decide +kernel
theorem kiconst_2 : Int32.ofInt (2) = nI 2 := by decide +kernel
theorem kiconst_3 : Int32.ofInt (3) = nI 3 := by decide +kernel
theorem kiconst_4 : Int32.ofInt (4) = nI 4 := by decide +kernel
theorem kiconst_5 : Int32.ofInt (5) = nI 5 := by decide +kernel
theorem ksipush_m10000 : (Int16.ofInt (-10000)).toInt32 = -10000 := by decide +kernel
theorem ksipush_150 : (Int16.ofInt (150)).toInt32 = nI 150 := by decide +kernel
theorem ksipush_180 : (Int16.ofInt (180)).toInt32 = nI 180 := by decide +kernel
theorem ksipush_199 : (Int16.ofInt (199)).toInt32 = nI 199 := by decide +kernel
theorem ksipush_200 : (Int16.ofInt (200)).toInt32 = nI 200 := by decide +kernel
theorem ksipush_220 : (Int16.ofInt (220)).toInt32 = nI 220 := by decide +kernel
theorem ksipush_255 : (Int16.ofInt (255)).toInt32 = nI 255 := by decide +kernel
theorem ksipush_256 : (Int16.ofInt (256)).toInt32 = nI 256 := by decide +kernel
theorem ksipush_400 : (Int16.ofInt (400)).toInt32 = nI 400 := by decide +kernel
theorem ksipush_401 : (Int16.ofInt (401)).toInt32 = nI 401 := by decide +kernel
theorem ksipush_900 : (Int16.ofInt (900)).toInt32 = nI 900 := by decide +kernel
theorem ksipush_9999 : (Int16.ofInt (9999)).toInt32 = nI 9999 := by decide +kernel
theorem ksipush_10000 : (Int16.ofInt (10000)).toInt32 = nI 10000 := by decide +kernel
/-! what a store leaves -/
def Off (ks : List Nat) (σ σ' : gSt) : Prop := (∀ k, k ∉ ks → σ'.1 k = σ.1 k ∧ σ'.2.1 k = σ.2.1 k) ∧ σ'.2.2 = σ.2.2
theorem Off.rf {ks : List Nat} {σ : gSt} : Off ks σ σ := ⟨fun _ _ => ⟨rfl, rfl⟩, rfl⟩
theorem Off.trans {ks : List Nat} {σ σ1 σ2 : gSt} (h1 : Off ks σ σ1) (h2 : Off ks σ1 σ2) : Off ks σ σ2 := ⟨fun k hk => ⟨(h2.1 k hk).1.trans (h1.1 k hk).1, (h2.1 k hk).2.trans (h1.1 k hk).2⟩, h2.2.trans h1.2⟩
theorem Off.mono {ks ls : List Nat} {σ σ1 : gSt} (h : Off ks σ σ1) (hs : ∀ k ∈ ks, k ∈ ls) : Off ls σ σ1 := ⟨fun k hk => h.1 k (fun q => hk (hs k q)), h.2⟩
theorem Off.i {ks : List Nat} {σ σ1 : gSt} {k j : Nat} {x : Int32} (h : Off ks σ σ1) (hk : k ∈ ks) : Off ks σ (sI σ1 k j x) := ⟨fun a ha => by
  have hne : a ≠ k := fun q => ha (q ▸ hk)
  refine ⟨?_, (h.1 a ha).2⟩
  rw [← (h.1 a ha).1]
  simp [sI, hne], h.2⟩
theorem Off.l {ks : List Nat} {σ σ1 : gSt} {k j : Nat} {x : Int64} (h : Off ks σ σ1) (hk : k ∈ ks) : Off ks σ (sL σ1 k j x) := ⟨fun a ha => by
  have hne : a ≠ k := fun q => ha (q ▸ hk)
  refine ⟨(h.1 a ha).1, ?_⟩
  rw [← (h.1 a ha).2]
  simp [sL, hne], h.2⟩
theorem sI_get {σ : gSt} {k j a b : Nat} {x : Int32} : (sI σ k j x).1 a b = if a = k ∧ b = j then x else σ.1 a b := by
  by_cases h : a = k
  · subst h
    simp [sI, upd]
  · simp [sI, h]
theorem sI_get2 {σ : gSt} {k j a b : Nat} {x : Int32} : (sI σ k j x).2.1 a b = σ.2.1 a b := rfl
theorem sL_get {σ : gSt} {k j a b : Nat} {x : Int64} : (sL σ k j x).2.1 a b = if a = k ∧ b = j then x else σ.2.1 a b := by
  by_cases h : a = k
  · subst h
    simp [sL, vp_updL]
  · simp [sL, h]
theorem sL_get1 {σ : gSt} {k j a b : Nat} {x : Int64} : (sL σ k j x).1 a b = σ.1 a b := rfl
def gRL (b : Bool) : List (List (Option Nat)) := [[some 1, some 4, some 16, some 30, some 33, some 38, some 42, some 46, some 50, some 56, some 63, some 64], [none, some 2, some 3], [], [], [none, none, none, some (if b then 17 else 5), some 12, some 13, some 14, some 15], [none, none, none, none, none, none, some 6, some 7, some 8, some 9, some 10, some 11], [], [], [], [], [], [], [], [], [], [], [some 1, some (if b then 5 else 17), none, some 24, some 25, some 26, some 27, some 28, some 29], [none, none, none, none, none, none, some 18, some 19, some 20, some 21, some 22, some 23], [], [], [], [], [], [], [], [], [], [], [], [], [some 31, some 32, none, some 1, some 16], [], [], [some 34, none, none, some 16, some 30, some 35, some 36, some 37], [], [], [], [], [none, none, none, none, some 33, some 16, some 30, none, some 39, some 40, some 41], [], [], [], [none, none, none, some 16, some 43, some 44, some 45], [], [], [], [some 47, some 16, some 30, some 48, some 49], [], [], [], [none, none, some 51, some 52, some 53, some 54, some 55, some 16, some 30], [], [], [], [], [], [none, none, none, some 50, some 57, some 58, some 59, some 60, some 61, some 62], [], [], [], [], [], [], [], [], [none, none, some 66, some 67, some 68, some 69, some 70, some 71, some 72, none, none, none, none, none, none, none, none, none, none, some 73, some 74, some 75, some 76, some 77, some 78, some 79, some 80, some 81, some 82, some 83, some 84, some 85, some 86, none, some 87, some 88, some 89, some 90, some 91, some 92, some 93, none, none, none, none, some 94, some 95, some 96, some 97, some 98, none, none, none, none, none, some 99, none, none, some 100, some 101, none, none, none, some 102, none, some 103, some 104, some 105, none, none, none, none, none, none, none, none, none, none, none, none, none, some 106, some 107, some 108, some 109, some 110, some 111, some 112, none, some 113, some 114], [], [], [], [], [], [], [], [], [], [], [], [], [], [], [], [], [], [], [], [], [], [], [], [], [], [], [], [], [], [], [], [], [], [], [], [], [], [], [], [], [], [], [], [], [], [], [], [], [], []]
def gRf (b : Bool) (k j : Nat) : Option Nat := ((gRL b).getD k []).getD j none
