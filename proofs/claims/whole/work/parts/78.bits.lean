/-! how many bits -/
theorem dl8 {a r m M : Nat} (ha : a < 256) (hm : m < 256) : (a + 256 * r) &&& (m + 256 * M) = (a &&& m) + 256 * (r &&& M) := by
  have e1 : ((a + 256 * r) &&& (m + 256 * M)) % 2 ^ 8 = a &&& m := by
    rw [Nat.and_mod_two_pow, show (a + 256 * r) % 2 ^ 8 = a by omega, show (m + 256 * M) % 2 ^ 8 = m by omega]
  have e2 : ((a + 256 * r) &&& (m + 256 * M)) / 2 ^ 8 = r &&& M := by
    rw [Nat.and_div_two_pow, show (a + 256 * r) / 2 ^ 8 = r by omega, show (m + 256 * M) / 2 ^ 8 = M by omega]
  omega
def bval : List Nat → Nat
  | [] => 0
  | x :: l => x + 256 * bval l
def bq1 (x : Nat) : Nat := x - ((x / 2) &&& 85)
def bq2 (y : Nat) : Nat := (y &&& 51) + ((y / 4) &&& 51)
def bq3 (z : Nat) : Nat := (z + z / 16) &&& 15
def bqw (x : Nat) : Nat := fa_cnt (Nat.testBit x) 8
theorem bq1_f : ∀ x, x < 256 → (((x / 2) &&& 85) = ((x / 2 + 128) &&& 85) ∧ ((x / 2) &&& 85) ≤ x ∧ x / 2 + 128 < 256 ∧ bq1 x < 256) := by decide +kernel
theorem bq2_f : ∀ y, y < 256 → (∀ h, h < 4 → ((y / 4 + 64 * h) &&& 51) = ((y / 4) &&& 51) ∧ y / 4 + 64 * h < 256) := by decide +kernel
theorem bq2_g : ∀ x, x < 256 → (bq2 (bq1 x) % 16 ≤ 4 ∧ bq2 (bq1 x) ≤ 68 ∧ bq3 (bq2 (bq1 x)) = bqw x ∧ bqw x ≤ 8) := by decide +kernel
theorem bq3_f : ∀ z, z < 69 → (∀ h, h < 5 → ((z + z / 16 + 16 * h) &&& 15) = bq3 z ∧ z + z / 16 + 16 * h < 256) := by decide +kernel
theorem bs1 : ∀ (l : List Nat), (∀ x ∈ l, x < 256) → ((bval l / 2) &&& bval (l.map fun _ => 85)) ≤ bval l ∧ bval l - ((bval l / 2) &&& bval (l.map fun _ => 85)) = bval (l.map bq1)
  | [], _ => by decide
  | x :: l, h => by
    obtain ⟨i1, i2⟩ := bs1 l (fun y hy => h y (List.mem_cons_of_mem _ hy))
    obtain ⟨f1, f2, f3, f4⟩ := bq1_f x (h x List.mem_cons_self)
    have hx := h x List.mem_cons_self
    show ((x + 256 * bval l) / 2 &&& (85 + 256 * bval (l.map fun _ => 85))) ≤ x + 256 * bval l ∧ (x + 256 * bval l) - ((x + 256 * bval l) / 2 &&& (85 + 256 * bval (l.map fun _ => 85))) = bq1 x + 256 * bval (l.map bq1)
    rw [show (x + 256 * bval l) / 2 = (x / 2 + 128 * (bval l % 2)) + 256 * (bval l / 2) by omega]
    rw [dl8 (by omega) (by decide)]
    have e : (x / 2 + 128 * (bval l % 2)) &&& 85 = (x / 2) &&& 85 := by
      rcases (show bval l % 2 = 0 ∨ bval l % 2 = 1 by omega) with z | z <;> rw [z]
      · rfl
      · exact f1.symm
    rw [e, show bq1 x = x - ((x / 2) &&& 85) from rfl]
    omega
theorem bs2 : ∀ (l : List Nat), (∀ x ∈ l, x < 256) → (bval l &&& bval (l.map fun _ => 51)) + ((bval l / 4) &&& bval (l.map fun _ => 51)) = bval (l.map bq2)
  | [], _ => by decide
  | x :: l, h => by
    have i2 := bs2 l (fun y hy => h y (List.mem_cons_of_mem _ hy))
    have hx := h x List.mem_cons_self
    have f := bq2_f x hx (bval l % 4) (by omega)
    show ((x + 256 * bval l) &&& (51 + 256 * bval (l.map fun _ => 51))) + ((x + 256 * bval l) / 4 &&& (51 + 256 * bval (l.map fun _ => 51))) = bq2 x + 256 * bval (l.map bq2)
    rw [show (x + 256 * bval l) / 4 = (x / 4 + 64 * (bval l % 4)) + 256 * (bval l / 4) by omega]
    rw [dl8 hx (by decide), dl8 f.2 (by decide), f.1]
    rw [show bq2 x = (x &&& 51) + ((x / 4) &&& 51) from rfl]
    omega
theorem bval_16 : ∀ (l : List Nat), (∀ x ∈ l, x % 16 ≤ 4) → bval l % 16 ≤ 4
  | [], _ => by decide
  | x :: l, h => by
    have := h x List.mem_cons_self
    show (x + 256 * bval l) % 16 ≤ 4
    omega
theorem bs3 : ∀ (l : List Nat), (∀ x ∈ l, x % 16 ≤ 4 ∧ x ≤ 68) → (bval l + bval l / 16) &&& bval (l.map fun _ => 15) = bval (l.map bq3)
  | [], _ => by decide
  | x :: l, h => by
    have i2 := bs3 l (fun y hy => h y (List.mem_cons_of_mem _ hy))
    have hx := h x List.mem_cons_self
    have h4 := bval_16 l (fun y hy => (h y (List.mem_cons_of_mem _ hy)).1)
    have f := bq3_f x (by omega) (bval l % 16) (by omega)
    show ((x + 256 * bval l) + (x + 256 * bval l) / 16) &&& (15 + 256 * bval (l.map fun _ => 15)) = bq3 x + 256 * bval (l.map bq3)
    rw [show (x + 256 * bval l) + (x + 256 * bval l) / 16 = (x + x / 16 + 16 * (bval l % 16)) + 256 * (bval l + bval l / 16) by omega]
    rw [dl8 f.2 (by decide), f.1, i2]
theorem fa_cnt_add (p : Nat → Bool) (n : Nat) : ∀ m, fa_cnt p (n + m) = fa_cnt p n + fa_cnt (fun k => p (n + k)) m
  | 0 => rfl
  | m + 1 => by rw [← Nat.add_assoc, fa_cnt, fa_cnt, fa_cnt_add p n m]; omega
def bsum : List Nat → Nat
  | [] => 0
  | x :: l => x + bsum l
theorem bcnt : ∀ (l : List Nat), (∀ x ∈ l, x < 256) → fa_cnt (Nat.testBit (bval l)) (8 * l.length) = bsum (l.map bqw)
  | [], _ => rfl
  | x :: l, h => by
    have i := bcnt l (fun y hy => h y (List.mem_cons_of_mem _ hy))
    have hx := h x List.mem_cons_self
    rw [List.length_cons, show 8 * (l.length + 1) = 8 + 8 * l.length by omega, fa_cnt_add]
    show _ = bqw x + bsum (l.map bqw)
    rw [← i]
    congr 1
    · refine fa_cnt_cong (fun k hk => ?_)
      have ex : x = bval (x :: l) % 2 ^ 8 := by show x = (x + 256 * bval l) % 2 ^ 8; omega
      have e2 : Nat.testBit x k = Nat.testBit (bval (x :: l) % 2 ^ 8) k := congrArg (fun y => Nat.testBit y k) ex
      rw [Nat.testBit_mod_two_pow, decide_eq_true hk, Bool.true_and] at e2
      exact e2.symm
    · refine fa_cnt_cong (fun k hk => ?_)
      show Nat.testBit (bval (x :: l)) (8 + k) = Nat.testBit (bval l) k
      have ex : bval l = bval (x :: l) / 2 ^ 8 := by show bval l = (x + 256 * bval l) / 2 ^ 8; omega
      have e2 : Nat.testBit (bval l) k = Nat.testBit (bval (x :: l) / 2 ^ 8) k := congrArg (fun y => Nat.testBit y k) ex
      rw [Nat.testBit_div_two_pow, Nat.add_comm] at e2
      exact e2.symm
def nt (x : Int32) : Nat := x.toBitVec.toNat
theorem nt_lt (x : Int32) : nt x < 4294967296 := x.toBitVec.isLt
theorem nt_bt (x : Int32) (i : Nat) : bt x i = (nt x).testBit i := rfl
theorem nt_and (x y : Int32) : nt (x &&& y) = nt x &&& nt y := by unfold nt; rw [Int32.toBitVec_and, BitVec.toNat_and]
theorem nt_add (x y : Int32) : nt (x + y) = (nt x + nt y) % 4294967296 := by unfold nt; rw [Int32.toBitVec_add, BitVec.toNat_add]
theorem nt_sub {x y : Int32} (h : nt y ≤ nt x) : nt (x - y) = nt x - nt y := by
  have h1 := nt_lt x
  unfold nt at h h1 ⊢
  rw [Int32.toBitVec_sub, BitVec.toNat_sub]
  omega
theorem nt_ushr (x : Int32) {k : Nat} (hk : k < 32) : nt (ushr x (nI k)) = nt x / 2 ^ k := by
  refine Nat.eq_of_testBit_eq (fun i => ?_)
  rw [← nt_bt, Nat.testBit_div_two_pow, Nat.add_comm, ← nt_bt]
  exact b_ushr k hk x i
theorem nt_nI {k : Nat} (h : k < 4294967296) : nt (nI k) = k := by
  unfold nt nI
  show (BitVec.ofNat 32 k).toNat = k
  rw [BitVec.toNat_ofNat]; exact Nat.mod_eq_of_lt h
theorem nt_inj {x y : Int32} (h : nt x = nt y) : x = y := Int32.toBitVec_inj.mp (BitVec.eq_of_toNat_eq h)
theorem bfin {k m n o : Nat} (hk : k ≤ 8) (hm : m ≤ 8) (hn : n ≤ 8) (ho : o ≤ 8) : ((k + 256 * (m + 256 * (n + 256 * (o + 256 * 0))) + (k + 256 * (m + 256 * (n + 256 * (o + 256 * 0)))) / 2 ^ 8) % 4294967296 + ((k + 256 * (m + 256 * (n + 256 * (o + 256 * 0))) + (k + 256 * (m + 256 * (n + 256 * (o + 256 * 0)))) / 2 ^ 8) % 4294967296) / 2 ^ 16) % 4294967296 % 2 ^ 6 = k + (m + (n + (o + 0))) := by
  have e1 : (k + 256 * (m + 256 * (n + 256 * (o + 256 * 0)))) / 2 ^ 8 = m + 256 * n + 65536 * o := by omega
  rw [e1]
  have e2 : (k + 256 * (m + 256 * (n + 256 * (o + 256 * 0))) + (m + 256 * n + 65536 * o)) % 4294967296 = (k + m) + 256 * (m + n) + 65536 * (n + o) + 16777216 * o := by omega
  rw [e2]
  have e3 : ((k + m) + 256 * (m + n) + 65536 * (n + o) + 16777216 * o) / 2 ^ 16 = (n + o) + 256 * o := by omega
  rw [e3]
  omega
theorem bcI (x : Int32) : ∀ f1 f2 f3 f4 f5 : Int32, f1 = x - ((ushr x (nI 1)) &&& (1431655765 : Int32)) → f2 = (f1 &&& (858993459 : Int32)) + ((ushr f1 (nI 2)) &&& (858993459 : Int32)) → f3 = (f2 + ushr f2 (nI 4)) &&& (252645135 : Int32) → f4 = f3 + ushr f3 (nI 8) → f5 = f4 + ushr f4 (nI 16) → f5 &&& nI 63 = nI (fa_cnt (bt x) 32) := by
  intro f1 f2 f3 f4 f5 h1 h2 h3 h4 h5
  obtain ⟨l, hl⟩ : ∃ l, l = [nt x % 256, nt x / 256 % 256, nt x / 65536 % 256, nt x / 16777216] := ⟨_, rfl⟩
  have hx := nt_lt x
  have hv : nt x = bval l := by
    rw [hl]
    show _ = nt x % 256 + 256 * (nt x / 256 % 256 + 256 * (nt x / 65536 % 256 + 256 * (nt x / 16777216 + 256 * 0)))
    omega
  have hb : ∀ y ∈ l, y < 256 := by
    rw [hl]; intro y hy
    simp only [List.mem_cons, List.not_mem_nil, or_false] at hy
    rcases hy with rfl | rfl | rfl | rfl <;> omega
  have m85 : nt (1431655765 : Int32) = bval (l.map fun _ => 85) := by
    rw [show (1431655765 : Int32) = nI 1431655765 from fa_lit 1431655765, nt_nI (by decide), hl]
    show 1431655765 = 85 + 256 * (85 + 256 * (85 + 256 * (85 + 256 * 0)))
    decide
  have m51 : nt (858993459 : Int32) = bval (l.map fun _ => 51) := by
    rw [show (858993459 : Int32) = nI 858993459 from fa_lit 858993459, nt_nI (by decide), hl]
    show 858993459 = 51 + 256 * (51 + 256 * (51 + 256 * (51 + 256 * 0)))
    decide
  have m15 : nt (252645135 : Int32) = bval (l.map fun _ => 15) := by
    rw [show (252645135 : Int32) = nI 252645135 from fa_lit 252645135, nt_nI (by decide), hl]
    show 252645135 = 15 + 256 * (15 + 256 * (15 + 256 * (15 + 256 * 0)))
    decide
  obtain ⟨s1, s1b⟩ := bs1 l hb
  have n1 : nt f1 = bval (l.map bq1) := by
    rw [h1, nt_sub, nt_and, nt_ushr x (by decide), hv, m85]
    · exact s1b
    · rw [nt_and, nt_ushr x (by decide), hv, m85]; exact s1
  have hb1 : ∀ y ∈ l.map bq1, y < 256 := by
    intro y hy
    obtain ⟨z, hz, rfl⟩ := List.mem_map.mp hy
    exact (bq1_f z (hb z hz)).2.2.2
  have s2 := bs2 (l.map bq1) hb1
  rw [List.map_map, List.map_map] at s2
  have hb2 : ∀ y ∈ l.map (bq2 ∘ bq1), y % 16 ≤ 4 ∧ y ≤ 68 := by
    intro y hy
    obtain ⟨z, hz, rfl⟩ := List.mem_map.mp hy
    have := bq2_g z (hb z hz)
    exact ⟨this.1, this.2.1⟩
  have b2 : bval (l.map (bq2 ∘ bq1)) < 4294967296 := by
    rw [hl] at hb2 ⊢
    simp only [List.map_cons, List.map_nil, List.mem_cons, List.not_mem_nil, or_false, forall_eq_or_imp, forall_eq] at hb2
    simp only [List.map_cons, List.map_nil, bval]
    omega
  have n2 : nt f2 = bval (l.map (bq2 ∘ bq1)) := by
    rw [h2, nt_add, nt_and, nt_and, nt_ushr f1 (by decide), n1, m51]
    rw [show (fun _ => 51) ∘ bq1 = fun (_ : Nat) => 51 from rfl] at s2
    rw [s2]
    exact Nat.mod_eq_of_lt b2
  have s3 := bs3 (l.map (bq2 ∘ bq1)) hb2
  rw [List.map_map, List.map_map] at s3
  rw [show (fun _ => 15) ∘ bq2 ∘ bq1 = fun (_ : Nat) => 15 from rfl] at s3
  have e3 : l.map (bq3 ∘ bq2 ∘ bq1) = l.map bqw := List.map_congr_left (fun z hz => (bq2_g z (hb z hz)).2.2.1)
  rw [e3] at s3
  have c2 : bval (l.map (bq2 ∘ bq1)) + bval (l.map (bq2 ∘ bq1)) / 16 < 4294967296 := by
    rw [hl] at hb2 ⊢
    simp only [List.map_cons, List.map_nil, List.mem_cons, List.not_mem_nil, or_false, forall_eq_or_imp, forall_eq] at hb2
    simp only [List.map_cons, List.map_nil, bval]
    omega
  have n3 : nt f3 = bval (l.map bqw) := by
    rw [h3, nt_and, nt_add, nt_ushr f2 (by decide), n2, m15, ← s3]
    congr 1
    exact Nat.mod_eq_of_lt c2
  have hw : ∀ y ∈ l.map bqw, y ≤ 8 := by
    intro y hy
    obtain ⟨z, hz, rfl⟩ := List.mem_map.mp hy
    exact (bq2_g z (hb z hz)).2.2.2
  have hc := bcnt l hb
  have hlen : 8 * l.length = 32 := by rw [hl]; rfl
  rw [hlen, ← hv] at hc
  have hc2 : fa_cnt (bt x) 32 = bsum (l.map bqw) := hc
  rw [hc2]
  refine nt_inj ?_
  rw [nt_and, nt_nI (by decide), h5, nt_add, nt_ushr f4 (by decide), h4, nt_add, nt_ushr f3 (by decide), n3]
  rw [show (63 : Nat) = 2 ^ 6 - 1 from rfl, Nat.and_two_pow_sub_one_eq_mod]
  rw [hl] at hw ⊢
  simp only [List.map_cons, List.map_nil, List.mem_cons, List.not_mem_nil, or_false, forall_eq_or_imp, forall_eq] at hw
  simp only [List.map_cons, List.map_nil, bval, bsum]
  obtain ⟨w0, w1, w2, w3⟩ := hw
  rw [nt_nI (by omega)]
  exact bfin w0 w1 w2 w3
theorem p_bitCount {σ : gSt} {x : Int32} {Q : Int32 → Prop} (q : Q (nI (fa_cnt (bt x) 32))) : W_J6_bitCount_0f7a4 x Q σ := by
  rw [← bcI x _ _ _ _ _ rfl rfl rfl rfl rfl] at q
  exact q
