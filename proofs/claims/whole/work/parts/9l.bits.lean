/-! how many bits of a long, both ways -/
theorem tl8 {x r : Nat} (hx : x < 256) : (x + 256 * r) / 2 ^ 8 = r := by omega
theorem tl16 {x y r : Nat} (hx : x < 256) (hy : y < 256) : (x + 256 * (y + 256 * r)) / 2 ^ 16 = r := by
  rw [show (2 : Nat) ^ 16 = 2 ^ 8 * 2 ^ 8 from rfl, ← Nat.div_div_eq_div_mul, tl8 hx, tl8 hy]
theorem tl32 {x y z w r : Nat} (hx : x < 256) (hy : y < 256) (hz : z < 256) (hw : w < 256) : (x + 256 * (y + 256 * (z + 256 * (w + 256 * r)))) / 2 ^ 32 = r := by
  rw [show (2 : Nat) ^ 32 = 2 ^ 16 * 2 ^ 16 from rfl, ← Nat.div_div_eq_div_mul, tl16 hx hy, tl16 hz hw]
theorem lo7 {x r : Nat} (hx : x < 128) : (x + 256 * r) % 2 ^ 7 = x := by omega
theorem cap1 {x r B : Nat} (hx : x < 256) (hr : r < B) : x + 256 * r < 256 * B := by omega
theorem cap8 {a b c d e f g h : Nat} (ha : a < 256) (hb : b < 256) (hc : c < 256) (hd : d < 256) (he : e < 256) (hf : f < 256) (hg : g < 256) (hh : h < 256) : a + 256 * (b + 256 * (c + 256 * (d + 256 * (e + 256 * (f + 256 * (g + 256 * (h + 256 * 0))))))) < 2 ^ 64 := by
  rw [show (2 : Nat) ^ 64 = 256 * (256 * (256 * (256 * (256 * (256 * (256 * (256 * 1))))))) from rfl]
  exact cap1 ha (cap1 hb (cap1 hc (cap1 hd (cap1 he (cap1 hf (cap1 hg (cap1 hh (by decide))))))))
theorem cons_add {x y r s : Nat} : (x + 256 * r) + (y + 256 * s) = (x + y) + 256 * (r + s) := by omega
theorem bfin64 {a b c d e f g h : Nat} (ha : a ≤ 8) (hb : b ≤ 8) (hc : c ≤ 8) (hd : d ≤ 8) (he : e ≤ 8) (hf : f ≤ 8) (hg : g ≤ 8) (hh : h ≤ 8) : ∀ {v v2 v3 v4 : Nat}, v = a + 256 * (b + 256 * (c + 256 * (d + 256 * (e + 256 * (f + 256 * (g + 256 * (h + 256 * 0))))))) → v2 = v + v / 2 ^ 8 → v3 = v2 + v2 / 2 ^ 16 → v4 = v3 + v3 / 2 ^ 32 → v < 2 ^ 64 ∧ v2 < 2 ^ 64 ∧ v3 < 2 ^ 64 ∧ v4 % 2 ^ 7 = a + (b + (c + (d + (e + (f + (g + (h + 0))))))) := by
  have p1 : a < 256 := by omega
  have p2 : b < 256 := by omega
  have p3 : c < 256 := by omega
  have p4 : d < 256 := by omega
  have p5 : e < 256 := by omega
  have p6 : f < 256 := by omega
  have p7 : g < 256 := by omega
  have p8 : h < 256 := by omega
  have q1 : a + b < 256 := by omega
  have q2 : b + c < 256 := by omega
  have q3 : c + d < 256 := by omega
  have q4 : d + e < 256 := by omega
  have q5 : e + f < 256 := by omega
  have q6 : f + g < 256 := by omega
  have q7 : g + h < 256 := by omega
  have r1 : a + b + (c + d) < 256 := by omega
  have r2 : b + c + (d + e) < 256 := by omega
  have r3 : c + d + (e + f) < 256 := by omega
  have r4 : d + e + (f + g) < 256 := by omega
  have r5 : e + f + (g + h) < 256 := by omega
  have r6 : f + g + h < 256 := by omega
  have t1 : a + b + (c + d) + (e + f + (g + h)) < 128 := by omega
  have t2 : a + b + (c + d) + (e + f + (g + h)) = a + (b + (c + (d + (e + (f + (g + (h + 0))))))) := by omega
  intro v v2 v3 v4 e1 e2 e3 e4
  have k1 : v / 2 ^ 8 = b + 256 * (c + 256 * (d + 256 * (e + 256 * (f + 256 * (g + 256 * (h + 256 * 0)))))) := by rw [e1]; exact tl8 p1
  have k2 : v2 = (a + b) + 256 * ((b + c) + 256 * ((c + d) + 256 * ((d + e) + 256 * ((e + f) + 256 * ((f + g) + 256 * ((g + h) + 256 * (h + 256 * 0))))))) := by
    rw [e2, k1, e1, cons_add, cons_add, cons_add, cons_add, cons_add, cons_add, cons_add]
    try simp only [Nat.mul_zero, Nat.add_zero]
  have k3 : v2 / 2 ^ 16 = (c + d) + 256 * ((d + e) + 256 * ((e + f) + 256 * ((f + g) + 256 * ((g + h) + 256 * (h + 256 * 0))))) := by rw [k2]; exact tl16 q1 q2
  have k4 : v3 = (a + b + (c + d)) + 256 * ((b + c + (d + e)) + 256 * ((c + d + (e + f)) + 256 * ((d + e + (f + g)) + 256 * ((e + f + (g + h)) + 256 * ((f + g + h) + 256 * ((g + h) + 256 * (h + 256 * 0))))))) := by
    rw [e3, k3, k2, cons_add, cons_add, cons_add, cons_add, cons_add, cons_add]
    try simp only [Nat.mul_zero, Nat.add_zero]
  have k5 : v3 / 2 ^ 32 = (e + f + (g + h)) + 256 * ((f + g + h) + 256 * ((g + h) + 256 * (h + 256 * 0))) := by rw [k4]; exact tl32 r1 r2 r3 r4
  refine ⟨by rw [e1]; exact cap8 p1 p2 p3 p4 p5 p6 p7 p8, by rw [k2]; exact cap8 q1 q2 q3 q4 q5 q6 q7 p8, by rw [k4]; exact cap8 r1 r2 r3 r4 r5 r6 q7 p8, ?_⟩
  rw [e4, k5, k4, cons_add, lo7 t1]
  exact t2
theorem l85 : (6148914691236517205 : Int64) = lN 6148914691236517205 := by decide +kernel
theorem l51 : (3689348814741910323 : Int64) = lN 3689348814741910323 := by decide +kernel
theorem l15 : (1085102592571150095 : Int64) = lN 1085102592571150095 := by decide +kernel
theorem byt8 {n : Nat} : n = n % 256 + 256 * (n / 256) := by omega
theorem bytes8 {n : Nat} (hn : n < 2 ^ 64) : n = n % 256 + 256 * (n / 256 % 256 + 256 * (n / 65536 % 256 + 256 * (n / 16777216 % 256 + 256 * (n / 4294967296 % 256 + 256 * (n / 1099511627776 % 256 + 256 * (n / 281474976710656 % 256 + 256 * (n / 72057594037927936 + 256 * 0))))))) := by
  have d : ∀ a b : Nat, n / a / b = n / (a * b) := fun a b => Nat.div_div_eq_div_mul n a b
  have h1 := @byt8 n
  have h2 := @byt8 (n / 256)
  have h3 := @byt8 (n / 65536)
  have h4 := @byt8 (n / 16777216)
  have h5 := @byt8 (n / 4294967296)
  have h6 := @byt8 (n / 1099511627776)
  have h7 := @byt8 (n / 281474976710656)
  rw [d] at h2 h3 h4 h5 h6 h7
  rw [Nat.mul_zero, Nat.add_zero, ← h7, ← h6, ← h5, ← h4, ← h3, ← h2, ← h1]
theorem top8 {n : Nat} (hn : n < 2 ^ 64) : n / 72057594037927936 < 256 := by
  rw [Nat.div_lt_iff_lt_mul (by decide)]
  exact hn
theorem capN (g : Nat → Nat) {B : Nat} (hB : B < 256) : ∀ (l : List Nat), (∀ z ∈ l, g z ≤ B) → bval (l.map g) < 256 ^ l.length
  | [], _ => (by decide : 0 < 1)
  | x :: l, h => by
    have := capN g hB l (fun z hz => h z (List.mem_cons_of_mem _ hz))
    have hx := h x List.mem_cons_self
    rw [List.length_cons, Nat.pow_succ, Nat.mul_comm]
    exact cap1 (by omega) this
theorem ushrN {n k : Nat} (hn : n < 2 ^ 64) (hk : k < 64) : ushrL (lN n) (nI k) = lN (n / 2 ^ k) := wb_shr hn hk
theorem bcL {n : Nat} (hn : n < 2 ^ 64) : ∀ f1 f2 f3 f4 f5 f6 : Int64, f1 = lN n - ((ushrL (lN n) (nI 1)) &&& (6148914691236517205 : Int64)) → f2 = (f1 &&& (3689348814741910323 : Int64)) + ((ushrL f1 (nI 2)) &&& (3689348814741910323 : Int64)) → f3 = (f2 + ushrL f2 (nI 4)) &&& (1085102592571150095 : Int64) → f4 = f3 + ushrL f3 (nI 8) → f5 = f4 + ushrL f4 (nI 16) → f6 = f5 + ushrL f5 (nI 32) → l2i f6 &&& nI 127 = nI (fa_cnt (Nat.testBit n) 64) := by
  intro f1 f2 f3 f4 f5 f6 h1 h2 h3 h4 h5 h6
  obtain ⟨l, hl⟩ : ∃ l, l = [n % 256, n / 256 % 256, n / 65536 % 256, n / 16777216 % 256, n / 4294967296 % 256, n / 1099511627776 % 256, n / 281474976710656 % 256, n / 72057594037927936] := ⟨_, rfl⟩
  have hv : n = bval l := by rw [hl]; exact bytes8 hn
  have hb : ∀ y ∈ l, y < 256 := by
    rw [hl]; intro y hy
    simp only [List.mem_cons, List.not_mem_nil, or_false] at hy
    rcases hy with rfl | rfl | rfl | rfl | rfl | rfl | rfl | rfl
    · exact Nat.mod_lt _ (by decide)
    · exact Nat.mod_lt _ (by decide)
    · exact Nat.mod_lt _ (by decide)
    · exact Nat.mod_lt _ (by decide)
    · exact Nat.mod_lt _ (by decide)
    · exact Nat.mod_lt _ (by decide)
    · exact Nat.mod_lt _ (by decide)
    · exact top8 hn
  have hlen : l.length = 8 := by rw [hl]; rfl
  have m85 : (6148914691236517205 : Int64) = lN (bval (l.map fun _ => 85)) := by
    rw [l85, hl]
    simp only [List.map_cons, List.map_nil, bval]
  have m51 : (3689348814741910323 : Int64) = lN (bval (l.map fun _ => 51)) := by
    rw [l51, hl]
    simp only [List.map_cons, List.map_nil, bval]
  have m15 : (1085102592571150095 : Int64) = lN (bval (l.map fun _ => 15)) := by
    rw [l15, hl]
    simp only [List.map_cons, List.map_nil, bval]
  obtain ⟨s1, s1b⟩ := bs1 l hb
  have n1 : f1 = lN (bval (l.map bq1)) := by
    rw [h1, ushrN hn (by decide), m85, fb_andL, show (2 : Nat) ^ 1 = 2 from rfl, hv, lN_sub s1, s1b]
  have c1 : bval (l.map bq1) < 2 ^ 64 := by
    have := capN bq1 (B := 255) (by decide) l (fun z hz => Nat.le_of_lt_succ (bq1_f z (hb z hz)).2.2.2)
    rw [hlen] at this
    exact this
  have hb1 : ∀ y ∈ l.map bq1, y < 256 := by
    intro y hy
    obtain ⟨z, hz, rfl⟩ := List.mem_map.mp hy
    exact (bq1_f z (hb z hz)).2.2.2
  have s2 := bs2 (l.map bq1) hb1
  rw [List.map_map, List.map_map] at s2
  rw [show (fun _ => 51) ∘ bq1 = fun (_ : Nat) => 51 from rfl] at s2
  have n2 : f2 = lN (bval (l.map (bq2 ∘ bq1))) := by
    rw [h2, n1, ushrN c1 (by decide), m51, fb_andL, fb_andL, lN_add, show (2 : Nat) ^ 2 = 4 from rfl, s2]
  have hb2 : ∀ y ∈ l.map (bq2 ∘ bq1), y % 16 ≤ 4 ∧ y ≤ 68 := by
    intro y hy
    obtain ⟨z, hz, rfl⟩ := List.mem_map.mp hy
    have := bq2_g z (hb z hz)
    exact ⟨this.1, this.2.1⟩
  have c2 : bval (l.map (bq2 ∘ bq1)) < 2 ^ 64 := by
    have := capN (bq2 ∘ bq1) (B := 68) (by decide) l (fun z hz => (bq2_g z (hb z hz)).2.1)
    rw [hlen] at this
    exact this
  have s3 := bs3 (l.map (bq2 ∘ bq1)) hb2
  rw [List.map_map, List.map_map] at s3
  rw [show (fun _ => 15) ∘ bq2 ∘ bq1 = fun (_ : Nat) => 15 from rfl] at s3
  have e3 : l.map (bq3 ∘ bq2 ∘ bq1) = l.map bqw := List.map_congr_left (fun z hz => (bq2_g z (hb z hz)).2.2.1)
  rw [e3] at s3
  have n3 : f3 = lN (bval (l.map bqw)) := by
    rw [h3, n2, ushrN c2 (by decide), m15, lN_add, fb_andL, show (2 : Nat) ^ 4 = 16 from rfl, s3]
  have hw : ∀ y ∈ l, bqw y ≤ 8 := fun y hy => (bq2_g y (hb y hy)).2.2.2
  have hc := bcnt l hb
  rw [hlen, ← hv] at hc
  have hc : fa_cnt (Nat.testBit n) 64 = bsum (l.map bqw) := hc
  rw [hc]
  rw [hl] at hw n3 ⊢
  simp only [List.mem_cons, List.not_mem_nil, or_false, forall_eq_or_imp, forall_eq] at hw
  simp only [List.map_cons, List.map_nil, bval] at n3
  simp only [List.map_cons, List.map_nil, bsum]
  obtain ⟨w0, w1, w2, w3, w4, w5, w6, w7⟩ := hw
  obtain ⟨b1, b2, b3, b4⟩ := bfin64 w0 w1 w2 w3 w4 w5 w6 w7 rfl rfl rfl rfl
  rw [h6, h5, h4, n3, ushrN b1 (by decide), lN_add, ushrN b2 (by decide), lN_add, ushrN b3 (by decide), lN_add]
  show (lN _).toInt32 &&& nI 127 = _
  rw [lN_i, show (127 : Nat) = 2 ^ 7 - 1 from rfl, fa_mask, b4]
theorem bL_tb {n : Nat} : fa_cnt (bL (lN n)) 64 = fa_cnt (Nat.testBit n) 64 := fa_cnt_cong (fun k hk => bL_lN hk)
theorem p_bitCountL {σ : gSt} {x : Int64} {Q : Int32 → Prop} (q : Q (nI (fa_cnt (bL x) 64))) : W_J13_bitCount_95d88 x Q σ := by
  obtain ⟨n, hn, rfl⟩ := wb_of x
  rw [bL_tb, ← bcL hn _ _ _ _ _ _ rfl rfl rfl rfl rfl rfl] at q
  exact q
/-- one bit less -/
theorem kern : ∀ (w n : Nat), n < 2 ^ w → n ≠ 0 → fa_cnt (Nat.testBit (n &&& (n - 1))) w + 1 = fa_cnt (Nat.testBit n) w
  | 0, n, hn, h0 => by simp at hn; exact absurd hn h0
  | w + 1, n, hn, h0 => by
    have sp : ∀ m, fa_cnt (Nat.testBit m) (w + 1) = (if m % 2 = 1 then 1 else 0) + fa_cnt (Nat.testBit (m / 2)) w := fun m => by
      rw [Nat.add_comm w 1, fa_cnt_add]
      congr 1
      · show (0 + if Nat.testBit m 0 = true then 1 else 0) = _
        rw [Nat.zero_add, Nat.testBit_zero]
        by_cases z : m % 2 = 1
        · rw [if_pos z, if_pos (decide_eq_true z)]
        · rw [if_neg z, if_neg (by rw [decide_eq_false z]; decide)]
      · refine fa_cnt_cong (fun k _ => ?_)
        rw [Nat.add_comm 1 k, Nat.testBit_succ]
    have hpow : 2 ^ (w + 1) = 2 * 2 ^ w := by rw [Nat.pow_succ]; omega
    have hdiv : (n &&& (n - 1)) / 2 = (n / 2) &&& ((n - 1) / 2) := by
      have := Nat.and_div_two_pow (a := n) (b := n - 1) (n := 1)
      simpa using this
    have hmod : (n &&& (n - 1)) % 2 = 0 := by
      have := Nat.and_mod_two_pow (a := n) (b := n - 1) (n := 1)
      simp only [Nat.pow_one] at this
      rw [this]
      rcases (show n % 2 = 0 ∨ n % 2 = 1 by omega) with z | z
      · rw [z, Nat.zero_and]
      · rw [show (n - 1) % 2 = 0 by omega, Nat.and_zero]
    rw [sp, sp n, hmod, hdiv, if_neg (by decide)]
    by_cases z : n % 2 = 1
    · rw [if_pos z, show (n - 1) / 2 = n / 2 by omega, Nat.and_self]
      omega
    · rw [if_neg z, show (n - 1) / 2 = n / 2 - 1 by omega]
      have := kern w (n / 2) (by omega) (by omega)
      omega
theorem p_bits {σ : gSt} {x : Int64} {Q : Int32 → Prop} (q : Q (nI (fa_cnt (bL x) 64))) : W_X12_bits x Q σ := by
  obtain ⟨n, hn, rfl⟩ := wb_of x
  rw [bL_tb] at q
  have loop : ∀ (c n v : Nat), n < 2 ^ 64 → fa_cnt (Nat.testBit n) 64 = c → Q (nI (v + c)) → L_X12_bits_4 Q σ (fun y6 => Q y6) (c + 1) (nI v) (lN n) := by
    intro c
    induction c with
    | zero =>
      intro n v hn hc hq
      rw [L_X12_bits_4]
      have hz : n = 0 := by
        by_cases z : n = 0
        · exact z
        · have := kern 64 n hn z
          omega
      subst hz
      exact bq_t rfl hq
    | succ c ih =>
      intro n v hn hc hq
      rw [L_X12_bits_4]
      have hz : n ≠ 0 := by
        rintro rfl
        rw [cnt_zero (fun j _ => Nat.zero_testBit j)] at hc
        cases hc
      have hk := kern 64 n hn hz
      refine bq_f (fun w => ?_) ?_
      · have := congrArg (fun y : Int64 => y.toBitVec.toNat) w
        simp only [lN_nat hn] at this
        exact hz this
      · rw [lN_sub (by omega), fb_andL, nI_add]
        have hle : n &&& (n - 1) ≤ n := Nat.and_le_left
        exact ih (n &&& (n - 1)) (v + 1) (by omega) (by omega) (by rw [show v + 1 + c = v + (c + 1) by omega]; exact hq)
  unfold W_X12_bits
  have := loop _ n 0 hn rfl (by rw [Nat.zero_add]; exact q)
  exact ⟨_, this⟩
