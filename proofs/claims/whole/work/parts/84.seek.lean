/-! the class: going, joining, changing places, all of them -/
theorem bGoK_no {N most : Nat} {h : Nat → Nat} {wt : Nat → Nat → Int32} {ti ap : Nat → Nat → Bool} (hap : symB N ap) (hti : symB N ti) (hl : lawP N most ap ti h) {e : Nat} (he : e < N) (hn : ¬ ∀ k, k < N → k ≠ e → h k = h e → ti e k = false) : ∀ (m v : Nat) (s : BS), bGoK N most wt ap ti h e m v s = s
  | 0, _, _ => rfl
  | m + 1, v, s => by
    rw [bGoK]
    by_cases z : h v = v ∧ ¬ v = h e
    · rw [if_pos z, bTry_no (fun q => hn ((law_go hl hap hti he z.2).mp q).1)]
      exact bGoK_no hap hti hl he hn m (v + 1) s
    · rw [if_neg z]
      exact bGoK_no hap hti hl he hn m (v + 1) s
theorem skC.one {t : gSt} {N most : Nat} {h : Nat → Nat} {wt : Nat → Nat → Int32} {ti ap : Nat → Nat → Bool} (hX : skC t N most h wt ti ap) (h30 : N ≤ 30) {e : Nat} (he : e < N) (hv : h e < 30) : t.1 40 (h e) = nI 1 <<< (nI e &&& 31) ↔ fa_cnt (fun i => decide (h i = h e)) N = 1 := by
  have e1 : t.1 40 (h e) = orBits (fun i => decide (h i = h e)) N := b_ext (fun i hi => by rw [hX.2.2.2.2.2.1 _ i hv hi, bt_orBits _ N (by omega) i hi])
  rw [e1, or_one (by omega) he (by simp), ← cnt_le1 he (by simp)]
  have := ct_pos (f := h) he
  rw [← fa_fb] at this
  omega
theorem PT_none {N : Nat} {h : Nat → Nat} {wt : Nat → Nat → Int32} {e v : Nat} (hv : ∀ k, k < N → ¬ h k = v) : PT wt N h e v = lN 0 := rowS_zero (fun k hk => if_neg (hv k hk))
theorem p_go {b : Bool} {N most : Nat} {h : Nat → Nat} {wt : Nat → Nat → Int32} {ti ap : Nat → Nat → Bool} (h30 : N ≤ 30) (hm30 : most ≤ 30) (hh : ∀ i, i < N → h i ≤ i ∧ h (h i) = h i) (hsy : ∀ i j, i < N → j < N → wt i j = wt j i) (hok : ∀ i j, i < N → j < N → okW (wt i j)) (h0 : ∀ i, wt i i = nI 0) (hap : symB N ap) (hti : symB N ti) (hl : lawP N most ap ti h) {e : Nat} (he : e < N) {s : BS} {t : gSt} (hR : t.2.2 = gRf b) (hX : skC t N most h wt ti ap) (hB : skB t s) {Q : gSt → Prop} (q : ∀ t2, Fs t t2 → skB t2 (bAl N most wt ap ti h e (bGoK N most wt ap ti h e N 0 s)) → Q t2) : W_X0_seekGoing (nI e) Q t := by
  have hhe := hh e he
  have hv100 : 100 + e ≠ h e := by omega
  have hlg := law_go hl hap hti he hv100
  unfold W_X0_seekGoing
  refine p_held hX h30 hh he (fun hn => ?_) (fun hn => ?_)
  · refine bq_t rfl (rI_i (by omega) ?_)
    rw [hX.2.1 e he]
    refine hX.pt h30 hok he (by omega) (fun x hx => ?_)
    rw [hx, hX.2.2.2.2.2.2.2.1]
    refine ⟨N + 1, p_goK h30 hm30 hh hsy hok h0 hap hti hl he hn N 0 s t (by omega) hR hX hB (fun t2 f2 hB2 => ?_)⟩
    have hX2 := hX.fr f2
    refine rI_i (by omega) ⟨fun z => ?_, fun z => ?_⟩
    · refine q t2 f2 ?_
      unfold bAl
      rw [if_pos ((hX2.one h30 he (by omega)).mp z)]
      exact hB2
    · refine p_offer hB2 (upN h e (100 + e)) (fun t3 f3 hB3 => q t3 (f2.trans f3) ?_)
      unfold bAl
      rw [if_neg (fun w => z ((hX2.one h30 he (by omega)).mpr w))]
      have hno : ∀ k, k < N → ¬ h k = 100 + e := fun k hk => by have := (hh k hk).1; omega
      have hz : fb_ct (fun i => decide (h i = 100 + e)) N = 0 := fb_ct_zero.mpr (fun k hk => decide_eq_false (hno k hk))
      rw [bTry_yes (hlg.mpr ⟨hn, fun k hk w => absurd w (hno k hk), fun hm => by omega⟩), cst_go hsy hok h0 he hv100, PT_none hno]
      rw [show cst wt N h + PT wt N h e (h e) - lN 0 = cst wt N h + PT wt N h e (h e) from Int64.sub_zero _]
      exact hB3
  · refine bq_f (by decide) (q t Fs.rf ?_)
    rw [bGoK_no hap hti hl he hn]
    unfold bAl
    by_cases z : fa_cnt (fun i => decide (h i = h e)) N = 1
    · rw [if_pos z]; exact hB
    · rw [if_neg z, bTry_no (fun w => hn (hlg.mp w).1)]; exact hB
theorem p_joL {N most : Nat} {h : Nat → Nat} {wt : Nat → Nat → Int32} {ti ap : Nat → Nat → Bool} (h30 : N ≤ 30) (hok : ∀ i j, i < N → j < N → okW (wt i j)) {a c : Nat} (ha : a < N) (hc : c < N) (hac : a ≠ c) {t : gSt} (hh : ∀ i, i < N → h i ≤ i ∧ h (h i) = h i) (hX : skC t N most h wt ti ap) {Q : gSt → Prop} {K : Int64 → Prop}
    (k1 : (∀ i k, i < N → k < N → h i = a → h k = c → ap i k = false) → K (cst wt N h - rowS (fun i => if h i = a then PT wt N h i c else lN 0) N)) (k2 : ¬ (∀ i k, i < N → k < N → h i = a → h k = c → ap i k = false) → Q t) : ∀ (m i : Nat), i + m = N → (∀ i2 k, i2 < i → k < N → h i2 = a → h k = c → ap i2 k = false) → L_X0_seekJoining_57 Q (nI a) (nI c) t K (m + 1) (cst wt N h - rowS (fun i => if h i = a then PT wt N h i c else lN 0) i) (nI i) := by
  intro m
  induction m with
  | zero =>
    intro i hi hp
    obtain rfl : i = N := by omega
    rw [L_X0_seekJoining_57, hX.1]
    exact bq_t (nI_le (Nat.le_refl _) (by omega)) (k1 (fun i2 k h1 h2 => hp i2 k h1 h2))
  | succ m ih =>
    intro i hi hp
    have hiN : i < N := by omega
    rw [L_X0_seekJoining_57, hX.1]
    refine bq_f (nI_ge hiN (by omega)) (rI_i (by omega) ?_)
    rw [hX.2.1 i hiN, nI_add]
    refine br_eq (by have := (hh i hiN).1; omega) (by omega) (fun z => ?_) (fun z => ?_)
    · refine rI_i (by omega) (rI_i (by omega) ⟨fun w => ?_, fun w => k2 (fun w2 => w ?_)⟩)
      · refine hX.pt h30 hok hiN (by omega) (fun x hx => ?_)
        rw [hx]
        have := ih (i + 1) (by omega) (fun i2 k h1 h2 h3 h4 => by
          by_cases e : i2 = i
          · subst e
            exact (hX.pa h30 hiN (by omega)).mp w k h2 (fun q => hac (by rw [← h3, ← h4, q])) h4
          · exact hp i2 k (by omega) h2 h3 h4)
        rw [rowS, if_pos z] at this
        rw [show cst wt N h - rowS (fun i => if h i = a then PT wt N h i c else lN 0) i - PT wt N h i c = cst wt N h - (rowS (fun i => if h i = a then PT wt N h i c else lN 0) i + PT wt N h i c) by grind]
        exact this
      · exact (hX.pa h30 hiN (by omega)).mpr (fun k hk _ hkc => w2 i k hiN hk z hkc)
    · have := ih (i + 1) (by omega) (fun i2 k h1 h2 h3 h4 => by
        by_cases e : i2 = i
        · subst e; exact absurd h3 z
        · exact hp i2 k (by omega) h2 h3 h4)
      rw [rowS, if_neg z, lN0_add] at this
      exact this
theorem p_jo {b : Bool} {N most : Nat} {h : Nat → Nat} {wt : Nat → Nat → Int32} {ti ap : Nat → Nat → Bool} (h30 : N ≤ 30) (hm30 : most ≤ 30) (hh : ∀ i, i < N → h i ≤ i ∧ h (h i) = h i) (hsy : ∀ i j, i < N → j < N → wt i j = wt j i) (hok : ∀ i j, i < N → j < N → okW (wt i j)) (hap : symB N ap) (hti : symB N ti) (hl : lawP N most ap ti h) {a c : Nat} (ha : a < N) (hc : c < N) (hac : a ≠ c) {s : BS} {t : gSt} (hR : t.2.2 = gRf b) (hX : skC t N most h wt ti ap) (hB : skB t s) {Q : gSt → Prop} (q : ∀ t2, Fs t t2 → skB t2 (if h a = a ∧ h c = c then bTry N most wt ap ti (nI 1) (nI a) (nI c) (fun k => if h k = c then a else h k) s else s) → Q t2) : W_X0_seekJoining (nI a) (nI c) Q t := by
  unfold W_X0_seekJoining
  refine rI_i (by omega) ⟨fun z => ?_, fun z => rI_i (by omega) ⟨fun w => ?_, fun w => ?_⟩⟩
  · rw [if_neg (fun y => (hX.m0 h30 hh ha).mp z y.1)] at q
    exact q t Fs.rf hB
  · rw [if_neg (fun y => (hX.m0 h30 hh hc).mp w y.2)] at q
    exact q t Fs.rf hB
  · have hya : h a = a := Classical.not_not.mp (fun y => z ((hX.m0 h30 hh ha).mpr y))
    have hyc : h c = c := Classical.not_not.mp (fun y => w ((hX.m0 h30 hh hc).mpr y))
    rw [if_pos ⟨hya, hyc⟩] at q
    have hlj := law_join hl hap hti hac
    refine rI_i (by omega) (p_bitCount (rI_i (by omega) (p_bitCount ?_)))
    rw [hX.ct h30 (by omega), hX.ct h30 (by omega), nI_add]
    refine ⟨_, fun o l => s_room hR most hm30 hX.2.2.2.2.2.2.2.2.2, ?_⟩
    have hsum : fb_ct (fun i => decide (h i = a)) N + fb_ct (fun i => decide (h i = c)) N ≤ N := by
      rw [← fb_ct_or (fun k _ y => hac (by rw [← of_decide_eq_true y.1, of_decide_eq_true y.2]))]
      exact fb_ct_le _ _
    refine br_le (by omega) (by by_cases y : most = 0 <;> simp only [y, if_true, if_false] <;> omega) (fun hle => ?_) (fun hlt => ?_)
    · rw [hX.2.2.2.2.2.2.2.1]
      have start := p_joL (K := fun y24 => W_X0_offer y24 (nI 1) (nI a) (nI c) (fun s25 => Q s25) t) (Q := Q) h30 hok ha hc hac hh hX (fun hfree => by
          refine p_offer hB (fun k => if h k = c then a else h k) (fun t2 f2 hB2 => q t2 f2 ?_)
          rw [bTry_yes (hlj.mpr ⟨fun i j h1 h2 h3 h4 => hfree i j h1 h2 h3 h4, fun hm => by rw [if_neg (by omega)] at hle; omega⟩), cst_join hsy hok hac]
          exact hB2) (fun hnf => by
          refine q t Fs.rf ?_
          rw [bTry_no (fun y => hnf (hlj.mp y).1)]
          exact hB) N 0 (by omega) (fun i2 k h1 => absurd h1 (Nat.not_lt_zero i2))
      rw [show cst wt N h - rowS (fun i => if h i = a then PT wt N h i c else lN 0) 0 = cst wt N h from Int64.sub_zero _] at start
      exact ⟨N + 1, start⟩
    · refine q t Fs.rf ?_
      rw [bTry_no (fun y => ?_)]
      · exact hB
      · have h3 := (hlj.mp y).2
        by_cases qm : most = 0
        · rw [if_pos qm] at hlt; omega
        · rw [if_neg qm] at hlt
          have := h3 (by omega)
          omega
theorem skC.pa2 {t : gSt} {N most : Nat} {h : Nat → Nat} {wt : Nat → Nat → Int32} {ti ap : Nat → Nat → Bool} (hX : skC t N most h wt ti ap) (h30 : N ≤ 30) {e v c : Nat} (he : e < N) (hv : v < 30) (hc : c < N) (hve : ¬ h e = v) : ((t.1 39 e) &&& (t.1 40 v)) &&& ((nI 1 <<< (nI c &&& 31)) ^^^ (-1 : Int32)) = 0 ↔ ∀ k, k < N → k ≠ c → h k = v → ap e k = false := by
  rw [and_bits]
  constructor
  · intro z k hk hne hkv
    have hke : k ≠ e := fun q => hve (by rw [← q]; exact hkv)
    have := z k (by omega)
    rw [b_and, hX.2.2.2.2.1 e k he (by omega), hX.2.2.2.2.2.1 v k hv (by omega), bt_not c (by omega) (by omega), decide_eq_true hk, decide_eq_true (Ne.symm hke), decide_eq_true hkv, decide_eq_true hne] at this
    simpa using this
  · intro z k hk
    rw [b_and, hX.2.2.2.2.1 e k he hk, hX.2.2.2.2.2.1 v k hv hk, bt_not c (by omega) hk]
    by_cases hkN : k < N
    · by_cases hne : k = c
      · rw [decide_eq_false (show ¬ k ≠ c from fun q => q hne)]; simp
      · by_cases hkv : h k = v
        · rw [z k hkN hne hkv]; simp
        · rw [decide_eq_false hkv]; simp
    · rw [decide_eq_false hkN]; simp
theorem p_sw {b : Bool} {N most : Nat} {h : Nat → Nat} {wt : Nat → Nat → Int32} {ti ap : Nat → Nat → Bool} (h30 : N ≤ 30) (hh : ∀ i, i < N → h i ≤ i ∧ h (h i) = h i) (hsy : ∀ i j, i < N → j < N → wt i j = wt j i) (hok : ∀ i j, i < N → j < N → okW (wt i j)) (h0 : ∀ i, wt i i = nI 0) (hap : symB N ap) (hti : symB N ti) (hl : lawP N most ap ti h) {a c : Nat} (ha : a < N) (hc : c < N) {s : BS} {t : gSt} (hR : t.2.2 = gRf b) (hX : skC t N most h wt ti ap) (hB : skB t s) {Q : gSt → Prop} (q : ∀ t2, Fs t t2 → skB t2 (if h a = h c then s else bTry N most wt ap ti (nI 2) (nI a) (nI c) (upN (upN h a (h c)) c (h a)) s) → Q t2) : W_X0_seekChanging (nI a) (nI c) Q t := by
  have hha := hh a ha
  have hhc := hh c hc
  unfold W_X0_seekChanging
  refine rI_i (by omega) (rI_i (by omega) ?_)
  rw [hX.2.1 a ha, hX.2.1 c hc]
  refine br_eq (by omega) (by omega) (fun z => ?_) (fun z => ?_)
  · rw [if_pos z] at q
    exact q t Fs.rf hB
  · rw [if_neg z] at q
    have hls := law_swap hl hap hti ha hc z
    have no : ¬ lawP N most ap ti (upN (upN h a (h c)) c (h a)) → Q t := fun y => by
      rw [bTry_no y] at q
      exact q t Fs.rf hB
    refine p_held hX h30 hh ha (fun g1 => bq_t rfl ?_) (fun g => bq_f (by decide) (no (fun y => g (hls.mp y).1)))
    refine p_held hX h30 hh hc (fun g2 => bq_t rfl ?_) (fun g => bq_f (by decide) (no (fun y => g (hls.mp y).2.1)))
    refine rI_i (by omega) (rI_i (by omega) ?_)
    intro J11 hJ11 J19 hJ19
    have hJn : ¬ lawP N most ap ti (upN (upN h a (h c)) c (h a)) → J19 := fun y => hJ19 (hJ11 _ (bq_f (by decide) (no y)))
    by_cases g3 : ∀ k, k < N → k ≠ c → h k = h c → ap a k = false
    · refine bq_t ((hX.pa2 h30 ha (by omega) hc z).mpr g3) (rI_i (by omega) (rI_i (by omega) ?_))
      by_cases g4 : ∀ k, k < N → k ≠ a → h k = h a → ap c k = false
      · refine bq_t ((hX.pa2 h30 hc (by omega) ha (fun w => z w.symm)).mpr g4) (hJ11 _ (bq_t rfl ?_))
        refine hX.pt h30 hok ha (by omega) (fun x1 e1 => hX.pt h30 hok hc (by omega) (fun x2 e2 => hX.pt h30 hok ha (by omega) (fun x3 e3 => hX.pt h30 hok hc (by omega) (fun x4 e4 => ⟨_, fun o l => s_pull hR a c (by omega) (by omega), ?_⟩))))
        rw [e1, e2, e3, e4, hX.2.2.2.2.2.2.2.2.1 a c ha hc, hX.2.2.2.2.2.2.2.1]
        refine p_offer hB (upN (upN h a (h c)) c (h a)) (fun t2 f2 hB2 => q t2 f2 ?_)
        rw [bTry_yes (hls.mpr ⟨g1, g2, g3, g4⟩), cst_swap hsy hok h0 ha hc z]
        exact hB2
      · exact bq_f (by rw [hX.pa2 h30 hc (by omega) ha (fun w => z w.symm)]; exact g4) (hJn (fun y => g4 (hls.mp y).2.2.2))
    · exact bq_f (by rw [hX.pa2 h30 ha (by omega) hc z]; exact g3) (hJn (fun y => g3 (hls.mp y).2.2.1))
theorem p_seek {b : Bool} {σ : gSt} (hR : σ.2.2 = gRf b) {N most : Nat} {h : Nat → Nat} {wt : Nat → Nat → Int32} {ti ap : Nat → Nat → Bool} (h30 : N ≤ 30) (hm30 : most ≤ 30) (hsz : σ.1 33 1 = nI N) (h34 : ∀ i, i < N → σ.1 34 i = nI (h i)) (hh : ∀ i, i < N → h i ≤ i ∧ h (h i) = h i) (h31 : ∀ a c, a < N → c < N → a ≠ c → bt (σ.1 31 a) c = ti a c) (h31d : ∀ a, a < N → bt (σ.1 31 a) a = false) (h39 : ∀ a c, a < N → c < 32 → bt (σ.1 39 a) c = (decide (c < N) && decide (a ≠ c) && ap a c)) (h24 : ∀ a c, a < N → c < N → σ.1 24 (a * 30 + c) = wt a c) (hmo : σ.1 30 5 = nI most) (hsy : ∀ i j, i < N → j < N → wt i j = wt j i) (hok : ∀ i j, i < N → j < N → okW (wt i j)) (h0 : ∀ i, wt i i = nI 0) (hap : symB N ap) (hti : symB N ti) (hl : lawP N most ap ti h) {Q : gSt → Prop} (q : ∀ t, Off [38, 40, 41] σ t → skB t (bAll N most wt ap ti h) → Q t) : W_X0_seek Q σ := by
  have goL : ∀ (m e : Nat) (s : BS) (t : gSt) (K : gSt → Prop), e + m = N → t.2.2 = gRf b → skC t N most h wt ti ap → skB t s → (∀ t2, Fs t t2 → skB t2 (bGo N most wt ap ti h m e s) → K t2) → L_X0_seek_19 Q K (m + 1) (nI e) t := by
    intro m
    induction m with
    | zero =>
      intro e s t K he hR hX hB hK
      obtain rfl : e = N := by omega
      rw [L_X0_seek_19, hX.1]
      exact bq_t (nI_le (Nat.le_refl _) (by omega)) (hK t Fs.rf hB)
    | succ m ih =>
      intro e s t K he hR hX hB hK
      rw [L_X0_seek_19, hX.1]
      refine bq_f (nI_ge (by omega) (by omega)) (p_go h30 hm30 hh hsy hok h0 hap hti hl (by omega) hR hX hB (fun t2 f2 hB2 => ?_))
      rw [nI_add]
      exact ih (e + 1) _ t2 K (by omega) (f2.1.2.trans hR) (hX.fr f2) hB2 (fun t3 f3 => hK t3 (f2.trans f3))
  have joL : ∀ (m c a : Nat) (s : BS) (t : gSt) (K : gSt → Prop), c + m = N → a < c → t.2.2 = gRf b → skC t N most h wt ti ap → skB t s → (∀ t2, Fs t t2 → skB t2 (bJoK N most wt ap ti h a m c s) → K t2) → L_X0_seek_58 Q (nI a) K (m + 1) (nI c) t := by
    intro m
    induction m with
    | zero =>
      intro c a s t K he hac hR hX hB hK
      obtain rfl : c = N := by omega
      rw [L_X0_seek_58, hX.1]
      exact bq_t (nI_le (Nat.le_refl _) (by omega)) (hK t Fs.rf hB)
    | succ m ih =>
      intro c a s t K he hac hR hX hB hK
      rw [L_X0_seek_58, hX.1]
      refine bq_f (nI_ge (by omega) (by omega)) (p_jo h30 hm30 hh hsy hok hap hti hl (by omega) (by omega) (by omega) hR hX hB (fun t2 f2 hB2 => ?_))
      rw [nI_add]
      exact ih (c + 1) a _ t2 K (by omega) (by omega) (f2.1.2.trans hR) (hX.fr f2) hB2 (fun t3 f3 => hK t3 (f2.trans f3))
  have joL2 : ∀ (m a : Nat) (s : BS) (t : gSt) (K : gSt → Prop), a + m = N → t.2.2 = gRf b → skC t N most h wt ti ap → skB t s → (∀ t2, Fs t t2 → skB t2 (bJo N most wt ap ti h m a s) → K t2) → L_X0_seek_43 Q K (m + 1) (nI a) t := by
    intro m
    induction m with
    | zero =>
      intro a s t K he hR hX hB hK
      obtain rfl : a = N := by omega
      rw [L_X0_seek_43, hX.1]
      exact bq_t (nI_le (Nat.le_refl _) (by omega)) (hK t Fs.rf hB)
    | succ m ih =>
      intro a s t K he hR hX hB hK
      rw [L_X0_seek_43, hX.1, nI_add]
      refine bq_f (nI_ge (by omega) (by omega)) ⟨N - (a + 1) + 1, joL (N - (a + 1)) (a + 1) a s t _ (by omega) (by omega) hR hX hB (fun t2 f2 hB2 => ?_)⟩
      exact ih (a + 1) _ t2 K (by omega) (f2.1.2.trans hR) (hX.fr f2) hB2 (fun t3 f3 => hK t3 (f2.trans f3))
  have swL : ∀ (m c a : Nat) (s : BS) (t : gSt) (K : gSt → Prop), c + m = N → a < c → t.2.2 = gRf b → skC t N most h wt ti ap → skB t s → (∀ t2, Fs t t2 → skB t2 (bSwK N most wt ap ti h a m c s) → K t2) → L_X0_seek_104 Q (nI a) K (m + 1) (nI c) t := by
    intro m
    induction m with
    | zero =>
      intro c a s t K he hac hR hX hB hK
      obtain rfl : c = N := by omega
      rw [L_X0_seek_104, hX.1]
      exact bq_t (nI_le (Nat.le_refl _) (by omega)) (hK t Fs.rf hB)
    | succ m ih =>
      intro c a s t K he hac hR hX hB hK
      rw [L_X0_seek_104, hX.1]
      refine bq_f (nI_ge (by omega) (by omega)) (p_sw h30 hh hsy hok h0 hap hti hl (by omega) (by omega) hR hX hB (fun t2 f2 hB2 => ?_))
      rw [nI_add]
      exact ih (c + 1) a _ t2 K (by omega) (by omega) (f2.1.2.trans hR) (hX.fr f2) hB2 (fun t3 f3 => hK t3 (f2.trans f3))
  have swL2 : ∀ (m a : Nat) (s : BS) (t : gSt) (K : gSt → Prop), a + m = N → t.2.2 = gRf b → skC t N most h wt ti ap → skB t s → (∀ t2, Fs t t2 → skB t2 (bSw N most wt ap ti h m a s) → K t2) → L_X0_seek_89 Q K (m + 1) (nI a) t := by
    intro m
    induction m with
    | zero =>
      intro a s t K he hR hX hB hK
      obtain rfl : a = N := by omega
      rw [L_X0_seek_89, hX.1]
      exact bq_t (nI_le (Nat.le_refl _) (by omega)) (hK t Fs.rf hB)
    | succ m ih =>
      intro a s t K he hR hX hB hK
      rw [L_X0_seek_89, hX.1, nI_add]
      refine bq_f (nI_ge (by omega) (by omega)) ⟨N - (a + 1) + 1, swL (N - (a + 1)) (a + 1) a s t _ (by omega) (by omega) hR hX hB (fun t2 f2 hB2 => ?_)⟩
      exact ih (a + 1) _ t2 K (by omega) (f2.1.2.trans hR) (hX.fr f2) hB2 (fun t3 f3 => hK t3 (f2.trans f3))
  unfold W_X0_seek
  refine p_measure hR hsz h30 (fun i hi => ⟨h34 i hi, by have := (hh i hi).1; omega⟩) h24 hsy (fun t0 hO0 _ h387 h40 h41 => fI_i (fL_i ?_))
  have hX : skC (sL (sI t0 38 0 (-1)) 38 3 ((sI t0 38 0 (-1)).2.1 38 7)) N most h wt ti ap := by
    refine ⟨?_, ?_, ?_, ?_, ?_, ?_, ?_, ?_, ?_, ?_⟩
    · rw [← hsz, ← (hO0.1 33 (by decide)).1]; simp [sI, sL]
    · intro i hi; rw [← h34 i hi, ← (hO0.1 34 (by decide)).1]; simp [sI, sL]
    · intro a c ha hc hne; rw [← h31 a c ha hc hne, ← (hO0.1 31 (by decide)).1]; simp [sI, sL]
    · intro a ha; rw [← h31d a ha, ← (hO0.1 31 (by decide)).1]; simp [sI, sL]
    · intro a c ha hc; rw [← h39 a c ha hc, ← (hO0.1 39 (by decide)).1]; simp [sI, sL]
    · intro v k hv hk; rw [← h40 v k hv hk]; simp [sI, sL]
    · intro e v he hv; rw [← h41 e v he hv]; simp [sI, sL]
    · rw [← h387]; simp [sL_get, sI_get2]
    · intro a c ha hc; rw [← h24 a c ha hc, ← (hO0.1 24 (by decide)).1]; simp [sI, sL]
    · rw [← hmo, ← (hO0.1 30 (by decide)).1]; simp [sI, sL]
  have hO1 : Off [38, 40, 41] σ (sL (sI t0 38 0 (-1)) 38 3 ((sI t0 38 0 (-1)).2.1 38 7)) := (hO0.i (by simp)).l (by simp)
  have hB : skB (sL (sI t0 38 0 (-1)) 38 3 ((sI t0 38 0 (-1)).2.1 38 7)) (cst wt N h, -1, 0, 0, h, false) := ⟨by rw [sL_get, if_pos ⟨rfl, rfl⟩]; exact h387, by rw [sL_get1, sI_get, if_pos ⟨rfl, rfl⟩]; rfl, fun z => by cases z⟩
  refine ⟨N + 1, goL N 0 _ _ _ (by omega) (hO1.2.trans hR) hX hB (fun t2 f2 hB2 => ⟨N + 1, joL2 N 0 _ t2 _ (by omega) (f2.1.2.trans (hO1.2.trans hR)) (hX.fr f2) hB2 (fun t3 f3 hB3 => ⟨N + 1, swL2 N 0 _ t3 _ (by omega) (f3.1.2.trans (f2.1.2.trans (hO1.2.trans hR))) ((hX.fr f2).fr f3) hB3 (fun t4 f4 hB4 => ?_)⟩)⟩)⟩
  exact q t4 (((hO1.trans (f2.1.mono (by simp))).trans (f3.1.mono (by simp))).trans (f4.1.mono (by simp))) hB4
