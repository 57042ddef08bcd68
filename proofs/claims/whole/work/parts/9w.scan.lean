/-! the class's table of words -/
/-- the sixteen words, as bytes -/
def spl : List (List Nat) := [[108, 105, 107, 101], [121, 101, 97, 114, 115], [116, 114, 97, 100, 101], [98, 111, 111, 107], [102, 97, 116, 104, 101, 114], [111, 116, 104, 101, 114], [108, 101, 97, 115, 116], [109, 111, 115, 116], [102, 111, 114], [97, 103, 97, 105, 110, 115, 116], [110, 101, 118, 101, 114], [108, 111, 111, 107], [105, 102], [111, 114], [97, 110, 100], [110, 111, 116]]
def isW (B : Nat → Nat) (i e : Nat) (w : List Nat) : Bool := decide (e - i = w.length) && (List.range w.length).all (fun k => decide (B (i + k) = w.getD k 0))
/-- which word it is: -1 to -16, else -19 -/
def wsg (B : Nat → Nat) (i e : Nat) : Int32 := if spl.findIdx (isW B i e) < 16 then -(nI (spl.findIdx (isW B i e) + 1)) else -19
/-- what is asked of wordAt -/
def wbOK (b : Bool) (B : Nat → Nat) (n : Nat) : Prop := ∀ (s : gSt) (i : Nat), s.2.2 = gRf b → bytC s B n → i < n → isLb (B i) = true → ∀ o l, Sp o l mX7_wordAt 12 0 0 [.ref (ad o 4), .int (nI i), .int (nI n)] 116 116 s (pI (fun x t => x = wsg B i (tokE B n i) ∧ s = t))
theorem bytC.off {σ s : gSt} {B : Nat → Nat} {n : Nat} {ks : List Nat} (h : bytC σ B n) (hO : Off ks σ s) (hk : 12 ∉ ks) : bytC s B n := by
  unfold bytC
  rw [(hO.1 12 hk).1]
  exact h
/-- the table stands -/
def tabC (t : gSt) (B : Nat → Nat) (n C : Nat) : Prop := C ≤ n ∧ plc B n C = n ∧ (∀ c, c < C → plc B n c < n) ∧ (∀ c, c ≤ C → t.1 14 c = nI (plc B n c) ∧ t.1 13 c = sgn (wsg B) B n c) ∧ ∀ c, c < C → t.1 15 c = nI (tokV B n (plc B n c))
theorem p_scan {b : Bool} {σ : gSt} (hR : σ.2.2 = gRf b) {B : Nat → Nat} {n : Nat} (hB : bytC σ B n) (hw : wbOK b B n) {Q : gSt → Prop} (q : ∀ t C, Off [13, 14, 15] σ t → tabC t B n C → Q t) : W_X7_scan (nI n) Q σ := by
  have h4 := hB.1
  have done : ∀ (m c : Nat) (s : gSt), c ≤ n → plc B n c = n → (∀ d, d < c → plc B n d < n) → Off [13, 14, 15] σ s → (∀ d, d < c → s.1 14 d = nI (plc B n d) ∧ s.1 13 d = sgn (wsg B) B n d ∧ s.1 15 d = nI (tokV B n (plc B n d))) → L_X7_scan_4 Q (nI n) (fun y34 s35 => wI s35 14 401 y34 (nI n) (fun s36 => wI s36 13 401 y34 ((-18 : Int32)) (fun s37 => Q s37))) (m + 1) (nI c) (nI n) s := by
    intro m c s h3 hx hp hO hT
    rw [L_X7_scan_4]
    refine bq_t (nI_le (Nat.le_refl _) (by omega)) (wI_i (by omega) (wI_i (by omega) (q _ c ((hO.i (by simp)).i (by simp)) ⟨by omega, hx, hp, fun d hd => ?_, fun d hd => ?_⟩)))
    · rw [sI_get, sI_get, sI_get, sI_get]
      by_cases z : d = c
      · subst z
        refine ⟨by rw [if_neg (fun w => absurd w.1 (by decide)), if_pos ⟨rfl, rfl⟩, hx], ?_⟩
        rw [if_pos ⟨rfl, rfl⟩, sgn, if_neg (by omega)]
      · obtain ⟨t1, t2, t3⟩ := hT d (by omega)
        refine ⟨?_, ?_⟩
        · rw [if_neg (fun w => absurd w.1 (by decide)), if_neg (fun w => z w.2)]; exact t1
        · rw [if_neg (fun w => z w.2), if_neg (fun w => absurd w.1 (by decide))]; exact t2
    · rw [sI_get, sI_get, if_neg (fun w => absurd w.1 (by decide)), if_neg (fun w => absurd w.1 (by decide))]
      exact (hT d hd).2.2
  have loop : ∀ (m i c e : Nat) (s : gSt), i + m = n → c ≤ i → i ≤ e → e ≤ n → nxt B n e = plc B n c → (∀ k, i ≤ k → k < e → 0 < k ∧ gO (B (k - 1)) (B k) = true) → (e < n → e = 0 ∨ gO (B (e - 1)) (B e) = false) → (∀ d, d < c → plc B n d < n) → Off [13, 14, 15] σ s → (∀ d, d < c → s.1 14 d = nI (plc B n d) ∧ s.1 13 d = sgn (wsg B) B n d ∧ s.1 15 d = nI (tokV B n (plc B n d))) → L_X7_scan_4 Q (nI n) (fun y34 s35 => wI s35 14 401 y34 (nI n) (fun s36 => wI s36 13 401 y34 ((-18 : Int32)) (fun s37 => Q s37))) (m + 1) (nI c) (nI i) s := by
    intro m
    induction m with
    | zero =>
      intro i c e s h1 h3 hie hen hx hin hout hp hO hT
      obtain rfl : i = n := by omega
      obtain rfl : e = i := by omega
      rw [nxt_here (fun w => by omega)] at hx
      exact done 0 c s h3 hx.symm hp hO hT
    | succ m ih =>
      intro i c e s h1 h3 hie hen hx hin hout hp hO hT
      have hi : i < n := by omega
      rw [L_X7_scan_4]
      have hBs := hB.off hO (by decide)
      obtain ⟨b1, b2⟩ := hBs.2 i hi
      obtain ⟨te1, te2⟩ := tokE_ok (B := B) hi
      refine bq_f (nI_ge (by omega) (by omega)) (rI_i (by omega) ?_)
      rw [b1]
      refine br_eq (a := B i) (i := 32) (by omega) (by omega) (fun z => ?_) (fun z J10 hJ10 => ?_)
      · rw [nI_add]
        by_cases hlt : i < e
        · exact ih (i + 1) c e s (by omega) (by omega) (by omega) hen hx (fun k k1 k2 => hin k (by omega) k2) hout hp hO hT
        · obtain rfl : e = i := by omega
          exact ih (e + 1) c (e + 1) s (by omega) (by omega) (by omega) (by omega) (by rw [← nxt_blank hi z]; exact hx) (fun k k1 k2 => by omega) (fun _ => .inr (gO_no (.inl (by rw [Nat.add_sub_cancel, z]; rfl)) (.inl (by rw [Nat.add_sub_cancel, z]; rfl)))) hp hO hT
      by_cases hlt : i < e
      · obtain ⟨k0, hg⟩ := hin i (Nat.le_refl _) hlt
        refine bq_f (show ¬ nI i ≤ nI 0 from nI_ge k0 (by omega)) ?_
        rw [nI_sub (show 1 ≤ i by omega)]
        obtain ⟨c1, c2⟩ := hBs.2 (i - 1) (by omega)
        refine rI_i (by omega) ?_
        rw [c1]
        refine p_goesOn c2 b2 (br_z (fun w => by rw [hg] at w; cases w) (fun _ => ?_))
        rw [nI_add]
        exact ih (i + 1) c e s (by omega) (by omega) (by omega) hen hx (fun k k1 k2 => hin k (by omega) k2) hout hp hO hT
      obtain rfl : e = i := by omega
      have tok : J10 := by
        have hpc : plc B n c = e := by rw [← hx]; exact nxt_here (fun _ => z)
        refine hJ10 (wI_i (by omega) (p_isLetter b2 (fun J16 hJ16 => ?_)))
        have hO1 : Off [13, 14, 15] σ (sI s 14 c (nI e)) := hO.i (by simp)
        have key2 : J16 (tokS (wsg B) B n e) := by
          refine hJ16 _ (wI_i (by omega) (p_isDigitC b2 (fun J20 hJ20 => ?_)))
          have hO2 : Off [13, 14, 15] σ (sI (sI s 14 c (nI e)) 13 c (tokS (wsg B) B n e)) := hO1.i (by simp)
          have key3 : J20 (nI (tokV B n e)) := by
            refine hJ20 _ (wI_i (by omega) ?_)
            rw [nI_add, nI_add]
            refine ih (e + 1) (c + 1) (tokE B n e) _ (by omega) (by omega) te1 te2 ?_ (fun k k1 k2 => ⟨by omega, tokE_in (by omega) k2⟩) (fun w => .inr (tokE_end hi w)) (fun d hd => ?_) (hO2.i (by simp)) (fun d hd => ?_)
            · rw [plc, hpc, if_pos hi]
            · by_cases y : d = c
              · rw [y, hpc]; exact hi
              · exact hp d (by omega)
            · simp only [sI_get]
              by_cases y : d = c
              · subst y
                rw [hpc, sgn, hpc, if_pos hi]
                exact ⟨by simp, by simp, by simp⟩
              · obtain ⟨t1, t2, t3⟩ := hT d (by omega)
                exact ⟨by simp [y, t1], by simp [y, t2], by simp [y, t3]⟩
          have hv : isDb (B e) = false → tokV B n e = 0 := fun w => by unfold tokV; rw [w]; rfl
          refine br_z (fun w => ?_) (fun w => ?_)
          · rw [hv w] at key3; exact key3
          · have hl := isDb_nl w
            have ht : tokE B n e = runE isDb B n (n - (e + 1)) (e + 1) := by unfold tokE; rw [if_neg (by rw [hl]; decide), if_pos w]
            have key4 := key3
            unfold tokV at key4
            rw [if_pos w] at key4
            refine p_numberAt (hB.off hO2 (by decide)) te2 (by omega) (fun k k1 k2 => ?_) (fun h9 => ?_) key4
            · by_cases y : k = e
              · rw [y]; exact w
              · rw [ht] at k2
                exact runE_in _ _ k (by omega) k2
            · rw [ht] at h9 ⊢
              exact runE_at _ _ (by omega) h9
        refine br_z (fun w => p_isDigitC b2 (br_z (fun w2 => ?_) (fun w2 => ?_))) (fun w => ⟨_, fun o l => hw _ e (hO1.2.trans hR) (hB.off hO1 (by decide)) hi w o l, ?_⟩)
        · unfold tokS at key2
          rw [if_neg (by rw [w]; decide), if_neg (by rw [w2]; decide)] at key2
          exact key2
        · unfold tokS at key2
          rw [if_neg (by rw [w]; decide), if_pos w2] at key2
          exact key2
        · unfold tokS at key2
          rw [if_pos w] at key2
          exact key2
      rcases Nat.eq_zero_or_pos e with e0 | e0
      · subst e0
        exact bq_t (show nI 0 ≤ nI 0 from nI_le (Nat.le_refl _) (by omega)) tok
      · refine bq_f (show ¬ nI e ≤ nI 0 from nI_ge e0 (by omega)) ?_
        rw [nI_sub (show 1 ≤ e by omega)]
        obtain ⟨c1, c2⟩ := hBs.2 (e - 1) (by omega)
        refine rI_i (by omega) ?_
        rw [c1]
        refine p_goesOn c2 b2 (br_z (fun _ => tok) (fun w => ?_))
        rcases hout hi with h9 | h9
        · omega
        · rw [h9] at w; cases w
  unfold W_X7_scan
  exact ⟨n + 1, loop n 0 0 0 σ (by omega) (by omega) (by omega) (by omega) rfl (fun k k1 k2 => by omega) (fun _ => .inl rfl) (fun d hd => by omega) Off.rf (fun d hd => by omega)⟩
