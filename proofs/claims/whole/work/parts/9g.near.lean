/-! near: the reference; near, nearest -/
theorem fb_ct_split1 (g : Nat → Bool) (n : Nat) : fb_ct g (n + 1) = fb_ct g n + (if g n then 1 else 0) := rfl
theorem cnt_swap (g : Nat → Nat → Bool) : ∀ n : Nat, fb_sm (fun i => fb_ct (fun t => g i (i + 1 + t)) (n - (i + 1))) n = fb_sm (fun j => fb_ct (fun i => g i j) j) n
  | 0 => rfl
  | n + 1 => by
    rw [fb_sm_succ, fb_sm_succ, ← cnt_swap g n, show n + 1 - (n + 1) = 0 by omega]
    show _ + 0 = _
    have h1 : fb_sm (fun i => fb_ct (fun t => g i (i + 1 + t)) (n + 1 - (i + 1))) n = fb_sm (fun i => fb_ct (fun t => g i (i + 1 + t)) (n - (i + 1)) + (if g i n then 1 else 0)) n := fb_sm_cong (fun i hi => by
      rw [show n + 1 - (i + 1) = (n - (i + 1)) + 1 by omega, fb_ct_split1, show i + 1 + (n - (i + 1)) = n by omega])
    rw [h1, fb_sm_add, Nat.add_zero]
    congr 1
    have h2 : ∀ m, fb_sm (fun i => if g i n then 1 else 0) m = fb_ct (fun i => g i n) m := fun m => by
      induction m with
      | zero => rfl
      | succ m ih => rw [fb_sm_succ, fb_ct_split1, ih]
    exact h2 n
def RelNM (n N L : Nat) (p : Nat → Bool) (hd : Nat → Nat) (_ : Nat) (x : NRs) (t : gSt) : Prop := t.1 65 68 = nI 2 ∧ t.2.1 65 76 = lN L ∧ (x = none → t.1 65 74 = -1) ∧ (∀ f a, x = some (f, a) → t.1 65 74 = nI f ∧ f ≤ 100 ∧ ∀ j, j < n → t.1 109 j = nI (a j) ∧ a j < 10) ∧ PrtM t N p ∧ (∀ e, e < N → t.1 71 e = nI (hd e) ∧ hd e < 1000)
theorem PrtM.fr {s t : gSt} {N : Nat} {p : Nat → Bool} {ks js : List Nat} (h : PrtM s N p) (f : Fr ks js s t) (hk : 104 ∉ ks ∧ 105 ∉ ks ∧ 64 ∉ js) : PrtM t N p := by
  unfold PrtM at h ⊢
  rw [(f.2.1 64 hk.2.2).1, (f.1 105 (by decide) hk.2.1).1, (f.1 104 (by decide) hk.1).1]
  exact h
theorem xor_dec {a b : Bool} : (a != b) = decide (¬ a = b) := by cases a <;> cases b <;> rfl
theorem okNM {N most L : Nat} {p : Nat → Bool} {hd : Nat → Nat} {W : Nat → Nat → Int32} {A T : Nat → Nat → Bool} (h30 : N ≤ 30) (hn : fa_cnt p N ≤ 10) (hL : L ≤ 100000000) (hW : ∀ i j, j < i → i < fa_cnt p N → okW (W i j)) : mwOK (RelNM (fa_cnt p N) N L p hd) (stN (fa_cnt p N) (rmM most) W A T (hdH hd p N) L) (fun _ v => decide (L < v)) (fa_cnt p N) most W A T := by
  generalize hnn : fa_cnt p N = n at *
  have hb : ∀ (a : Nat → Nat) (i : Nat), i ≤ n → cSum W 0 a i ≤ 90000000 := fun a i hi => cSum_le (by omega) (fun i2 j h1 h2 => hW i2 j h1 (by omega))
  refine ⟨?_, ?_, ?_, ?_, ?_⟩
  · rintro B x t c Q ⟨h1, h2, h3, h4, h5, h6⟩ hc q
    unfold W_X12_isTooDear
    rw [h1, h2]
    refine bq_f (by decide) (bq_f (by decide) ?_)
    rw [lN_lt (by omega) (by omega)]
    by_cases z : L < c
    · rw [show zI (decide (L < c)) = nI 1 by rw [decide_eq_true z]; rfl] at q
      exact bq_t z q
    · rw [show zI (decide (L < c)) = nI 0 by rw [decide_eq_false z]; rfl] at q
      exact bq_f z q
  · rintro B x t t2 ⟨h1, h2, h3, h4, h5, h6⟩ f
    refine ⟨(f.2.1 68 (by decide)).1.trans h1, (f.2.1 76 (by decide)).2.trans h2, fun e => (f.2.1 74 (by decide)).1.trans (h3 e), fun g a e => ?_, h5.fr f (by decide), ?_⟩
    · rw [(f.2.1 74 (by decide)).1, (f.1 109 (by decide) (by decide)).1]
      exact h4 g a e
    · rw [(f.1 71 (by decide) (by decide)).1]; exact h6
  · rintro B x t i a ⟨h1, h2, h3, h4, h5, h6⟩ hin hdr b hb1 hlw
    have hdr := of_decide_eq_true hdr
    have hsame : stN n (rmM most) W A T (hdH hd p N) L x b = x := if_neg (fun w => by
      have e1 : cSum W 0 b i = cSum W 0 a i := cSum_cong (fun j _ j2 => hb1 j j2)
      have e2 := cSum_pre (W := W) (s := 0) (a := b) hin
      omega)
    rw [hsame]
    exact ⟨⟨h1, h2, h3, h4, h5, h6⟩, decide_eq_true hdr⟩
  · rintro B x t b ⟨h1, h2, h3, h4, h5, h6⟩ hlw
    rw [show stN n (rmM most) W A T (hdH hd p N) L x b = x from if_neg (fun w => by rw [hlw] at w; exact absurd w.1 (by decide))]
    exact ⟨⟨h1, h2, h3, h4, h5, h6⟩, fun _ => rfl⟩
  · rintro B x t a Q ⟨h1, h2, h3, h4, h5, h6⟩ hC hlw hdr h106 hQ
    have hdr : ¬ L < cSum W 0 a n := of_decide_eq_false hdr
    have hmem : ∀ i, i < n → memP p N i < N := fun i hi => (memP_in (by omega)).1
    have h105 : ∀ i, i < n → t.1 105 i = nI (memP p N i) := fun i hi => h5.mem (by omega)
    have hD : ∀ i j, i < n → j < n → (decide (a i = a j) != hdH hd p N i j) = (decide (a j = a i) != hdH hd p N j i) := fun i j hi hj => by
      unfold hdH
      congr 1
      · rw [decide_eq_decide]; exact eq_comm
      · rw [decide_eq_decide]; exact eq_comm
    have total : fb_sm (fun i => fb_ct (fun t => decide (a i = a (i + 1 + t)) != hdH hd p N i (i + 1 + t)) (n - (i + 1))) n = odN 2 (hdH hd p N) 0 a n := by
      rw [cnt_swap (fun i j => decide (a i = a j) != hdH hd p N i j)]
      unfold odN
      rw [if_pos rfl]
      refine fb_sm_cong (fun j hj => ?_)
      rw [if_pos (Nat.zero_le _)]
      refine fb_ct_cong (fun i hi => ?_)
      rw [decide_eq_true (Nat.zero_le _), Bool.true_and]
      unfold hdH
      rw [show decide (hd (memP p N i) = hd (memP p N j)) = decide (hd (memP p N j) = hd (memP p N i)) by rw [decide_eq_decide]; exact eq_comm]
    have e8 := odN_le (z := 2) (s := 0) (H := hdH hd p N) (a := a) hn
    unfold W_X12_leaf
    rw [h1]
    refine bq_f (by decide) (bq_f (by decide) ?_)
    have inner : ∀ (c j i : Nat) (v : Nat) (K : Int32 → Prop), j + c = n → i < j → K (nI (v + fb_ct (fun t => decide (a i = a (j + t)) != hdH hd p N i (j + t)) c)) → L_X12_leaf_260 Q (nI i) t K (c + 1) (nI v) (nI j) := by
      intro c
      induction c with
      | zero =>
        intro j i v K hj hi hK
        obtain rfl : j = n := by omega
        rw [L_X12_leaf_260, hC.1]
        exact bq_t (nI_le (Nat.le_refl _) (by omega)) hK
      | succ c ih =>
        intro j i v K hj hi hK
        rw [L_X12_leaf_260, hC.1]
        have hjn : j < n := by omega
        have hin : i < n := by omega
        obtain ⟨q1, q2⟩ := h106 i hin
        obtain ⟨q3, q4⟩ := h106 j hjn
        refine bq_f (nI_ge hjn (by omega)) (rI_i (by omega) (rI_i (by omega) ?_))
        rw [q1, q3]
        refine jn_z (decide (a i = a j)) (by rw [decide_eq_true_iff, nI_eq (by omega) (by omega)]) ?_
        refine rI_i (by omega) ?_
        rw [h105 i hin]
        have mi := hmem i hin
        have mj := hmem j hjn
        refine rI_i (by omega) (rI_i (by omega) ?_)
        rw [h105 j hjn]
        refine rI_i (by omega) ?_
        obtain ⟨r1, r2⟩ := h6 _ mi
        obtain ⟨r3, r4⟩ := h6 _ mj
        rw [r1, r3]
        refine jn_z (hdH hd p N i j) (by unfold hdH; rw [decide_eq_true_iff, nI_eq (by omega) (by omega)]) ?_
        have e1 : fb_ct (fun t => decide (a i = a (j + t)) != hdH hd p N i (j + t)) (c + 1) = (if (decide (a i = a j) != hdH hd p N i j) then 1 else 0) + fb_ct (fun t => decide (a i = a (j + 1 + t)) != hdH hd p N i (j + 1 + t)) c := by
          rw [Nat.add_comm c 1, fb_ct_split]
          congr 1
          · exact Nat.zero_add _
          · refine fb_ct_cong (fun t ht => ?_)
            rw [show j + (1 + t) = j + 1 + t by omega]
        refine jn_zn (decide (a i = a j) != hdH hd p N i j) ?_ ?_
        · cases decide (a i = a j) <;> cases hdH hd p N i j <;> decide
        · have e2 : nI v + zI (decide (a i = a j) != hdH hd p N i j) = nI (v + (if (decide (a i = a j) != hdH hd p N i j) then 1 else 0)) := by
            cases (decide (a i = a j) != hdH hd p N i j)
            · show nI v + nI 0 = _; rw [nI_add]; rfl
            · show nI v + nI 1 = _; rw [nI_add]; rfl
          rw [e2, nI_add]
          refine ih (j + 1) i _ K (by omega) (by omega) ?_
          rw [e1] at hK
          rw [Nat.add_assoc]
          exact hK
    have outer : ∀ (c i : Nat) (v : Nat) (K : Int32 → Prop), i + c = n → v = fb_sm (fun i => fb_ct (fun t => decide (a i = a (i + 1 + t)) != hdH hd p N i (i + 1 + t)) (n - (i + 1))) i → K (nI (odN 2 (hdH hd p N) 0 a n)) → L_X12_leaf_245 Q t K (c + 1) (nI v) (nI i) := by
      intro c
      induction c with
      | zero =>
        intro i v K hi hv hK
        obtain rfl : i = n := by omega
        rw [L_X12_leaf_245, hC.1, hv, total]
        exact bq_t (nI_le (Nat.le_refl _) (by omega)) hK
      | succ c ih =>
        intro i v K hi hv hK
        rw [L_X12_leaf_245, hC.1, nI_add]
        refine bq_f (nI_ge (by omega) (by omega)) ⟨n - (i + 1) + 1, inner (n - (i + 1)) (i + 1) i v _ (by omega) (by omega) ?_⟩
        refine ih (i + 1) _ K (by omega) ?_ hK
        rw [fb_sm_succ, ← hv]
    refine ⟨n + 1, outer n 0 0 _ (by omega) rfl ?_⟩
    generalize hod : odN 2 (hdH hd p N) 0 a n = od at *
    intro J31 hJ31
    have est0 : x = none → stN n (rmM most) W A T (hdH hd p N) L x a = some (od, a) := fun hy => by
      subst hy
      unfold stN
      rw [if_pos ⟨hlw, by omega⟩, hod]
    have est1 : ∀ y, x = some y → stN n (rmM most) W A T (hdH hd p N) L x a = if od < y.1 then some (od, a) else some y := fun y hy => by
      subst hy
      unfold stN
      rw [if_pos ⟨hlw, by omega⟩, hod]
    have take : stN n (rmM most) W A T (hdH hd p N) L x a = some (od, a) → J31 := by
      intro e
      refine hJ31 (fI_i ?_)
      have fu : Fr [] [74] t (sI t 65 74 (nI od)) := Fr.rf.f (by simp)
      have lp1 : ∀ (m j : Nat) (v : gSt), j + m = n → Fr [109] [] (sI t 65 74 (nI od)) v → (∀ y, y < j → v.1 109 y = nI (a y)) → L_X12_leaf_371 Q (fun s40 => Q s40) (m + 1) (nI j) v := by
        intro m
        induction m with
        | zero =>
          intro j v hj fv hv
          have hjn : j = n := by omega
          rw [L_X12_leaf_371, (fv.2.1 64 (by decide)).1, (fu.2.1 64 (by decide)).1, hC.1]
          have ft : Fr [109] [74] t v := (fu.mono (by simp) (by simp)).trans (fv.mono (by simp) (by simp))
          refine bq_t (nI_le (by omega) (by omega)) (hQ v (ft.mono (by simp) (by simp)) ?_)
          rw [e]
          refine ⟨(ft.2.1 68 (by decide)).1.trans h1, (ft.2.1 76 (by decide)).2.trans h2, fun e => (by cases e), fun g a2 e => ?_, h5.fr ft (by decide), ?_⟩
          · simp only [Option.some.injEq, Prod.mk.injEq] at e
            obtain ⟨rfl, rfl⟩ := e
            refine ⟨?_, e8, fun y hy => ⟨hv y (by omega), (h106 y hy).2⟩⟩
            rw [(fv.2.1 74 (by decide)).1, sI_get, if_pos ⟨rfl, rfl⟩]
          · rw [(ft.1 71 (by decide) (by decide)).1]; exact h6
        | succ m ih =>
          intro j v hj fv hv
          rw [L_X12_leaf_371, (fv.2.1 64 (by decide)).1, (fu.2.1 64 (by decide)).1, hC.1]
          refine bq_f (nI_ge (by omega) (by omega)) (rI_i (by omega) (wI_i (by omega) ?_))
          rw [nI_add]
          refine ih (j + 1) _ (by omega) (fv.i (by simp) (by decide)) (fun y hy => ?_)
          rw [sI_get]
          by_cases q : y = j
          · subst q
            rw [if_pos ⟨rfl, rfl⟩, (fv.1 106 (by decide) (by decide)).1, (fu.1 106 (by decide) (by decide)).1]
            exact (h106 y (by omega)).1
          · rw [if_neg (fun w => q w.2)]; exact hv y (by omega)
      exact ⟨n + 1, lp1 n 0 _ (by omega) Fr.rf (fun y hy => absurd hy (Nat.not_lt_zero y))⟩
    cases e : x with
    | none => exact bq_t (h3 e) (take (est0 e))
    | some y =>
      obtain ⟨k1, k2, k3⟩ := h4 y.1 y.2 e
      have est2 := est1 y e
      rw [k1]
      refine bq_f (nI_nm1 (by omega)) (br_lt (by omega) (by omega) (fun z => take ?_) (fun z => hQ t Fr.rf ?_))
      · rw [est2]; simp only [z, if_true]
      · rw [est2]
        have z2 : ¬ od < y.1 := by omega
        simp only [z2, if_false]
        rw [← e]
        exact ⟨h1, h2, h3, h4, h5, h6⟩
theorem nrA_some {n rm L : Nat} {W : Nat → Nat → Int32} {A T H : Nat → Nat → Bool} {c : Nat} (h : mnS n rm W A T 0 = some c) (hL : c ≤ L) : ∃ f a, nrA n rm W A T H L = some (f, a) := by
  have key : ∀ (l : List (Nat → Nat)) (x : NRs), (x ≠ none → l.foldl (stN n rm W A T H L) x ≠ none) ∧ (∀ b ∈ l, lwB 0 rm A T b n = true ∧ cSum W 0 b n ≤ L → l.foldl (stN n rm W A T H L) x ≠ none) := by
    intro l
    induction l with
    | nil => intro x; exact ⟨fun h => h, fun b hb => (by cases hb)⟩
    | cons a l ih =>
      intro x
      rw [List.foldl_cons]
      obtain ⟨i1, i2⟩ := ih (stN n rm W A T H L x a)
      have h1 : x ≠ none → stN n rm W A T H L x a ≠ none := fun hx => by
        unfold stN
        split
        · cases x with
          | none => exact absurd rfl hx
          | some y =>
            by_cases z : odN 2 H 0 a n < y.1
            · simp only [z, if_true]; exact fun w => (by cases w)
            · simp only [z, if_false]; exact fun w => (by cases w)
        · exact hx
      refine ⟨fun hx => i1 (h1 hx), fun b hb hc => ?_⟩
      rw [List.mem_cons] at hb
      rcases hb with rfl | hb
      · refine i1 ?_
        unfold stN
        rw [if_pos hc]
        cases x with
        | none => exact fun w => (by cases w)
        | some y =>
          by_cases z : odN 2 H 0 b n < y.1
          · simp only [z, if_true]; exact fun w => (by cases w)
          · simp only [z, if_false]; exact fun w => (by cases w)
      · exact i2 b hb hc
  obtain ⟨b, b1, b2⟩ := (mnS_some (Nat.zero_le _) h).2
  obtain ⟨d, hd, hk⟩ := lvs_full (b := b) n 0 0 (fun _ => 0) (Nat.le_refl _) (canA_0 0 _) (fun i j h1 h2 => by omega)
  rw [Nat.zero_add] at hk
  have := (key (lvs n 0 0 (fun _ => 0)) none).2 d hd ⟨by rw [lwB_ker hk]; exact b1, by rw [cSum_ker hk, b2]; exact hL⟩
  unfold nrA
  cases e : (lvs n 0 0 (fun _ => 0)).foldl (stN n rm W A T H L) none with
  | none => exact absurd e this
  | some y => exact ⟨y.1, y.2, rfl⟩
