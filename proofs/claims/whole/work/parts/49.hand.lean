/-! operations of HAND -/
theorem Inv.hand {b : Bool} {σ t : gSt} (hI : Inv b σ) (f : Fr (34 :: 71 :: scrC) scrJ σ t) {N : Nat} (hN : σ.1 65 1 = nI N) (h30 : N ≤ 30) {g : Nat → Nat} (hg : ∀ i, i < N → t.1 34 i = nI (g i) ∧ t.1 71 i = nI (g i) ∧ g i ≤ i ∧ g (g i) = g i) : Inv b t := by
  have hN0 := hN
  obtain ⟨hR, N2, bk, nm, td, yr, fa, C, kind, st, cd, op, num, T, ta, tb, tw, most, ob, span, F, fx, fy, ft, h, m, kz, kh, tp, R, hs, hE, hRu, hT, hL, hP, hH, hD, hG⟩ := hI
  have e : N2 = N := by
    have := hE.1.2.1
    rw [hE.2.1.1] at hN0
    exact (nI_eq (by omega) (by omega)).mp hN0
  subst e
  have k1 : ∀ l : List Nat, (∀ k ∈ l, k ∉ (34 :: 71 :: scrC)) → ∀ k ∈ l, k ∉ (34 :: 71 :: scrC) := fun _ h => h
  refine ⟨f.2.2.trans hR, N2, bk, nm, td, yr, fa, C, kind, st, cd, op, num, T, ta, tb, tw, most, ob, span, F, fx, fy, ft, g, m, kz, kh, tp, R, hs, hE.fr f (by decide) (by decide), hRu.fr f (by cases b <;> decide) (by decide), hT.fr f (by decide) (by decide), hL.fr f (by decide) (by decide), hP.fr f (by decide) (by decide), ?_, hD.fr f (by decide) (by decide), hG.fr f (by decide) (by decide)⟩
  obtain ⟨a1, ⟨a2, a3, a4⟩, a5, a6⟩ := hH
  refine ⟨?_, ⟨?_, ?_, a4⟩, hg, fun q hq => ?_⟩
  · rw [(f.1 33 (by decide) (by decide)).1]; exact a1
  · rw [(f.1 33 (by decide) (by decide)).1]; exact a2
  · rw [(f.2.1 88 (by decide)).1]; exact a3
  · rw [(f.1 36 (by decide) (by decide)).1, (f.1 37 (by decide) (by decide)).1, (f.1 113 (by decide) (by decide)).1, (f.1 114 (by decide) (by decide)).1]; exact a6 q hq
def OKZ (A : (Int32 → gSt → Prop) → (String → gSt → Prop) → gSt → Prop) (B : (Int32 → gSt → Prop) → gSt → Prop) (code : String → Int32 → Prop) (σ : gSt) : Prop :=
  A (fun v s => (v = nI 0 ∨ v = nI 1) ∧ ∀ s2, s2 = sL s 115 0 (i2l v) → B (fun w t => fin (nI 0) (i2l w) t) s2) (fun E s => ∃ k, code E k ∧ B (fun _ t => fin k (lN 0) t) s) σ
theorem Inv.hd {b : Bool} {σ : gSt} (hI : Inv b σ) : ∃ (N : Nat) (h : Nat → Nat), N ≤ 30 ∧ σ.1 1 0 = nI N ∧ σ.1 65 1 = nI N ∧ σ.1 33 1 = nI N ∧ ∀ i, i < N → σ.1 34 i = nI (h i) ∧ σ.1 71 i = nI (h i) ∧ h i ≤ i ∧ h (h i) = h i := by
  obtain ⟨hR, N, bk, nm, td, yr, fa, C, kind, st, cd, op, num, T, ta, tb, tw, most, ob, span, F, fx, fy, ft, h, m, kz, kh, tp, R, hs, hE, hRu, hT, hL, hP, hH, hD, hG⟩ := hI
  exact ⟨N, h, hE.1.2.1, hE.1.1, hE.2.1.1, hH.1, hH.2.2.1⟩
/-- the class's heaping has changed, the reference's follows: the end of it -/
theorem hand_end {b : Bool} {σ s t : gSt} (hI : Inv b σ) {N : Nat} (h30 : N ≤ 30) (hN : σ.1 65 1 = nI N) (hO : Off [34, 35] σ s) {v : Int64} {f : Nat → Nat} (h34 : ∀ i, i < N → s.1 34 i = nI (lst f i)) (f1 : Fr [71, 98] [] (sI (sL s 115 0 v) 65 0 (nI 0)) t) (h71 : ∀ i, i < N → t.1 71 i = nI (lst f i)) : fin (nI 0) v t := by
  have f0 : Fr (34 :: 71 :: scrC) scrJ σ (sI (sL s 115 0 v) 65 0 (nI 0)) := (((Fr.of (js := []) hO (by decide)).mono (js' := scrJ) (by decide) (by decide)).l (by decide) (by decide)).f (by decide)
  refine ⟨(f1.2.1 0 (by simp)).1, fun _ => ?_, b, hI.hand (f0.trans (f1.mono (by decide) (by simp))) hN h30 (g := lst f) (fun i hi => ⟨?_, h71 i hi, lst_le f i, lst_idem f i⟩)⟩
  · rw [(f1.1 115 (by decide) (by decide)).2]
    exact sL_out
  · rw [(f1.1 34 (by decide) (by decide)).1]
    exact h34 i hi
theorem op_put {b : Bool} {σ : gSt} (hI : Inv b σ) (p r : Int32) : OKI (fun Q QX s => W_X11_put p r Q QX s) (W_X12_put p r) cdP σ := by
  obtain ⟨N, h, h30, hN1, hN, hsz, hh⟩ := hI.hd
  have hR := hI.1
  unfold OKI W_X11_put
  rcases pair_or p r N (by omega) with ⟨a, c, ha, hc, hne, rfl, rfl⟩ | ⟨E, k, h1, h2, h3⟩
  · obtain ⟨c1, c2, c3, c4⟩ := hh c hc
    refine q_pair hN1 h30 ha hc hne (rI_i (by omega) ?_)
    rw [c1]
    refine ⟨_, fun o l => s_moveTo hR h30 hsz (fun i hi => (hh i hi).1) (fun i hi => by have := (hh i hi).2.2.1; omega) a (h c) ha (by omega), fun r s hp => ?_⟩
    obtain ⟨rfl, hO, hv⟩ := hp
    refine ⟨rfl, hO.2, rI_i (by omega) ?_⟩
    rw [hv a, if_pos ha]
    rintro s2 rfl
    refine fI_i (p_isP (N := N) ?_ h30 rfl ha hc hne (bq_f (by decide) (rI_i (by omega) (wI_i (by omega) ?_))))
    · show s.1 65 1 = _; rw [(hO.1 65 (by decide)).1]; exact hN
    · have e71 : (sI (sL s 115 0 (i2l (nI (lst (fun i => if i = a then h c else h i) a)))) 65 0 (nI 0)).1 71 = σ.1 71 := (hO.1 71 (by decide)).1
      rw [e71, c2]
      refine p_number (N := N) (f := fun i => if i = a then h c else h i) h30 (by show s.1 65 1 = _; rw [(hO.1 65 (by decide)).1]; exact hN) (fun i hi => ?_) (fun t hOt ht => ?_)
      · rw [sI_get]
        by_cases e : i = a
        · subst e; rw [if_pos ⟨rfl, rfl⟩]; simp only [if_true]; exact ⟨trivial, by omega⟩
        · rw [if_neg (fun q => e q.2), e71]; simp only [if_neg e]; have := hh i hi; exact ⟨this.2.1, by omega⟩
      · have hOs : Fr [71, 98] [] (sI (sL s 115 0 (i2l (nI (lst (fun i => if i = a then h c else h i) a)))) 65 0 (nI 0)) t := ((Fr.rf.i (by simp) (by decide)).trans (Fr.of hOt (by decide)))
        refine rI_i (by omega) ?_
        rw [ht a ha]
        exact hand_end hI h30 hN hO (fun i hi => by rw [hv i, if_pos hi]) hOs ht
  · refine q_pair_no hN1 h30 E h2 ⟨nI k, h1, fI_i (p_isP_no (N := N) hN h30 rfl k h3 (bq_t rfl (fin.no hI (by omega))))⟩
/-- two entries, or one that is none -/
theorem two_or (p r : Int32) (N : Nat) (hN : N ≤ 1000) : (∃ a c, a < N ∧ c < N ∧ p = nI a ∧ r = nI c) ∨ (p < 0 ∨ nI N ≤ p) ∨ ((∃ a, a < N ∧ p = nI a) ∧ (r < 0 ∨ nI N ≤ r)) := by
  rcases ent_or p N hN with ⟨a, ha, rfl⟩ | ⟨hp, -⟩
  · rcases ent_or r N hN with ⟨c, hc, rfl⟩ | ⟨hr, -⟩
    · exact .inl ⟨a, c, ha, hc, rfl, rfl⟩
    · exact .inr (.inr ⟨⟨a, ha, rfl⟩, hr⟩)
  · exact .inr (.inl hp)
theorem fin.scr0 {b : Bool} {σ : gSt} (hI : Inv b σ) {v : Int64} : fin (nI 0) v (sI (sL σ 115 0 v) 65 0 (nI 0)) := fin.scr hI (((Fr.rf.l (ks := [115]) (js := [0]) (by simp) (by decide)).f (by simp)).scr (by decide) (by decide)) rfl (fun _ => sL_out)
theorem op_join {b : Bool} {σ : gSt} (hI : Inv b σ) (p r : Int32) : OKI (fun Q QX s => W_X11_join p r Q QX s) (W_X12_join p r) cdE σ := by
  obtain ⟨N, h, h30, hN1, hN, hsz, hh⟩ := hI.hd
  have hR := hI.1
  unfold OKI W_X11_join
  rcases two_or p r N (by omega) with ⟨a, c, ha, hc, rfl, rfl⟩ | hp | ⟨⟨a, ha, rfl⟩, hr⟩
  · obtain ⟨c1, c2, c3, c4⟩ := hh c hc
    obtain ⟨a1, a2, a3, a4⟩ := hh a ha
    refine q_need hN1 h30 ha (q_need hN1 h30 hc (rI_i (by omega) (rI_i (by omega) ?_)))
    rw [a1, c1]
    refine br_eq (by omega) (by omega) (fun he => ?_) (fun he => rI_i (by omega) (rI_i (by omega) ?_))
    · rintro s2 rfl
      refine fI_i (p_isE (N := N) hN h30 rfl ha (bq_f (by decide) (p_isE (N := N) hN h30 rfl hc (bq_f (by decide) (rI_i (by omega) (rI_i (by omega) (bq_t ?_ (fin.scr0 hI))))))))
      show σ.1 71 a = σ.1 71 c
      rw [a2, c2, he]
    · rw [a1, c1]
      refine ⟨_, fun o l => s_unite hR h30 hsz (fun i hi => (hh i hi).1) (fun i hi => by have := (hh i hi).2.2.1; omega) (h a) (h c) (by omega) (by omega), fun r s hp => ?_⟩
      obtain ⟨rfl, hO, hv⟩ := hp
      refine ⟨rfl, hO.2, rI_i (by omega) ?_⟩
      rw [hv a, if_pos ha]
      rintro s2 rfl
      have n1 : (sI (sL s 115 0 (i2l (nI (lst (fun i => if h i = h c then h a else h i) a)))) 65 0 (nI 0)).1 65 1 = nI N := by show s.1 65 1 = _; rw [(hO.1 65 (by decide)).1]; exact hN
      have e71 : (sI (sL s 115 0 (i2l (nI (lst (fun i => if h i = h c then h a else h i) a)))) 65 0 (nI 0)).1 71 = σ.1 71 := (hO.1 71 (by decide)).1
      refine fI_i (p_isE (N := N) n1 h30 rfl ha (bq_f (by decide) (p_isE (N := N) n1 h30 rfl hc (bq_f (by decide) (rI_i (by omega) (rI_i (by omega) (bq_f ?_ (rI_i (by omega) (rI_i (by omega) ?_)))))))))
      · rw [e71, a2, c2, nI_eq (by omega) (by omega)]; exact he
      · rw [e71, a2, c2]
        refine p_joins (N := N) h30 n1 rfl (by decide) (by omega) (by omega) (f := h) (fun i hi => ⟨by rw [e71]; exact (hh i hi).2.1, by have := (hh i hi).2.2.1; omega⟩) (fun t hOt ht => ?_)
        refine p_number (N := N) (f := fun i => if h i = h c then h a else h i) h30 (by rw [(hOt.1 65 (by decide)).1]; exact n1) (fun i hi => ⟨ht i hi, ?_⟩) (fun t2 hO2 ht2 => ?_)
        · have := (hh i hi).2.2.1
          show (if h i = h c then h a else h i) < 1000
          split <;> omega
        · refine rI_i (by omega) ?_
          rw [ht2 a ha]
          exact hand_end hI h30 hN hO (fun i hi => by rw [hv i, if_pos hi]) (((Fr.of (js := []) hOt (by decide)).mono (by decide) (by decide)).trans (Fr.of hO2 (by decide))) ht2
  · exact q_need_no hN1 h30 hp ⟨nI 1, ⟨rfl, rfl⟩, fI_i (p_isE_no (N := N) hN h30 rfl hp (bq_t rfl (fin.no hI (.inl rfl))))⟩
  · exact q_need hN1 h30 ha (q_need_no hN1 h30 hr ⟨nI 1, ⟨rfl, rfl⟩, fI_i (p_isE (N := N) hN h30 rfl ha (bq_f (by decide) (p_isE_no (N := N) hN h30 rfl hr (bq_t rfl (fin.no hI (.inl rfl))))))⟩)
theorem op_swap {b : Bool} {σ : gSt} (hI : Inv b σ) (p r : Int32) : OKI (fun Q QX s => W_X11_swap p r Q QX s) (W_X12_swap p r) cdE σ := by
  obtain ⟨N, h, h30, hN1, hN, hsz, hh⟩ := hI.hd
  have hR := hI.1
  unfold OKI W_X11_swap
  rcases two_or p r N (by omega) with ⟨a, c, ha, hc, rfl, rfl⟩ | hp | ⟨⟨a, ha, rfl⟩, hr⟩
  · obtain ⟨c1, c2, c3, c4⟩ := hh c hc
    obtain ⟨a1, a2, a3, a4⟩ := hh a ha
    refine q_need hN1 h30 ha (q_need hN1 h30 hc (rI_i (by omega) (rI_i (by omega) ?_)))
    rw [a1, c1]
    refine br_eq (by omega) (by omega) (fun he => ?_) (fun he => ?_)
    · rintro s2 rfl
      refine fI_i (p_isE (N := N) hN h30 rfl ha (bq_f (by decide) (p_isE (N := N) hN h30 rfl hc (bq_f (by decide) (rI_i (by omega) (rI_i (by omega) (bq_t ?_ (fin.scr0 hI))))))))
      show σ.1 71 a = σ.1 71 c
      rw [a2, c2, he]
    · refine ⟨_, fun o l => s_exchange hR h30 hsz (fun i hi => (hh i hi).1) (fun i hi => by have := (hh i hi).2.2.1; omega) a c ha hc, fun r s hp => ?_⟩
      obtain ⟨rfl, hO, hv⟩ := hp
      refine ⟨rfl, hO.2, ?_⟩
      rintro s2 rfl
      have n1 : (sI (sL s 115 0 (i2l (nI 1))) 65 0 (nI 0)).1 65 1 = nI N := by show s.1 65 1 = _; rw [(hO.1 65 (by decide)).1]; exact hN
      have e71 : (sI (sL s 115 0 (i2l (nI 1))) 65 0 (nI 0)).1 71 = σ.1 71 := (hO.1 71 (by decide)).1
      refine fI_i (p_isE (N := N) n1 h30 rfl ha (bq_f (by decide) (p_isE (N := N) n1 h30 rfl hc (bq_f (by decide) (rI_i (by omega) (rI_i (by omega) (bq_f ?_ (rI_i (by omega) (rI_i (by omega) (wI_i (by omega) (wI_i (by omega) ?_)))))))))))
      · rw [e71, a2, c2, nI_eq (by omega) (by omega)]; exact he
      · rw [e71, a2, c2]
        refine p_number (N := N) (f := fun i => if i = c then h a else if i = a then h c else h i) h30 (by exact n1) (fun i hi => ?_) (fun t hOt ht => ?_)
        · have := (hh i hi)
          rw [sI_get, sI_get]
          by_cases e1 : i = c
          · subst e1; rw [if_pos ⟨rfl, rfl⟩]; simp only [if_true]; exact ⟨trivial, by omega⟩
          · rw [if_neg (fun q => e1 q.2)]
            by_cases e2 : i = a
            · subst e2; rw [if_pos ⟨rfl, rfl⟩]; simp only [if_neg e1, if_true]; exact ⟨trivial, by omega⟩
            · rw [if_neg (fun q => e2 q.2), e71]; simp only [if_neg e1, if_neg e2]; exact ⟨this.2.1, by omega⟩
        · exact hand_end hI h30 hN hO (fun i hi => by rw [hv i, if_pos hi]) (((Fr.rf.i (by simp) (by decide)).i (by simp) (by decide)).trans (Fr.of hOt (by decide))) ht
  · exact q_need_no hN1 h30 hp ⟨nI 1, ⟨rfl, rfl⟩, fI_i (p_isE_no (N := N) hN h30 rfl hp (bq_t rfl (fin.no hI (.inl rfl))))⟩
  · exact q_need hN1 h30 ha (q_need_no hN1 h30 hr ⟨nI 1, ⟨rfl, rfl⟩, fI_i (p_isE (N := N) hN h30 rfl ha (bq_f (by decide) (p_isE_no (N := N) hN h30 rfl hr (bq_t rfl (fin.no hI (.inl rfl))))))⟩)
theorem cnt_zero {p : Nat → Bool} : ∀ {n : Nat}, (∀ j, j < n → p j = false) → fa_cnt p n = 0
  | 0, _ => rfl
  | n + 1, h => by rw [fa_cnt_no (h n (by omega)), cnt_zero (fun j hj => h j (by omega))]
theorem cnt_pos {p : Nat → Bool} {a : Nat} : ∀ {n : Nat}, a < n → p a = true → 1 ≤ fa_cnt p n
  | 0, h, _ => absurd h (Nat.not_lt_zero a)
  | n + 1, h, hp => by
    by_cases e : p n = true
    · rw [fa_cnt_yes e]; omega
    · have e2 : p n = false := by simpa using e
      rw [fa_cnt_no e2]
      have : a ≠ n := fun q => e (q ▸ hp)
      exact cnt_pos (by omega) hp
theorem cnt_one {p : Nat → Bool} {a : Nat} : ∀ {n : Nat}, a < n → p a = true → (∀ j, j < n → p j = true → j = a) → fa_cnt p n = 1
  | 0, h, _, _ => absurd h (Nat.not_lt_zero a)
  | n + 1, h, hp, ho => by
    by_cases e : p n = true
    · have := ho n (by omega) e
      subst this
      rw [fa_cnt_yes e, cnt_zero (fun j hj => ?_)]
      cases hq : p j
      · rfl
      · have := ho j (by omega) hq; omega
    · have e2 : p n = false := by simpa using e
      rw [fa_cnt_no e2]
      have : a ≠ n := fun q => e (q ▸ hp)
      exact cnt_one (by omega) hp (fun j hj => ho j (by omega))
theorem cnt_two {p : Nat → Bool} {a c : Nat} : ∀ {n : Nat}, a < c → c < n → p a = true → p c = true → 2 ≤ fa_cnt p n
  | 0, _, h, _, _ => absurd h (Nat.not_lt_zero c)
  | n + 1, h1, h2, ha, hc => by
    by_cases e : p n = true
    · rw [fa_cnt_yes e]
      have := cnt_pos (p := p) (a := a) (n := n) (by omega) ha
      omega
    · have e2 : p n = false := by simpa using e
      rw [fa_cnt_no e2]
      have : c ≠ n := fun q => e (q ▸ hc)
      exact cnt_two h1 (by omega) ha hc
theorem cnt_le1 {p : Nat → Bool} {a n : Nat} (ha : a < n) (hp : p a = true) : fa_cnt p n ≤ 1 ↔ ∀ j, j < n → p j = true → j = a := by
  constructor
  · intro h j hj hpj
    by_cases e : j = a
    · exact e
    · by_cases hlt : j < a
      · have := cnt_two hlt ha hpj hp; omega
      · have := cnt_two (show a < j by omega) hj hp hpj; omega
  · intro h
    rw [cnt_one ha hp h]
    omega
theorem or_one {p : Nat → Bool} {a n : Nat} (hn : n ≤ 32) (ha : a < n) (hp : p a = true) : orBits p n = nI 1 <<< (nI a &&& 31) ↔ ∀ j, j < n → p j = true → j = a := by
  constructor
  · intro h j hj hpj
    have := bt_orBits p n hn j (by omega)
    rw [h, bt_one a (by omega) (by omega), hpj, decide_eq_true hj] at this
    simpa using this
  · intro h
    apply b_ext
    intro i hi
    rw [bt_orBits p n hn i hi, bt_one a (by omega) hi]
    by_cases e : i = a
    · subst e; simp [ha, hp]
    · simp only [decide_eq_false e, Bool.and_eq_false_iff, decide_eq_false_iff_not]
      by_cases hin : i < n
      · right
        cases hq : p i
        · rfl
        · exact absurd (h i hin hq) e
      · exact .inl hin
theorem op_alone {b : Bool} {σ : gSt} (hI : Inv b σ) (p : Int32) : OKZ (fun Q QX s => W_X11_alone p Q QX s) (W_X12_alone p) cdE σ := by
  obtain ⟨N, h, h30, hN1, hN, hsz, hh⟩ := hI.hd
  have hR := hI.1
  unfold OKZ W_X11_alone
  rcases ent_or p N (by omega) with ⟨a, ha, rfl⟩ | ⟨hp, -⟩
  · obtain ⟨a1, a2, a3, a4⟩ := hh a ha
    have hcanon : ∀ i, i < N → lst h i = h i := fun i hi => lst_canon hi (fun j hj => (hh j hj).2.2)
    have hpa : (fun i => decide (h i = h a)) a = true := by simp
    -- the reference's part: from any state that has its heaping
    have hm : ∀ (s : gSt) (g : Nat → Nat) (v : Nat), v ≤ 1 → Off [34, 35] σ s → (∀ i, i < N → s.1 34 i = nI (lst g i)) → (∀ x y, x < N → y < N → ((if x = a then 100 + a else h x) = (if y = a then 100 + a else h y) ↔ g x = g y)) → v = (if fa_cnt (fun i => decide (h i = h a)) N ≤ 1 then 0 else 1) → ∀ s2, s2 = sL s 115 0 (i2l (nI v)) → W_X12_alone (nI a) (fun w t => fin (nI 0) (i2l w) t) s2 := by
      rintro s g v hv1 hO hs hg hv s2 rfl
      have n1 : (sI (sL s 115 0 (i2l (nI v))) 65 0 (nI 0)).1 65 1 = nI N := by show s.1 65 1 = _; rw [(hO.1 65 (by decide)).1]; exact hN
      have e71 : (sI (sL s 115 0 (i2l (nI v))) 65 0 (nI 0)).1 71 = σ.1 71 := (hO.1 71 (by decide)).1
      refine fI_i (p_isE (N := N) n1 h30 rfl ha (bq_f (by decide) (rI_i (by omega) ?_)))
      rw [e71, a2]
      refine p_sizeOf (N := N) h30 n1 (f := h) (fun i hi => ⟨by rw [e71]; exact (hh i hi).2.1, by have := (hh i hi).2.2.1; omega⟩) (by omega) ?_
      have hcl := fa_cnt_le (fun i => decide (h i = h a)) N
      refine jn1 (nI v) (fun J hJ => br_le (by omega) (by omega) (fun h1 => by rw [hv, if_pos h1] at hJ; exact hJ) (fun h1 => by rw [hv, if_neg (by omega)] at hJ; exact hJ)) ?_
      unfold W_X12_fresh
      rw [nI_add]
      refine wI_i (by omega) ?_
      refine p_number (N := N) (f := fun i => if i = a then 100 + a else h i) h30 (by exact n1) (fun i hi => ?_) (fun t hOt ht => ⟨?_, ?_⟩)
      · have := hh i hi
        rw [sI_get]
        by_cases e : i = a
        · subst e; rw [if_pos ⟨rfl, rfl⟩]; simp only [if_true]; exact ⟨trivial, by omega⟩
        · rw [if_neg (fun q => e q.2), e71]; simp only [if_neg e]; exact ⟨this.2.1, by omega⟩
      · rcases (show v = 0 ∨ v = 1 by omega) with rfl | rfl
        · exact .inl rfl
        · exact .inr rfl
      · refine hand_end hI h30 hN hO hs ((Fr.rf.i (by simp) (by decide)).trans (Fr.of hOt (by decide))) (fun i hi => ?_)
        rw [ht i hi, lst_cong hi (fun x y hx hy => hg x y hx hy)]
    refine q_need hN1 h30 ha ⟨_, fun o l => s_isAlone hR h30 hsz (fun i hi => (hh i hi).1) (fun i hi => by have := (hh i hi).2.2.1; omega) a ha, ?_⟩
    refine br_z (fun hf => ?_) (fun ht => ?_)
    · have hne : ¬ fa_cnt (fun i => decide (h i = h a)) N ≤ 1 := by
        rw [cnt_le1 ha hpa, ← or_one (by omega) ha hpa]
        exact of_decide_eq_false hf
      refine ⟨_, fun o l => s_moveOut hR h30 hsz (fun i hi => (hh i hi).1) (fun i hi => by have := (hh i hi).2.2.1; omega) a ha, fun r s hp => ?_⟩
      obtain ⟨rfl, hO, hv⟩ := hp
      refine ⟨rfl, hO.2, .inr rfl, hm s (fun i => if i = a then 30 else h i) 1 (by omega) hO (fun i hi => by rw [hv i, if_pos hi]) (fun x y hx hy => ?_) (by rw [if_neg hne])⟩
      have := (hh x hx).2.2.1
      have := (hh y hy).2.2.1
      by_cases ex : x = a <;> by_cases ey : y = a <;> simp only [ex, ey, if_true, if_false] <;> omega
    · have hone := (or_one (by omega) ha hpa).mp (of_decide_eq_true ht)
      have hle := (cnt_le1 ha hpa).mpr hone
      refine ⟨.inl rfl, hm σ h 0 (by omega) Off.rf (fun i hi => by rw [hcanon i hi]; exact (hh i hi).1) (fun x y hx hy => ?_) (by rw [if_pos hle])⟩
      have h1 := (hh x hx).2.2.1
      have h2 := (hh y hy).2.2.1
      have o1 := hone x hx
      have o2 := hone y hy
      simp only [decide_eq_true_eq] at o1 o2
      by_cases ex : x = a
      · by_cases ey : y = a
        · simp [ex, ey]
        · subst ex
          simp only [if_true, if_neg ey]
          exact ⟨fun q => by omega, fun q => absurd (o2 q.symm) ey⟩
      · by_cases ey : y = a
        · subst ey
          simp only [if_true, if_neg ex]
          exact ⟨fun q => by omega, fun q => absurd (o1 q) ex⟩
        · simp only [if_neg ex, if_neg ey]
  · exact q_need_no hN1 h30 hp ⟨nI 1, ⟨rfl, rfl⟩, fI_i (p_isE_no (N := N) hN h30 rfl hp (bq_t rfl (fin.no hI (.inl rfl))))⟩
