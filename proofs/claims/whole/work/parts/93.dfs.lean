/-! the class's search goes through all of them -/
theorem df_place {α : Type} {Rel : Nat → α → gSt → Prop} {step : α → (Nat → Nat) → α} {s n rm z : Nat} {W : Nat → Nat → Int32} {A T H : Nat → Nat → Bool} {r : Nat → Nat} (hOK : dfOK Rel step s n rm z W A T H r) (hn : n ≤ 10) (hsn : s < n) (hrm : rm < 1000) (hz : z < 1000) (hW : ∀ i j, j < i → i < n → okW (W i j)) : ∀ (m f i h : Nat) (a : Nat → Nat) (B : Nat) (x : α) (t : gSt) (Q : gSt → Prop), i + m = n → 2 * m + 1 ≤ f → s ≤ i → dfC t s n rm z W A T H r → dfN t s i h a → Rel (B + (lvs m i h a).length) x t → canA s i h a → lwB s rm A T a i = true → (s < i → ¬ t.1 56 12 < nI (cSum W s a i) + nI (r i) ∧ ¬ t.1 56 2 ≤ nI (odN z H s a i)) → (∀ t2, FD t t2 → dfN t2 s i h a → Rel B ((lvs m i h a).foldl step x) t2 → Q t2) → (WR_X10_enter f).2 (nI i) (nI (cSum W s a i)) (nI (odN z H s a i)) (pmL s a i) Q t := by
  intro m
  induction m with
  | zero =>
    intro f i h a B x t Q hi hf hs hC hN hx hc hl hp hQ
    obtain ⟨f, rfl⟩ : ∃ g, f = g + 1 := ⟨f - 1, by omega⟩
    obtain rfl : i = n := by omega
    rw [WR_X10_enter]
    change S_X10_place (WR_X10_enter f).1 (WR_X10_enter f).2 _ _ _ _ _ _
    unfold S_X10_place
    intro J1 hJ1
    rw [hC.1]
    refine bq_t (nI_le (Nat.le_refl _) (by omega)) (hJ1 ?_)
    obtain ⟨p1, p2⟩ := hp hsn
    refine hOK.2.2.2 B x t a _ hx hC hl p1 p2 hN.2.2.2 (fun t2 hO hk hx2 => hQ t2 ⟨hO.mono (by simp), hk 11 (by simp), hk 13 (by simp)⟩ ⟨(hk 10 (by simp)).trans hN.1, ?_, ?_, ?_⟩ hx2)
    · rw [(hO.1 58 (by decide)).1]; exact hN.2.1
    · rw [(hO.1 59 (by decide)).1]; exact hN.2.2.1
    · rw [(hO.1 60 (by decide)).1]; exact hN.2.2.2
  | succ m ih =>
    intro f i h a B x t Q hi hf hs hC hN hx hc hl hp hQ
    obtain ⟨f, rfl⟩ : ∃ g, f = g + 2 := ⟨f - 2, by omega⟩
    have hin : i < n := by omega
    have hle := hc.le hs
    rw [WR_X10_enter]
    change S_X10_place (WR_X10_enter (f + 1)).1 (WR_X10_enter (f + 1)).2 _ _ _ _ _ _
    unfold S_X10_place
    intro J1 hJ1
    rw [hC.1]
    refine bq_f (nI_ge hin (by omega)) (bq_t (nI_lt (by omega) (by omega)) (p_drawn hn hW hC hin hs ?_))
    rw [nI_add, hN.1]
    -- one heap
    have ent : ∀ (k : Nat), k ≤ h → ∀ (B : Nat) (x : α) (t : gSt) (Q : gSt → Prop), dfC t s n rm z W A T H r → dfE t s i h k a → Rel (B + (lvs m (i + 1) (nxh h k) (upN a i k)).length) x t → (∀ t2, FD t t2 → dfE t2 s i h k a → Rel B ((lvs m (i + 1) (nxh h k) (upN a i k)).foldl step x) t2 → Q t2) → (WR_X10_enter (f + 1)).1 (nI i) (nI k) (nI (cSum W s a i + fb_sm (fun j => if s ≤ j then cwN (W i j) false else 0) i)) (nI (odN z H s a i)) (pmL s a i) Q t := by
      intro k hk B x t Q hC hE hx hQ
      rw [WR_X10_enter]
      change S_X10_enter (WR_X10_enter f).1 (WR_X10_enter f).2 _ _ _ _ _ _ _
      exact df_enter hOK hn hrm hz hW hin hs hc hl hk (fun B2 x2 t2 Q2 hC2 hN2 hx2 hl2 hp2 hQ2 => ih f (i + 1) (nxh h k) (upN a i k) B2 x2 t2 Q2 (by omega) (by omega) (by omega) hC2 hN2 hx2 (hc.up hs hk) hl2 (fun _ => hp2) hQ2) hC hE hx hQ
    have loop : ∀ (c k : Nat) (B : Nat) (x : α) (t : gSt) (K : gSt → Prop), k + c = h → dfC t s n rm z W A T H r → dfN t s i h a → Rel (B + (lvk (fun k => lvs m (i + 1) (nxh h k) (upN a i k)) c k).length) x t → (∀ t2, FD t t2 → dfN t2 s i h a → Rel B ((lvk (fun k => lvs m (i + 1) (nxh h k) (upN a i k)) c k).foldl step x) t2 → K t2) → L_X10_place_44 (WR_X10_enter (f + 1)).1 (WR_X10_enter (f + 1)).2 Q (nI i) (nI (odN z H s a i)) (pmL s a i) (nI (cSum W s a i + fb_sm (fun j => if s ≤ j then cwN (W i j) false else 0) i)) (nI h) K (c + 1) (nI k) t := by
      intro c
      induction c with
      | zero =>
        intro k B x t K hk hC hN hx hK
        obtain rfl : k = h := by omega
        rw [L_X10_place_44]
        exact bq_t (nI_le (Nat.le_refl _) (by omega)) (hK t FD.rf hN hx)
      | succ c ihc =>
        intro k B x t K hk hC hN hx hK
        rw [L_X10_place_44]
        rw [lvk, List.length_append] at hx
        refine bq_f (nI_ge (by omega) (by omega)) (ent k (by omega) (B + (lvk (fun k => lvs m (i + 1) (nxh h k) (upN a i k)) c (k + 1)).length) x t _ hC ((dfE_N (by omega) hc (by omega)).mpr hN) (by rw [Nat.add_assoc, Nat.add_comm (List.length (lvk _ _ _))]; exact hx) (fun t2 f2 hE2 hx2 => ?_))
        rw [nI_add]
        refine ihc (k + 1) B _ t2 K (by omega) (hC.fr f2) ((dfE_N (by omega) hc (by omega)).mp hE2) hx2 (fun t3 f3 hN3 hx3 => hK t3 (f2.trans f3) hN3 ?_)
        rw [lvk, List.foldl_append]
        exact hx3
    rw [lvs, lvk_app, List.length_append, Nat.zero_add] at hx
    refine ⟨h + 1, loop h 0 (B + (lvs m (i + 1) (nxh h h) (upN a i h)).length) x t _ (by omega) hC hN (by rw [Nat.add_assoc, Nat.add_comm (List.length (lvs _ _ _ _))]; exact hx) (fun t2 f2 hN2 hx2 => ?_)⟩
    refine wI_i (by omega) (wI_i (by omega) (fI_i ?_))
    rw [nI_add]
    generalize hu : sI (sI (sI t2 58 h (nI 0)) 59 h (nI i)) 56 10 (nI (h + 1)) = u
    have fu : Off [56, 58, 59] t2 u := by rw [← hu]; exact ((Off.rf.i (by simp)).i (by simp)).i (by simp)
    have u56 : ∀ j, u.1 56 j = if j = 10 then nI (h + 1) else t2.1 56 j := fun j => by
      rw [← hu, sI_get]
      by_cases q : j = 10
      · rw [if_pos ⟨rfl, q⟩, if_pos q]
      · rw [if_neg (fun w2 => q w2.2), if_neg q, sI_get, if_neg (by rintro ⟨q2, -⟩; cases q2), sI_get, if_neg (by rintro ⟨q2, -⟩; cases q2)]
    have u56l : u.2.1 56 = t2.2.1 56 := by rw [← hu]; rfl
    have u58 : ∀ y, u.1 58 y = if y = h then nI 0 else t2.1 58 y := fun y => by
      rw [← hu, sI_get, if_neg (by rintro ⟨q2, -⟩; cases q2), sI_get, if_neg (by rintro ⟨q2, -⟩; cases q2), sI_get]
      by_cases q : y = h
      · rw [if_pos ⟨rfl, q⟩, if_pos q]
      · rw [if_neg (fun w2 => q w2.2), if_neg q]
    have u59 : ∀ y, u.1 59 y = if y = h then nI i else t2.1 59 y := fun y => by
      rw [← hu, sI_get, if_neg (by rintro ⟨q2, -⟩; cases q2), sI_get]
      by_cases q : y = h
      · rw [if_pos ⟨rfl, q⟩, if_pos q]
      · rw [if_neg (fun w2 => q w2.2), if_neg q, sI_get, if_neg (by rintro ⟨q2, -⟩; cases q2)]
    have fdu : FD t2 u := ⟨fu.mono (by simp), by rw [u56, if_neg (by decide)], by rw [u56, if_neg (by decide)]⟩
    have hlt : ∀ j, s ≤ j → j < i → a j < h := hc.1
    refine ent h (Nat.le_refl _) B _ u _ (hC.fr (f2.trans fdu)) ⟨?_, fun y hy j hj => ?_, fun y hy => ?_, fun j h1 h2 => ?_⟩ (hOK.1 _ _ t2 u hx2 (fu.mono (by simp)) (fun j hj => by rw [u56, if_neg hj]) u56l) (fun t3 f3 hE3 hx3 => fI_i ?_)
    · rw [u56, if_pos rfl]; unfold nxh; rw [if_pos rfl]
    · rw [u58]
      by_cases q : y = h
      · subst q
        rw [if_pos rfl, nI_0, b_0]
        by_cases y1 : s ≤ j ∧ j < i
        · rw [decide_eq_false (show ¬ a j = y by have := hlt j y1.1 y1.2; omega), Bool.and_false]
        · have : (decide (s ≤ j) && decide (j < i)) = false := by
            rw [← Bool.not_eq_true, Bool.and_eq_true, decide_eq_true_iff, decide_eq_true_iff]
            exact y1
          rw [this, Bool.false_and]
      · rw [if_neg q]
        exact hN2.2.1 y (by unfold nxh at hy; rw [if_pos rfl] at hy; omega) j hj
    · rw [u59]
      by_cases q : y = h
      · subst q
        rw [if_pos rfl]
        exact congrArg nI (lp_is hs (by omega) upN_at (fun j h1 h2 => by rw [upN_ne (by omega)]; have := hlt j h1 h2; omega)).symm
      · have hy2 : y < h := by unfold nxh at hy; rw [if_pos rfl] at hy; omega
        rw [if_neg q, hN2.2.2.1 y hy2, lp_up (by omega) (hc.2 y hy2)]
    · rw [(fu.1 60 (by decide)).1]
      exact hN2.2.2.2 j h1 h2
    · have fv : Off [56] t3 (sI t3 56 10 (nI h)) := Off.rf.i (by simp)
      have v56 : ∀ j, j ≠ 10 → (sI t3 56 10 (nI h)).1 56 j = t3.1 56 j := fun j hj => by rw [sI_get, if_neg (fun w => hj w.2)]
      have fdv : FD t (sI t3 56 10 (nI h)) := ((f2.trans fdu).trans f3).trans ⟨fv.mono (by simp), v56 11 (by decide), v56 13 (by decide)⟩
      refine hQ _ fdv ⟨by rw [sI_get, if_pos ⟨rfl, rfl⟩], fun y hy j hj => ?_, fun y hy => ?_, fun j h1 h2 => ?_⟩ ?_
      · rw [(fv.1 58 (by decide)).1]
        exact hE3.2.1 y (by unfold nxh; rw [if_pos rfl]; omega) j hj
      · rw [(fv.1 59 (by decide)).1, hE3.2.2.1 y (by unfold nxh; rw [if_pos rfl]; omega), lp_up (by omega) (hc.2 y hy)]
      · rw [(fv.1 60 (by decide)).1]
        exact hE3.2.2.2 j h1 h2
      · rw [lvs, lvk_app, List.foldl_append, Nat.zero_add]
        exact hOK.1 _ _ t3 _ hx3 (fv.mono (by simp)) v56 rfl
