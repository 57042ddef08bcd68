/-! .. and all the way -/
theorem fold_rel2 {α : Type} {Rel : Nat → α → gSt → Prop} {P : α → Prop} {step : α → (Nat → Nat) → α} {t : gSt} : ∀ (l : List (Nat → Nat)) (B : Nat) (x : α), Rel (B + l.length) x t → P x → (∀ b ∈ l, ∀ B x, Rel (B + 1) x t → P x → Rel B (step x b) t ∧ P (step x b)) → Rel B (l.foldl step x) t
  | [], _, _, h, _, _ => h
  | b :: l, B, x, h, hp, hs => by
    rw [List.foldl_cons]
    rw [List.length_cons] at h
    have h1 := hs b (by simp) _ x h hp
    exact fold_rel2 l B (step x b) h1.1 h1.2 (fun c hc => hs c (by simp [hc]))
theorem p_walk {α : Type} {Rel : Nat → α → gSt → Prop} {step : α → (Nat → Nat) → α} {dear : α → Nat → Bool} {n most : Nat} {W : Nat → Nat → Int32} {A T : Nat → Nat → Bool} (hOK : mwOK Rel step dear n most W A T) (hn : n ≤ 10) (hm30 : most ≤ 30) (hW : ∀ i j, j < i → i < n → okW (W i j)) : ∀ (m f i h : Nat) (a : Nat → Nat) (B : Nat) (x : α) (t : gSt) (Q : gSt → Prop), i + m = n → m + 1 ≤ f → mwC t n most W A T → mwN t i h a → Rel (B + (lvs m i h a).length) x t → canA 0 i h a → lwB 0 (rmM most) A T a i = true → (∀ t2, FW t t2 → mwN t2 i h a → Rel B ((lvs m i h a).foldl step x) t2 → Q t2) → WR_X12_walk f (nI i) (lN (cSum W 0 a i)) Q t := by
  have skip : ∀ (m i h : Nat) (a : Nat → Nat) (B : Nat) (x : α) (t : gSt), i + m = n → Rel (B + (lvs m i h a).length) x t → dear x (cSum W 0 a i) = true → Rel B ((lvs m i h a).foldl step x) t := fun m i h a B x t hi hx hd => fold_rel2 (P := fun x => dear x (cSum W 0 a i) = true) _ B x hx hd (fun b hb B2 x2 h2 h3 => by
    cases e : lwB 0 (rmM most) A T b n
    · have := hOK.2.2.2.1 B2 x2 t b h2 e
      exact ⟨this.1, by rw [this.2]; exact h3⟩
    · exact hOK.2.2.1 B2 x2 t i a h2 (by omega) h3 b (fun j hj => lvs_keep _ _ _ _ hb j (.inl hj)) e)
  have hbound : ∀ (i : Nat) (a : Nat → Nat), i ≤ n → cSum W 0 a i < 1000000000 := fun i a hi => by
    have := cSum_le (W := W) (s := 0) (a := a) (n := i) (by omega) (fun i2 j h1 h2 => hW i2 j h1 (by omega))
    omega
  intro m
  induction m with
  | zero =>
    intro f i h a B x t Q hi hf hC hN hx hc hl hQ
    obtain ⟨f, rfl⟩ : ∃ g, f = g + 1 := ⟨f - 1, by omega⟩
    obtain rfl : i = n := by omega
    have hle := hc.le (Nat.zero_le _)
    rw [WR_X12_walk]
    unfold S_X12_walk
    refine hOK.1 _ x t _ _ hx (hbound i a (Nat.le_refl _)) ?_
    refine br_z (fun hd => ?_) (fun hd => hQ t Fr.rf hN (skip 0 i h a B x t hi hx hd))
    rw [hC.1]
    refine bq_t rfl (hOK.2.2.2.2 B x t a _ hx hC hl hd (fun j hj => ⟨hN.2.1 j hj, by have := hc.1 j (Nat.zero_le _) hj; omega⟩) (fun t2 f2 hx2 => hQ t2 (f2.mono (by simp) (by simp)) ⟨(f2.2.1 69 (by decide)).1.trans hN.1, ?_, ?_⟩ hx2))
    · rw [(f2.1 106 (by decide) (by decide)).1]; exact hN.2.1
    · rw [(f2.1 107 (by decide) (by decide)).1]; exact hN.2.2
  | succ m ih =>
    intro f i h a B x t Q hi hf hC hN hx hc hl hQ
    obtain ⟨f, rfl⟩ : ∃ g, f = g + 1 := ⟨f - 1, by omega⟩
    have hin : i < n := by omega
    have hle := hc.le (Nat.zero_le _)
    rw [WR_X12_walk]
    unfold S_X12_walk
    refine hOK.1 _ x t _ _ hx (hbound i a (by omega)) ?_
    refine br_z (fun hd => ?_) (fun hd => hQ t Fr.rf hN (skip (m + 1) i h a B x t hi hx hd))
    rw [hC.1]
    refine bq_f (by rw [nI_eq (by omega) (by omega)]; omega) ?_
    have loop : ∀ (c k : Nat) (B : Nat) (x : α) (t : gSt) (K : gSt → Prop), k + c = h + 1 → mwC t n most W A T → mwN t i h a → Rel (B + (lvk (fun k => lvs m (i + 1) (nxh h k) (upN a i k)) c k).length) x t → (∀ t2, FW t t2 → mwN t2 i h a → Rel B ((lvk (fun k => lvs m (i + 1) (nxh h k) (upN a i k)) c k).foldl step x) t2 → K t2) → L_X12_walk_26 (WR_X12_walk f) Q (nI i) (lN (cSum W 0 a i)) K (c + 1) (nI k) t := by
      intro c
      induction c with
      | zero =>
        intro k B x t K hk hC hN hx hK
        obtain rfl : k = h + 1 := by omega
        rw [L_X12_walk_26, hN.1]
        exact bq_t (nI_lt (by omega) (by omega)) (hK t Fr.rf hN hx)
      | succ c ihc =>
        intro k B x t K hk hC hN hx hK
        rw [L_X12_walk_26, hN.1, nI_add]
        refine bq_f (by rw [nI_ltI (by omega) (by omega)]; omega) (p_mayCome hn hm30 hC hin hN hc (k := k) (by omega) ?_)
        rw [lvk, List.foldl_append] at hK
        rw [lvk, List.length_append] at hx
        have hx : Rel ((B + (lvk (fun k => lvs m (i + 1) (nxh h k) (upN a i k)) c (k + 1)).length) + (lvs m (i + 1) (nxh h k) (upN a i k)).length) x t := by rw [Nat.add_assoc, Nat.add_comm (List.length (lvk _ _ _))]; exact hx
        refine br_z (fun hmay => ?_) (fun hmay => ?_)
        · exact ihc (k + 1) B _ t K (by omega) hC hN (fold_rel _ _ x hx (fun b hb B2 x2 h2 => (hOK.2.2.2.1 B2 x2 t b h2 (lvs_no (Nat.zero_le _) hin hb hmay)).1)) hK
        · refine p_adds hn hW hC hin hN hc (k := k) (by omega) (wI_i (by omega) ?_)
          rw [show (sI t 106 i (nI k)).1 65 69 = nI h from hN.1, lN_add]
          have hcost : cSum W 0 a i + cRow W 0 a i k = cSum W 0 (upN a i k) (i + 1) := by
            rw [cSum_succ (Nat.zero_le _), upN_at, cSum_cong (b := a) (fun j _ h2 => upN_ne (by omega)), cRow_cong (b := a) (fun j _ h2 => upN_ne (by omega))]
          rw [hcost]
          have hlw : lwB 0 (rmM most) A T (upN a i k) (i + 1) = true := by
            rw [lwB_iff] at hl ⊢
            intro j h1 h2
            by_cases y : j = i
            · subst y
              rw [upN_at, mayB_cong (b := a) (fun j2 _ h3 => upN_ne (by omega))]
              exact hmay
            · rw [upN_ne y, mayB_cong (b := a) (fun j2 _ h3 => upN_ne (by omega))]
              exact hl j h1 (by omega)
          have hct : ∀ y, fb_ct (fun j => decide (0 ≤ j) && decide (upN a i k j = y)) (i + 1) = fb_ct (fun j => decide (0 ≤ j) && decide (a j = y)) i + (if y = k then 1 else 0) := fun y => by
            rw [fb_ct_succ, upN_at, fb_ct_cong (q := fun j => decide (0 ≤ j) && decide (a j = y)) (fun j hj => by rw [upN_ne (by omega)])]
            by_cases z : y = k
            · subst z; simp
            · rw [if_neg z, decide_eq_false (Ne.symm z)]; simp
          -- behind the setting: the heap's size, how many heaps, the walk, and back
          have body : ∀ (isNew : Bool) (cnt : Nat), (isNew = true ↔ k = h) → cnt = fb_ct (fun j => decide (0 ≤ j) && decide (upN a i k j = k)) (i + 1) → ∀ K2 : gSt → Prop, (∀ s22, fI s22 65 69 ((s22.1 65 69) - zI isNew) (fun s25 => rI s25 107 10 (nI k) (fun x26 => wI s25 107 10 (nI k) (x26 - (nI 1)) (fun s27 => L_X12_walk_26 (WR_X12_walk f) Q (nI i) (lN (cSum W 0 a i)) K (c + 1) (nI (k + 1)) s27))) → K2 s22) → (WR_X12_walk f) (nI i + nI 1) (lN (cSum W 0 (upN a i k) (i + 1))) K2 (sI (sI (sI t 106 i (nI k)) 107 k (nI cnt)) 65 69 ((sI (sI t 106 i (nI k)) 107 k (nI cnt)).1 65 69 + zI isNew)) := by
            intro isNew cnt hnew hcnt K2 hK2
            have e69 : (sI (sI t 106 i (nI k)) 107 k (nI cnt)).1 65 69 = nI h := hN.1
            have enx : nI h + zI isNew = nI (nxh h k) := by
              unfold nxh
              cases isNew
              · rw [if_neg (fun w => by have := hnew.mpr w; cases this)]
                show nI h + nI 0 = nI h
                rw [nI_add]; rfl
              · rw [if_pos (hnew.mp rfl)]
                show nI h + nI 1 = nI (h + 1)
                rw [nI_add]
            rw [e69, enx, nI_add]
            generalize hu : sI (sI (sI t 106 i (nI k)) 107 k (nI cnt)) 65 69 (nI (nxh h k)) = u
            have fu : Fr [106, 107] [69] t u := by rw [← hu]; exact ((Fr.rf.i (by simp) (by decide)).i (by simp) (by decide)).f (by simp)
            have u69 : u.1 65 69 = nI (nxh h k) := by rw [← hu, sI_get, if_pos ⟨rfl, rfl⟩]
            have u106 : ∀ y, u.1 106 y = if y = i then nI k else t.1 106 y := fun y => by
              rw [← hu, sI_get, if_neg (by rintro ⟨q, -⟩; cases q), sI_get, if_neg (by rintro ⟨q, -⟩; cases q), sI_get]
              by_cases q : y = i
              · rw [if_pos ⟨rfl, q⟩, if_pos q]
              · rw [if_neg (fun w => q w.2), if_neg q]
            have u107 : ∀ y, u.1 107 y = if y = k then nI cnt else t.1 107 y := fun y => by
              rw [← hu, sI_get, if_neg (by rintro ⟨q, -⟩; cases q), sI_get]
              by_cases q : y = k
              · rw [if_pos ⟨rfl, q⟩, if_pos q]
              · rw [if_neg (fun w => q w.2), if_neg q, sI_get, if_neg (by rintro ⟨q2, -⟩; cases q2)]
            have fwu : FW t u := fu.mono (by simp) (by simp)
            have hkx : k < nxh h k := by unfold nxh; split <;> omega
            refine ih f (i + 1) (nxh h k) (upN a i k) _ x u _ (by omega) (by omega) (hC.fr fwu) ⟨u69, fun j hj => ?_, fun y hy => ?_⟩ (hOK.2.1 _ x t u hx fu) (hc.up (Nat.zero_le _) (by omega)) hlw (fun t2 f2 hN2 hx2 => hK2 _ (fI_i (rI_i (by omega) (wI_i (by omega) ?_))))
            · rw [u106]
              by_cases q : j = i
              · subst q; rw [if_pos rfl, upN_at]
              · rw [if_neg q, upN_ne q]; exact hN.2.1 j (by omega)
            · rw [u107, hct]
              by_cases q : y = k
              · subst q; rw [if_pos rfl, if_pos rfl, hcnt, hct, if_pos rfl]
              · have hy2 : y < h := by unfold nxh at hy; split at hy <;> omega
                rw [if_neg q, if_neg q]; exact hN.2.2 y hy2
            · have eb : nI (nxh h k) - zI isNew = nI h := by
                rw [← enx]
                show nI h + zI isNew - zI isNew = nI h
                exact Int32.add_sub_cancel _ _
              rw [hN2.1, eb]
              have e107 : (sI t2 65 69 (nI h)).1 107 k = nI (fb_ct (fun j => decide (0 ≤ j) && decide (upN a i k j = k)) (i + 1)) := by
                rw [sI_get, if_neg (by rintro ⟨q, -⟩; cases q)]
                exact hN2.2.2 k hkx
              rw [e107, hct, if_pos rfl, nI_sub (by omega), Nat.add_sub_cancel]
              generalize hv : sI (sI t2 65 69 (nI h)) 107 k (nI (fb_ct (fun j => decide (0 ≤ j) && decide (a j = k)) i)) = v
              have fv : Fr [106, 107] [69] t2 v := by rw [← hv]; exact (Fr.rf.f (by simp)).i (by simp) (by decide)
              have hNv : mwN v i h a := by
                refine ⟨?_, fun j hj => ?_, fun y hy => ?_⟩
                · rw [← hv, sI_get, if_neg (by rintro ⟨q, -⟩; cases q), sI_get, if_pos ⟨rfl, rfl⟩]
                · rw [← hv, sI_get, if_neg (by rintro ⟨q, -⟩; cases q), sI_get, if_neg (by rintro ⟨q, -⟩; cases q), hN2.2.1 j (by omega), upN_ne (by omega)]
                · rw [← hv, sI_get]
                  by_cases q : y = k
                  · subst q; rw [if_pos ⟨rfl, rfl⟩]
                  · rw [if_neg (fun w => q w.2), sI_get, if_neg (by rintro ⟨q2, -⟩; cases q2)]
                    have := hN2.2.2 y (by unfold nxh; split <;> omega)
                    rw [hct, if_neg q] at this
                    exact this
              have fwv : FW t v := (fwu.trans f2).trans (fv.mono (by simp) (by simp))
              exact ihc (k + 1) B _ v K (by omega) (hC.fr fwv) hNv (hOK.2.1 _ _ t2 v hx2 fv) (fun t3 f3 hN3 hx3 => hK t3 (fwv.trans f3) hN3 hx3)
          intro J15 hJ15
          refine br_eq (by omega) (by omega) (fun z => hJ15 _ ?_) (fun z => hJ15 _ ?_)
          · intro J17 hJ17
            refine bq_f (by decide) (hJ17 _ (wI_i (by omega) ?_))
            intro J20 hJ20
            refine bq_f (by decide) (hJ20 _ (fI_i ?_))
            refine body true 1 (by simp [z]) ?_ _ (fun s22 hs22 => ?_)
            · rw [hct, if_pos rfl, fb_ct_zero.mpr (fun j hj => by
                have := hc.1 j (Nat.zero_le _) hj
                rw [decide_eq_false (show ¬ a j = k by omega), Bool.and_false])]
            · intro J24 hJ24
              exact bq_f (by decide) (hJ24 _ hs22)
          · intro J17 hJ17
            refine bq_t rfl (rI_i (by omega) ?_)
            have e107 : (sI t 106 i (nI k)).1 107 k = nI (fb_ct (fun j => decide (0 ≤ j) && decide (a j = k)) i) := by
              rw [sI_get, if_neg (by rintro ⟨q, -⟩; cases q)]
              exact hN.2.2 k (by omega)
            rw [e107, nI_add]
            refine hJ17 _ (wI_i (by omega) ?_)
            intro J20 hJ20
            refine bq_t rfl (hJ20 _ (fI_i ?_))
            refine body false _ (by simp [z]) ?_ _ (fun s22 hs22 => ?_)
            · rw [hct, if_pos rfl]
            · intro J24 hJ24
              exact bq_t rfl (hJ24 _ hs22)
    exact ⟨h + 2, loop (h + 1) 0 B x t _ (by omega) hC hN (by rw [lvs] at hx; exact hx) (fun t2 f2 hN2 hx2 => hQ t2 f2 hN2 (by rw [lvs]; exact hx2))⟩
