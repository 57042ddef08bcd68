/-! all best ones: the class lists them -/
abbrev BLs := Nat × Int64 × Int64 × (Nat → Nat) × (Nat → Int64)
def ls0 : BLs := (0, -1, lN 0, fun _ => 0, fun _ => lN 0)
def upL (n : Nat) (x : BLs) (a : Nat → Nat) : BLs := (x.1 + 1, x.2.1 &&& pmL 0 a n, x.2.2.1 ||| pmL 0 a n, if x.1 = 0 then a else x.2.2.2.1, fun k => if k = x.1 then pmL 0 a n else x.2.2.2.2 k)
def stL (n rm : Nat) (W : Nat → Nat → Int32) (A T : Nat → Nat → Bool) (c : Nat) (x : BLs) (a : Nat → Nat) : BLs := if lwB 0 rm A T a n = true ∧ cSum W 0 a n = c then upL n x a else x
def lsA (n rm : Nat) (W : Nat → Nat → Int32) (A T : Nat → Nat → Bool) (c : Nat) : BLs := (lvs n 0 0 (fun _ => 0)).foldl (stL n rm W A T c) ls0
def lcnt : Nat → Nat → Nat
  | 0, _ => 1
  | m + 1, h => h * lcnt m h + lcnt m (h + 1)
theorem lvk_len {f : Nat → List (Nat → Nat)} {v : Nat} : ∀ (c k : Nat), (∀ j, k ≤ j → j < k + c → (f j).length = v) → (lvk f c k).length = c * v
  | 0, _, _ => by simp [lvk]
  | c + 1, k, h => by
    rw [lvk, List.length_append, h k (Nat.le_refl _) (by omega), lvk_len c (k + 1) (fun j h1 h2 => h j (by omega) (by omega)), Nat.succ_mul, Nat.add_comm]
theorem lvs_len : ∀ (m i h : Nat) (a : Nat → Nat), (lvs m i h a).length = lcnt m h
  | 0, _, _, _ => rfl
  | m + 1, i, h, a => by
    rw [lvs, lvk_app, List.length_append, lvk_len (v := lcnt m h) h 0 (fun j _ h2 => by rw [lvs_len m]; unfold nxh; rw [if_neg (by omega)]), Nat.zero_add, lvs_len m, lcnt]
    unfold nxh
    rw [if_pos rfl]
theorem lcnt_10 : ∀ n, n < 11 → lcnt n 0 ≤ 200000 := by decide +kernel
theorem lvs_cap {n : Nat} (hn : n ≤ 10) : (lvs n 0 0 (fun _ => 0)).length ≤ 200000 := by
  rw [lvs_len]
  exact lcnt_10 n (by omega)
def RelL (n c : Nat) (B : Nat) (x : BLs) (t : gSt) : Prop := t.1 56 12 = nI c ∧ t.1 56 2 = BIGN ∧ t.1 56 0 = nI c ∧ t.1 56 1 = nI x.1 ∧ t.2.1 56 14 = x.2.1 ∧ t.2.1 56 15 = x.2.2.1 ∧ (0 < x.1 → ∀ j, j < n → t.1 61 j = nI (lp 0 x.2.2.2.1 (x.2.2.2.1 j))) ∧ (∀ k, k < 200 → k < x.1 → t.2.1 62 k = x.2.2.2.2 k) ∧ x.1 + B ≤ 200000
theorem okL {n rm c : Nat} {W : Nat → Nat → Int32} {A T H : Nat → Nat → Bool} (hn : n ≤ 10) (hn1 : 1 ≤ n) (hW : ∀ i j, j < i → i < n → okW (W i j)) (hc : mnS n rm W A T 0 = some c) : dfOK (RelL n c) (stL n rm W A T c) 0 n rm 1 W A T H (rS n rm W A T) := by
  have hb : ∀ (a : Nat → Nat) (i : Nat), i ≤ n → cSum W 0 a i ≤ 90000000 := fun a i hi => cSum_le (by omega) (fun i2 j h1 h2 => hW i2 j h1 (by omega))
  have hms := mnS_some (Nat.zero_le _) hc
  have hc9 : c ≤ 90000000 := by obtain ⟨b, _, h⟩ := hms.2; rw [← h]; exact hb b n (Nat.le_refl _)
  refine ⟨?_, ?_, ?_, ?_⟩
  · rintro B x t t2 ⟨h1, h2, h3, h4, h5, h6, h7, h8, h9⟩ hO hk hl
    refine ⟨(hk 12 (by decide)).trans h1, (hk 2 (by decide)).trans h2, (hk 0 (by decide)).trans h3, (hk 1 (by decide)).trans h4, by rw [hl]; exact h5, by rw [hl]; exact h6, ?_, ?_, h9⟩
    · rw [(hO.1 61 (by decide)).1]; exact h7
    · rw [(hO.1 62 (by decide)).2]; exact h8
  · rintro B x t i a ⟨h1, h2, h3, h4, h5, h6, h7, h8, h9⟩ hsi hin hcond b hb1 hlw
    have hsame : stL n rm W A T c x b = x := by
      have e1 : cSum W 0 b i = cSum W 0 a i := cSum_cong (fun j j1 j2 => hb1 j j1 j2)
      have e2 := cSum_end (W := W) (s := 0) (i := i) (n := n) (a := b) (by omega) hin
      have e3 := rS_le (W := W) hin (lwB_end (show 0 ≤ i by omega) hlw)
      have e4 := rS_big (rm := rm) (A := A) (T := T) hin hn hW
      have e5 := hb a i hin
      rcases hcond with hq | hq
      · rw [h1, nI_add, nI_ltI (by omega) (by omega)] at hq
        exact if_neg (fun w => by omega)
      · exfalso
        rw [h2, BIGN_nI] at hq
        have : odN 1 H 0 a i = 0 := rfl
        rw [this, nI_leI (by omega) (by omega)] at hq
        omega
    rw [hsame]
    exact ⟨h1, h2, h3, h4, h5, h6, h7, h8, by omega⟩
  · rintro B x t b ⟨h1, h2, h3, h4, h5, h6, h7, h8, h9⟩ hlw
    rw [show stL n rm W A T c x b = x from if_neg (fun w => by rw [hlw] at w; exact absurd w.1 (by decide))]
    exact ⟨h1, h2, h3, h4, h5, h6, h7, h8, by omega⟩
  · rintro B x t a Q ⟨h1, h2, h3, h4, h5, h6, h7, h8, h9⟩ hC hlw hp1 hp2 h60 hQ
    have e0 : rS n rm W A T n = 0 := by unfold rS; rw [mnS_end]; rfl
    have e5 := hb a n (Nat.le_refl _)
    have ec : cSum W 0 a n = c := by
      rw [h1, e0, nI_add, nI_ltI (by omega) (by omega)] at hp1
      have := hms.1 a hlw
      omega
    have est : stL n rm W A T c x a = upL n x a := if_pos ⟨hlw, ec⟩
    unfold W_X10_record
    rw [hC.2.2.2.2.2.2.2.1]
    refine bq_f (by decide) ?_
    intro J4 hJ4
    -- behind the choosing
    have rest : ∀ s3 : gSt, Off [61] t s3 → (∀ j, j < n → s3.1 61 j = nI (lp 0 (upL n x a).2.2.2.1 ((upL n x a).2.2.2.1 j))) → J4 s3 := by
      intro s3 hO3 h61
      refine hJ4 s3 (bq_f (by rw [(hO3.1 56 (by decide)).1, hC.2.2.2.2.2.2.2.1]; decide) (fL_i (fL_i ?_)))
      intro J8 hJ8
      have hO3 := hO3
      generalize hu : sL (sL s3 56 14 (s3.2.1 56 14 &&& pmL 0 a n)) 56 15 ((sL s3 56 14 (s3.2.1 56 14 &&& pmL 0 a n)).2.1 56 15 ||| pmL 0 a n) = u
      have fu : Off [56] s3 u := by rw [← hu]; exact (Off.rf.l (by simp)).l (by simp)
      have u56 : u.1 56 = t.1 56 := by rw [← hu]; exact (hO3.1 56 (by decide)).1
      have s56l : s3.2.1 56 = t.2.1 56 := (hO3.1 56 (by decide)).2
      have u14 : u.2.1 56 14 = x.2.1 &&& pmL 0 a n := by
        rw [← hu, sL_get, if_neg (by omega), sL_get, if_pos ⟨rfl, rfl⟩, s56l, h5]
      have u15 : u.2.1 56 15 = x.2.2.1 ||| pmL 0 a n := by
        rw [← hu, sL_get, if_pos ⟨rfl, rfl⟩, sL_get, if_neg (by omega), s56l, h6]
      have last : ∀ v : gSt, Off [62] u v → (∀ k, k < 200 → k < x.1 + 1 → v.2.1 62 k = (upL n x a).2.2.2.2 k) → J8 v := by
        intro v hOv h62
        refine hJ8 v (fI_i ?_)
        have v56 : v.1 56 = t.1 56 := (hOv.1 56 (by decide)).1.trans u56
        have v56l : v.2.1 56 = u.2.1 56 := (hOv.1 56 (by decide)).2
        have fw : Off [56] v (sI v 56 1 (v.1 56 1 + nI 1)) := Off.rf.i (by simp)
        have w56 : ∀ j, j ≠ 1 → (sI v 56 1 (v.1 56 1 + nI 1)).1 56 j = t.1 56 j := fun j hj => by
          rw [sI_get, if_neg (fun w => hj w.2), v56]
        refine hQ _ (((hO3.mono (by simp)).trans (fu.mono (by simp))).trans ((hOv.mono (by simp)).trans (fw.mono (by simp)))) (fun j hj => w56 j (by simp only [List.mem_cons, List.not_mem_nil, or_false] at hj; omega)) ?_
        rw [est]
        refine ⟨(w56 12 (by decide)).trans h1, (w56 2 (by decide)).trans h2, (w56 0 (by decide)).trans h3, ?_, ?_, ?_, fun _ j hj => ?_, fun k h1 h2 => ?_, ?_⟩
        · rw [sI_get, if_pos ⟨rfl, rfl⟩, v56, h4, nI_add]; rfl
        · rw [sI_get2, v56l]; exact u14
        · rw [sI_get2, v56l]; exact u15
        · rw [(fw.1 61 (by decide)).1, (hOv.1 61 (by decide)).1, (fu.1 61 (by decide)).1]; exact h61 j hj
        · rw [(fw.1 62 (by decide)).2]; exact h62 k h1 h2
        · show x.1 + 1 + B ≤ 200000; omega
      rw [u56, h4]
      refine br_le (by decide) (by omega) (fun hle => last u Off.rf (fun k h1 h2 => ?_)) (fun hlt => wL_e rfl hlt (last _ (Off.rf.l (by simp)) (fun k h1 h2 => ?_)))
      · rw [(fu.1 62 (by decide)).2, (hO3.1 62 (by decide)).2, h8 k h1 (by omega)]
        exact (if_neg (show ¬ k = x.1 by omega)).symm
      · rw [sL_get]
        by_cases q : k = x.1
        · rw [if_pos ⟨rfl, q⟩]; exact (if_pos q).symm
        · rw [if_neg (fun w => q w.2), (fu.1 62 (by decide)).2, (hO3.1 62 (by decide)).2, h8 k h1 (by omega)]
          exact (if_neg q).symm
    intro J13 hJ13
    refine bq_f (by decide) ?_
    rw [h4]
    refine br_eq (by omega) (by decide) (fun z => ?_) (fun z => rest t Off.rf (fun j hj => ?_))
    · refine hJ13 ⟨0, 0, 10, rfl, rfl, rfl, by decide, by decide, ?_⟩
      rintro s rfl
      refine rest _ ⟨fun k hk => ⟨?_, rfl⟩, rfl⟩ (fun j hj => ?_)
      · simp only [sC]
        rw [if_neg (fun w => hk (by rw [w]; simp))]
      · rw [sC_get, if_pos rfl, va_cpy]
        have e1 : (upL n x a).2.2.2.1 = a := if_pos z
        rw [e1, ← h60 j (Nat.zero_le _) hj]
        simp
        omega
    · have e1 : (upL n x a).2.2.2.1 = x.2.2.2.1 := if_neg z
      rw [e1]
      exact h7 (Nat.pos_of_ne_zero z) j hj
theorem p_list {σ : gSt} {n rm c : Nat} {W : Nat → Nat → Int32} {A T : Nat → Nat → Bool} (hL : ldC σ n rm W A T) (hn1 : 1 ≤ n) (hn : n ≤ 10) (hrm : rm < 1000) (hW : ∀ i j, j < i → i < n → okW (W i j)) (hc : mnS n rm W A T 0 = some c) (h10 : σ.1 56 10 = nI 0) (h0 : σ.1 56 0 = nI c) (h11 : σ.1 56 11 = nI 0) (h2 : σ.1 56 2 = BIGN) (h57 : ∀ i, 0 < i → i ≤ n → σ.1 57 i = nI (rS n rm W A T i)) {Q : gSt → Prop}
    (q : ∀ t, Off [56, 58, 59, 60, 61, 62] σ t → t.1 56 10 = nI 0 → RelL n c 0 (lsA n rm W A T c) t → Q t) : W_X10_list Q σ := by
  unfold W_X10_list
  refine fI_i (fI_i (fI_i (fL_i (fL_i ?_))))
  generalize hu : sL (sL (sI (sI (sI σ 56 13 (nI 1)) 56 12 ((sI σ 56 13 (nI 1)).1 56 0)) 56 1 (nI 0)) 56 14 (-1)) 56 15 (lN 0) = u
  have fu : Off [56] σ u := by rw [← hu]; exact ((((Off.rf.i (by simp)).i (by simp)).i (by simp)).l (by simp)).l (by simp)
  have u56 : ∀ j, u.1 56 j = if j = 1 then nI 0 else if j = 12 then nI c else if j = 13 then nI 1 else σ.1 56 j := fun j => by
    rw [← hu, sL_get1, sL_get1, sI_get]
    by_cases q : j = 1
    · rw [if_pos ⟨rfl, q⟩, if_pos q]
    · rw [if_neg (fun w => q w.2), if_neg q, sI_get]
      by_cases q2 : j = 12
      · rw [if_pos ⟨rfl, q2⟩, if_pos q2, sI_get, if_neg (by omega), h0]
      · rw [if_neg (fun w => q2 w.2), if_neg q2, sI_get]
        by_cases q3 : j = 13
        · rw [if_pos ⟨rfl, q3⟩, if_pos q3]
        · rw [if_neg (fun w => q3 w.2), if_neg q3]
  have hLu := hL.fr fu (by decide)
  have hC : dfC u 0 n rm 1 W A T (fun _ _ => false) (rS n rm W A T) := ⟨hLu.1, hLu.2.1, hLu.2.2.1, hLu.2.2.2.1, hLu.2.2.2.2, fun q => (by cases q), by rw [u56]; exact h11, by rw [u56]; rfl, fun i h1 h2 => by rw [(fu.1 57 (by decide)).1]; exact h57 i h1 h2⟩
  have hN : dfN u 0 0 0 (fun _ => 0) := ⟨by rw [u56]; exact h10, fun k hk => by omega, fun k hk => by omega, fun j h1 h2 => by omega⟩
  have hp := df_place (okL (H := fun _ _ => false) hn hn1 hW hc) hn (by omega) hrm (by decide) hW n 24 0 0 (fun _ => 0) 0 ls0 u (fun s6 => Q s6) (by omega) (by omega) (Nat.le_refl _) hC hN ⟨by rw [u56]; rfl, by rw [u56]; exact h2, by rw [u56]; exact h0, by rw [u56]; rfl, by rw [← hu, sL_get, if_neg (by omega), sL_get, if_pos ⟨rfl, rfl⟩]; rfl, by rw [← hu, sL_get, if_pos ⟨rfl, rfl⟩]; rfl, fun q => absurd q (Nat.lt_irrefl _), fun k _ q => absurd q (Nat.not_lt_zero _), by rw [Nat.zero_add]; show 0 + _ ≤ _; rw [Nat.zero_add]; exact lvs_cap hn⟩ (canA_0 0 _) lwB_0 (fun q => absurd q (Nat.lt_irrefl _)) (fun t3 f3 hN3 hx3 => q t3 ((fu.mono (by simp)).trans f3.1) hN3.1 hx3)
  rw [cSum_0, odN_0, pmL_0] at hp
  exact hp
