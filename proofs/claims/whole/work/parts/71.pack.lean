/-! the class's packing -/
theorem pwC.offK {s t : gSt} {N : Nat} {bk yr : Nat → Nat} {wt : Nat → Nat → Int32} {nv ti ap : Nat → Nat → Bool} {ks js : List Nat} (h : pwC s N bk yr wt nv ti ap) (f : Fr ks js s t) (hk : ∀ k ∈ [24, 26, 30, 31, 32], k ∉ ks) : pwC t N bk yr wt nv ti ap := by
  unfold pwC prtC at h ⊢
  rw [(f.1 24 (by decide) (hk _ (by simp))).1, (f.1 26 (by decide) (hk _ (by simp))).1, (f.1 30 (by decide) (hk _ (by simp))).1, (f.1 31 (by decide) (hk _ (by simp))).1, (f.1 32 (by decide) (hk _ (by simp))).1]
  exact h
def pkC (σ t : gSt) (N : Nat) (wt : Nat → Nat → Int32) (nv : Nat → Nat → Bool) (pk : PK) : Prop := Fr [42, 44, 45] [] σ t ∧ (∀ i j, i < j → j < N → rst wt nv i j - t.1 44 (i * 30 + j) = pk.1 i j) ∧ t.2.1 42 2 = pk.2.2.2.1 ∧ (∀ i, i < 4 → t.1 45 i = pk.2.2.2.2 i) ∧ t.1 42 = σ.1 42 ∧ t.2.1 42 1 = σ.2.1 42 1
theorem p_pack_1 {b0 : Bool} {σ : gSt} (hR : σ.2.2 = gRf b0) {N : Nat} {bk yr : Nat → Nat} {wt : Nat → Nat → Int32} {nv ti ap : Nat → Nat → Bool} (hC : pwC σ N bk yr wt nv ti ap) (h30 : N ≤ 30) {q : Int32} {a b c : Nat} (hab : a < b) (hbc : b < c) (hc : c < N) {Q : gSt → Prop} {K : Int32 → gSt → Prop} {n : Nat} {pk : PK} {t : gSt} (hk : pkC σ t N wt nv pk) (hn : pkNn pk N) (next : ∀ t2, pkC σ t2 N wt nv (pkStep (ringP wt nv) q a b c pk) → L_X8_pack_61 Q q (nI N) (nI a) (nI b) K n (nI (pkStep (ringP wt nv) q a b c pk).2.2.1) (nI (c + 1)) t2) : L_X8_pack_61 Q q (nI N) (nI a) (nI b) K (n + 1) (nI pk.2.2.1) (nI c) t := by
  have hk0 := hk
  obtain ⟨f, h44, hsum, hhit, h42, h421⟩ := hk
  have hRt : t.2.2 = gRf b0 := f.2.2.trans hR
  have hCt := hC.offK f (by decide)
  rw [L_X8_pack_61]
  refine bq_f (nI_ge (by omega) (by omega)) ⟨_, fun o l => s_isRing hRt a b c (by omega) (by omega) (by omega), ?_⟩
  rw [ring_C hCt (by omega) (by omega) hc (by omega) (by omega) (by omega)]
  intro J hJ
  have skip : (pkStep (ringP wt nv) q a b c pk).1 = pk.1 → (pkStep (ringP wt nv) q a b c pk).2.2 = pk.2.2 → L_X8_pack_61 Q q (nI N) (nI a) (nI b) K n (nI pk.2.2.1) (nI c + nI 1) t := fun e1 e2 => by
    have := next t ⟨f, by rw [e1]; exact h44, by rw [e2]; exact hsum, by rw [e2]; exact hhit, h42, h421⟩
    rw [e2] at this
    rw [nI_add]; exact this
  refine br_z (fun hr => hJ _ (bq_t (by decide) (skip (by unfold pkStep; rw [hr]; rfl) (by unfold pkStep; rw [hr]; rfl)))) (fun hr => ⟨_, fun o l => s_leastRest hRt 44 (by decide) rfl a b c (by omega) (by omega) (by omega), hJ _ ?_⟩)
  rw [rest_C hCt (by omega) (by omega) (by omega), rest_C hCt (by omega) hc (by omega), rest_C hCt (by omega) hc (by omega), h44 a b hab (by omega), h44 a c (by omega) hc, h44 b c hbc hc]
  have hnn := M3_nn hn hab hbc hc
  refine ⟨fun hle => ?_, fun hgt => ?_⟩
  · have hz : M3 pk.1 a b c = 0 := by
      have hle : M3 pk.1 a b c ≤ 0 := hle
      rw [fa_le] at hle hnn
      rw [fa_eq]; omega
    exact skip (by unfold pkStep; rw [if_pos hr, if_pos hz]) (by unfold pkStep; rw [if_pos hr, if_pos hz])
  · have hnz : ¬ M3 pk.1 a b c = 0 := fun h => hgt (by
      have : M3 pk.1 a b c ≤ 0 := by rw [h]; decide
      exact this)
    have e2 : pkStep (ringP wt nv) q a b c pk = pkTake q a b c pk := by unfold pkStep; rw [if_pos hr, if_neg hnz]
    rw [e2] at next
    refine ⟨_, fun o l => s_takeFromAll 44 (by decide) rfl a b c (by omega) (by omega) (by omega) (by omega) (by omega) (by omega) _, fun r s hp => ?_⟩
    obtain ⟨rfl, hO, k44⟩ := hp
    refine ⟨rfl, hO.2, fL_i ?_⟩
    have f1 : Fr [42, 44, 45] [] σ s := f.trans ((Fr.of (js := []) hO (by decide)).mono (by simp) (by simp))
    have u44 : ∀ i j, i < j → j < N → rst wt nv i j - s.1 44 (i * 30 + j) = (pkTake q a b c pk).1 i j := fun i j h1 h2 => by
      show _ = (if (i = a ∧ j = b) ∨ (i = a ∧ j = c) ∨ (i = b ∧ j = c) then pk.1 i j - M3 pk.1 a b c else pk.1 i j)
      have s6 := six_iff (x := a) (y := b) (z := c) (i := i) (j := j) ⟨by simp, by simp, by simp, by omega, by omega, by omega⟩ hab hbc (by omega) h1 (by omega)
      rw [k44]
      by_cases hs : six a b c (i * 30 + j)
      · rw [if_pos (s6.mp hs)]
        have hs' := hs
        unfold six at hs'
        rw [if_pos hs', sub_ad, h44 i j h1 h2]; rfl
      · rw [if_neg (fun e => hs (s6.mpr e))]
        have hs' := hs
        unfold six at hs'
        rw [if_neg hs', h44 i j h1 h2]
    have e45 : s.1 45 = t.1 45 := (hO.1 45 (by decide)).1
    have e42 := hO.1 42 (by decide)
    obtain ⟨s2, hs2⟩ : ∃ s2, s2 = sL s 42 2 (s.2.1 42 2 + i2l (minI (pk.1 a b) (minI (pk.1 a c) (pk.1 b c)))) := ⟨_, rfl⟩
    rw [← hs2]
    have f2 : Fr [42, 44, 45] [] σ s2 := by rw [hs2]; exact f1.l (by simp) (by decide)
    have v44 : s2.1 44 = s.1 44 := by rw [hs2]; rfl
    have v45 : s2.1 45 = t.1 45 := by rw [hs2]; exact e45
    have v42 : s2.1 42 = σ.1 42 := by rw [hs2]; exact e42.1.trans h42
    have v421 : s2.2.1 42 1 = σ.2.1 42 1 := by rw [hs2]; simp [sL, vp_updL, e42.2, h421]
    have v422 : s2.2.1 42 2 = (pkTake q a b c pk).2.2.2.1 := by rw [hs2]; simp [sL, vp_updL, e42.2, hsum, pkTake, M3]
    have hR2 : s2.2.2 = gRf b0 := f2.2.2.trans hR
    rw [nI_add, nI_add]
    refine ⟨fun hq => ?_, fun hq => ?_⟩
    · refine ⟨_, fun o l => s_remember hR2 _ _ _ _, fun r s3 hp3 => ?_⟩
      obtain ⟨rfl, rfl⟩ := hp3
      refine ⟨rfl, rfl, ?_⟩
      refine next _ ⟨(((f2.i (by simp) (by decide)).i (by simp) (by decide)).i (by simp) (by decide)).i (by simp) (by decide), fun i j h1 h2 => ?_, v422, fun i hi => ?_, v42, v421⟩
      · rw [← u44 i j h1 h2]
        show _ - s2.1 44 _ = _
        rw [v44]
      · show _ = (if nI pk.2.2.1 = q then (fun i => if i = 0 then nI a else if i = 1 then nI b else if i = 2 then nI c else M3 pk.1 a b c) else pk.2.2.2.2) i
        rw [if_pos hq]
        rcases (show i = 0 ∨ i = 1 ∨ i = 2 ∨ i = 3 by omega) with rfl | rfl | rfl | rfl <;> simp [sI_get, M3]
    · refine next _ ⟨f2, fun i j h1 h2 => ?_, v422, fun i hi => ?_, v42, v421⟩
      · rw [← u44 i j h1 h2, v44]
      · show _ = (if nI pk.2.2.1 = q then (fun i => if i = 0 then nI a else if i = 1 then nI b else if i = 2 then nI c else M3 pk.1 a b c) else pk.2.2.2.2) i
        rw [if_neg hq, v45]
        exact hhit i hi
