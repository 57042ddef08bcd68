/-! the reference's packing, one triple -/
def pkM (s0 t : gSt) (N : Nat) (pk : PK) : Prop := Fr [100, 102] [61, 62] s0 t ∧ (∀ i j, i < j → j < N → t.1 100 (30 * i + j) = pk.1 i j) ∧ t.1 65 61 = nI pk.2.1 ∧ t.1 65 62 = nI pk.2.2.1 ∧ (pk.2.2.2.2 = (fun _ => -1) ∨ ∀ i, i < 4 → t.1 102 i = pk.2.2.2.2 i)
theorem p_packs_1 {s0 : gSt} {N : Nat} {wt : Nat → Nat → Int32} {nv ti ap : Nat → Nat → Bool} (hw : pwM s0 N wt nv ti ap) (hS : pwS N wt nv ti ap) (hN : s0.1 65 1 = nI N) (h30 : N ≤ 30) {q : Int32} {a b c : Nat} (hab : a < b) (hbc : b < c) (hc : c < N) {Q K : Int64 → gSt → Prop} {n : Nat} {pk : PK} {t : gSt} (hk : pkM s0 t N pk) (next : ∀ t2, pkM s0 t2 N (pkStep (ringP wt nv) q a b c pk) → L_X12_packs_57 Q q (nI a) (nI b) K n (pkStep (ringP wt nv) q a b c pk).2.2.2.1 (nI (c + 1)) t2) : L_X12_packs_57 Q q (nI a) (nI b) K (n + 1) pk.2.2.2.1 (nI c) t := by
  obtain ⟨f, h100, h61, h62, hh⟩ := hk
  have hwt : pwM t N wt nv ti ap := by
    unfold pwM at hw ⊢
    rw [(f.1 90 (by decide) (by decide)).1, (f.1 91 (by decide) (by decide)).1, (f.1 92 (by decide) (by decide)).1, (f.1 93 (by decide) (by decide)).1]
    exact hw
  rw [L_X12_packs_57, (f.2.1 1 (by decide)).1, hN]
  refine bq_f (nI_ge (by omega) (by omega)) (p_isRing hwt hS h30 (by omega) (by omega) hc (by omega) (by omega) (by omega) (br_z (fun e => ?_) (fun e => ?_)))
  · rw [nI_add]
    have e2 : pkStep (ringP wt nv) q a b c pk = pk := by unfold pkStep; rw [e]; rfl
    have := next t (by rw [e2]; exact ⟨f, h100, h61, h62, hh⟩)
    rw [e2] at this
    exact this
  · refine fI_i ?_
    rw [h61, nI_add, nI_add]
    obtain ⟨t1, ht1⟩ : ∃ q, q = sI t 65 61 (nI (pk.2.1 + 1)) := ⟨_, rfl⟩
    rw [← ht1]
    have f1 : Fr [100, 102] [61, 62] s0 t1 := by rw [ht1]; exact f.f (by simp)
    have k100 : ∀ i j, i < j → j < N → t1.1 100 (30 * i + j) = pk.1 i j := fun i j h1 h2 => by rw [ht1]; exact h100 i j h1 h2
    have k61 : t1.1 65 61 = nI (pk.2.1 + 1) := by rw [ht1, sI_get, if_pos ⟨rfl, rfl⟩]
    have k62 : t1.1 65 62 = nI pk.2.2.1 := by rw [ht1, sI_get, if_neg (by decide)]; exact h62
    have k102 : t1.1 102 = t.1 102 := by rw [ht1]; rfl
    refine p_leastRest rfl (by omega) (by omega) (by omega) ?_
    rw [k100 a b hab (by omega), k100 a c (by omega) hc, k100 b c hbc hc]
    refine ⟨fun hz => ?_, fun hnz => ?_⟩
    · have hz : M3 pk.1 a b c = 0 := hz
      have e2 : pkStep (ringP wt nv) q a b c pk = (pk.1, pk.2.1 + 1, pk.2.2) := by unfold pkStep; rw [if_pos e, if_pos hz]
      have := next t1 (by rw [e2]; exact ⟨f1, k100, k61, k62, by rw [k102]; exact hh⟩)
      rw [e2] at this
      exact this
    · have hnz : ¬ M3 pk.1 a b c = 0 := hnz
      have e2 : pkStep (ringP wt nv) q a b c pk = pkTake q a b c pk := by unfold pkStep; rw [if_pos e, if_neg hnz]
      rw [e2] at next
      intro J hJ
      have go : ∀ t2 : gSt, Fr [100, 102] [61, 62] s0 t2 → t2.1 100 = t1.1 100 → t2.1 65 61 = nI (pk.2.1 + 1) → t2.1 65 62 = nI pk.2.2.1 → ((pkTake q a b c pk).2.2.2.2 = (fun _ => -1) ∨ ∀ i, i < 4 → t2.1 102 i = (pkTake q a b c pk).2.2.2.2 i) → J t2 := by
        intro t2 f2 g100 g61 g62 gh
        refine hJ t2 (fI_i ?_)
        rw [g62, nI_add]
        refine p_takesRest rfl (by omega) (by omega) (by omega) hab hbc (fun t3 hO3 h3 => ?_)
        refine next t3 ⟨(f2.f (by simp)).trans ((Fr.of (js := []) hO3 (by decide)).mono (by simp) (by simp)), fun i j h1 h2 => ?_, ?_, ?_, ?_⟩
        · rw [h3 i j h1 (by omega)]
          have e3 : (sI t2 65 62 (nI (pk.2.2.1 + 1))).1 100 (30 * i + j) = pk.1 i j := by
            show t2.1 100 _ = _
            rw [g100]; exact k100 i j h1 h2
          rw [e3]; rfl
        · rw [(hO3.1 65 (by decide)).1, sI_get, if_neg (by decide)]; exact g61
        · rw [(hO3.1 65 (by decide)).1, sI_get, if_pos ⟨rfl, rfl⟩]; rfl
        · rw [(hO3.1 102 (by decide)).1]; exact gh
      rw [k62]
      refine ⟨fun hq => ?_, fun hq => ?_⟩
      · refine wI_i (by omega) (wI_i (by omega) (wI_i (by omega) (wI_i (by omega) (go _ ((((f1.i (by simp) (by decide)).i (by simp) (by decide)).i (by simp) (by decide)).i (by simp) (by decide)) rfl k61 k62 (.inr (fun i hi => ?_))))))
        show _ = (if nI pk.2.2.1 = q then (fun i => if i = 0 then nI a else if i = 1 then nI b else if i = 2 then nI c else M3 pk.1 a b c) else pk.2.2.2.2) i
        rw [if_pos hq]
        rcases (show i = 0 ∨ i = 1 ∨ i = 2 ∨ i = 3 by omega) with rfl | rfl | rfl | rfl <;> simp [sI_get, M3]
      · refine go t1 f1 rfl k61 k62 ?_
        show (if nI pk.2.2.1 = q then (fun i => if i = 0 then nI a else if i = 1 then nI b else if i = 2 then nI c else M3 pk.1 a b c) else pk.2.2.2.2) = _ ∨ ∀ i, i < 4 → t1.1 102 i = (if nI pk.2.2.1 = q then (fun i => if i = 0 then nI a else if i = 1 then nI b else if i = 2 then nI c else M3 pk.1 a b c) else pk.2.2.2.2) i
        rw [if_neg hq, k102]
        exact hh
