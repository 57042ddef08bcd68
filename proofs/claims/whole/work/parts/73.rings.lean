/-! ring, rings -/
def hkP (k B : Nat) (s : PK) : Prop := s.2.2.1 ≤ B ∧ (s.2.2.1 ≤ k → s.2.2.2.2 = fun _ => -1) ∧ (k < s.2.2.1 → ∃ a, a < 30 ∧ s.2.2.2.2 0 = nI a)
theorem hkP.mono {k B B2 : Nat} {s : PK} (h : hkP k B s) (hb : B ≤ B2) : hkP k B2 s := ⟨Nat.le_trans h.1 hb, h.2⟩
theorem hkP_step {P : Nat → Nat → Nat → Bool} {k B a b c : Nat} {s : PK} (hk : k < 2147483648) (hB : B < 100000) (ha : a < 30) (h : hkP k B s) : hkP k (B + 1) (pkStep P (nI k) a b c s) := by
  obtain ⟨h1, h2, h3⟩ := h
  unfold pkStep
  split
  · split
    · exact ⟨by show s.2.2.1 ≤ _; omega, h2, h3⟩
    · refine ⟨by show s.2.2.1 + 1 ≤ _; omega, fun (hle : s.2.2.1 + 1 ≤ k) => ?_, fun (hlt : k < s.2.2.1 + 1) => ?_⟩
      · show (if nI s.2.2.1 = nI k then _ else s.2.2.2.2) = _
        rw [if_neg (by rw [nI_eq (by omega) hk]; omega)]
        exact h2 (by omega)
      · show ∃ a0, a0 < 30 ∧ (if nI s.2.2.1 = nI k then (fun i => if i = 0 then nI a else if i = 1 then nI b else if i = 2 then nI c else M3 s.1 a b c) else s.2.2.2.2) 0 = nI a0
        by_cases e : s.2.2.1 = k
        · rw [if_pos (by rw [e])]
          exact ⟨a, ha, rfl⟩
        · rw [if_neg (by rw [nI_eq (by omega) hk]; exact e)]
          exact h3 (by omega)
  · exact ⟨by omega, h2, h3⟩
theorem hkP_K {P : Nat → Nat → Nat → Bool} {k a b : Nat} (hk : k < 2147483648) (ha : a < 30) : ∀ (m c B : Nat) (s : PK), B + m < 100000 → hkP k B s → hkP k (B + m) (pkK P (nI k) a b m c s)
  | 0, _, _, _, _, h => h
  | m + 1, c, B, s, hB, h => by
    rw [pkK, show B + (m + 1) = (B + 1) + m by omega]
    exact hkP_K hk ha m (c + 1) (B + 1) _ (by omega) (hkP_step hk (by omega) ha h)
theorem hkP_J {P : Nat → Nat → Nat → Bool} {N k a : Nat} (h30 : N ≤ 30) (hk : k < 2147483648) (ha : a < 30) : ∀ (m b B : Nat) (s : PK), B + m * 30 < 100000 → hkP k B s → hkP k (B + m * 30) (pkJ P (nI k) N a m b s)
  | 0, _, _, _, _, h => h.mono (by omega)
  | m + 1, b, B, s, hB, h => by
    rw [pkJ, show B + (m + 1) * 30 = (B + 30) + m * 30 by omega]
    exact hkP_J h30 hk ha m (b + 1) (B + 30) _ (by omega) ((hkP_K hk ha _ _ B s (by omega) h).mono (by omega))
theorem hkP_I {P : Nat → Nat → Nat → Bool} {N k : Nat} (h30 : N ≤ 30) (hk : k < 2147483648) : ∀ (m a B : Nat) (s : PK), a + m ≤ 30 → B + m * 900 < 100000 → hkP k B s → hkP k (B + m * 900) (pkI P (nI k) N m a s)
  | 0, _, _, _, _, _, h => h.mono (by omega)
  | m + 1, a, B, s, ha, hB, h => by
    rw [pkI, show B + (m + 1) * 900 = (B + 900) + m * 900 by omega]
    exact hkP_I h30 hk m (a + 1) (B + 900) _ (by omega) (by omega) ((hkP_J h30 hk (by omega) _ _ B s (by omega) h).mono (by omega))
theorem pkStep_n {P : Nat → Nat → Nat → Bool} {q : Int32} {a b c : Nat} {s : PK} : (pkStep P q a b c s).2.1 = s.2.1 + (if P a b c = true then 1 else 0) := by
  unfold pkStep
  split
  · rename_i h
    split
    · rfl
    · rfl
  · rfl
theorem pkK_n {P : Nat → Nat → Nat → Bool} {q : Int32} {a b : Nat} : ∀ (m c : Nat) (s : PK), b < c → (pkK P q a b m c s).2.1 + cnK P a b c = s.2.1 + cnK P a b (c + m)
  | 0, _, _, _ => rfl
  | m + 1, c, s, h => by
    have e := pkK_n (P := P) (q := q) (a := a) (b := b) m (c + 1) (pkStep P q a b c s) (by omega)
    rw [pkStep_n, cnK] at e
    rw [pkK, show c + (m + 1) = c + 1 + m by omega]
    by_cases hp : P a b c = true
    · rw [if_pos hp, if_pos ⟨h, hp⟩] at e; omega
    · rw [if_neg hp, if_neg (fun x => hp x.2)] at e; omega
theorem pkJ_n {P : Nat → Nat → Nat → Bool} {q : Int32} {N a : Nat} : ∀ (m b : Nat) (s : PK), a < b → b + m ≤ N → (pkJ P q N a m b s).2.1 + cnJ P N a b = s.2.1 + cnJ P N a (b + m)
  | 0, _, _, _, _ => rfl
  | m + 1, b, s, h, hN => by
    have e := pkJ_n (P := P) (q := q) (N := N) (a := a) m (b + 1) (pkK P q a b (N - (b + 1)) (b + 1) s) (by omega) (by omega)
    have e2 := pkK_n (P := P) (q := q) (a := a) (b := b) (N - (b + 1)) (b + 1) s (by omega)
    rw [cnK_0 (b + 1) (Nat.le_refl _), show b + 1 + (N - (b + 1)) = N by omega] at e2
    rw [cnJ, if_pos h] at e
    rw [pkJ, show b + (m + 1) = b + 1 + m by omega]
    omega
theorem pkI_n {P : Nat → Nat → Nat → Bool} {q : Int32} {N : Nat} : ∀ (m a : Nat) (s : PK), a + m ≤ N → (pkI P q N m a s).2.1 + cnI P N a = s.2.1 + cnI P N (a + m)
  | 0, _, _, _ => rfl
  | m + 1, a, s, hN => by
    have e := pkI_n (P := P) (q := q) (N := N) m (a + 1) (pkJ P q N a (N - (a + 1)) (a + 1) s) (by omega)
    have e2 := pkJ_n (P := P) (q := q) (N := N) (a := a) (N - (a + 1)) (a + 1) s (by omega) (by omega)
    rw [cnJ_0 (a + 1) (Nat.le_refl _), show a + 1 + (N - (a + 1)) = N by omega] at e2
    rw [cnI] at e
    rw [pkI, show a + (m + 1) = a + 1 + m by omega]
    omega
theorem pw_self {σ : gSt} {v : Int64} {x : Int32} : Fr [115] [0] σ (sI (sL σ 115 0 v) 65 0 x) ∧ Fr [115] [0] σ (sI σ 65 0 x) := ⟨(Fr.rf.l (by simp) (by decide)).f (by simp), Fr.rf.f (by simp)⟩
theorem op_rings {b : Bool} {σ : gSt} (hI : Inv b σ) : OKN (fun Q s => W_X11_rings (fun v => Q v s) s) W_X12_rings σ := by
  obtain ⟨N, bk, nm, td, yr, fa, most, wt, nv, ti, ap, hd, h30, hEn, ⟨hN, hsz⟩, hm, hh, hS, hC, hM, ⟨R, hs, hG⟩, hnew⟩ := hI.pwG
  have hR := hI.1
  unfold OKN W_X11_rings
  refine p_howMany hR hEn.1 h30 (P := ringP wt nv) (fun x y z h1 h2 h3 => ring_C hC (by omega) (by omega) h3 (by omega) (by omega) (by omega)) (fI_i ?_)
  have f := (pw_self (σ := σ) (v := lN 0) (x := nI 0)).2
  refine p_packs hS ((f.2.1 1 (by decide)).1.trans hN) h30 (fun Q q => hM _ Q (f.mono (by decide) (by decide)) q) (fun t1 t hO ht => ⟨?_, b, ?_⟩)
  · rw [ht.2.2.1]
    have e := pkI_n (P := ringP wt nv) (q := (-1 : Int32)) (N := N) N 0 (pk0 wt nv) (by omega)
    congr 1
    show cnI _ N N = _
    rw [show cnI (ringP wt nv) N 0 = 0 from rfl, show (pk0 wt nv).2.1 = 0 from rfl, Nat.zero_add, Nat.zero_add] at e
    omega
  · exact (hI.scr ((f.mono (by decide) (by decide)).trans (((Fr.of (js := []) hO (by decide)).mono (ks' := scrC) (js' := scrJ) (by decide) (by decide)).trans (ht.1.mono (by decide) (by decide)))))
theorem op_ring {b : Bool} {σ : gSt} (hI : Inv b σ) (p r : Int32) : OKI (fun Q QX s => W_X11_ring p r Q QX s) (W_X12_ring p r) cdA σ := by
  obtain ⟨N, bk, nm, td, yr, fa, most, wt, nv, ti, ap, hd, h30, hEn, ⟨hN, hsz⟩, hm, hh, hS, hC, hM, ⟨R, hs, hG⟩, hnew⟩ := hI.pwG
  have hR := hI.1
  unfold OKI W_X11_ring
  refine q_within ?_
  by_cases hv : (!decide (r < nI 0) && !decide (nI 3 < r)) = true
  · rw [hv]
    have hr : ∃ j, j < 4 ∧ r = nI j := by
      simp only [Bool.and_eq_true, Bool.not_eq_true', decide_eq_false_iff_not] at hv
      obtain ⟨j, hj, rfl⟩ := nI_of hv.1
      exact ⟨j, by
        by_cases z : j < 4
        · exact z
        · exact absurd (by rw [nI_ltI (by decide) hj]; omega) hv.2, rfl⟩
    refine q_refuse (by decide) ⟨fun hp => ?_, fun hp => ?_⟩
    · obtain ⟨k, hk, rfl⟩ := nI_of (Int32.not_lt.mpr hp)
      obtain ⟨j, hj, rfl⟩ := hr
      refine p_pack hR hC hS hEn.1 h30 (fun s hks => ⟨_, fun o l => s_hit (hks.1.2.2.trans hR) j hj, ?_⟩)
      rintro s2 rfl
      refine fI_i (p_within ?_)
      rw [hv]
      refine p_may_ok (by decide) rfl (bq_f (by decide) ?_)
      have f := pack_fr (x := nI 0) (v := i2l (s.1 45 j)) hks (.inl rfl)
      refine p_packs hS ((f.2.1 1 (by decide)).1.trans hN) h30 (fun Q q => hM _ Q f q) (fun t1 t hO ht => ?_)
      obtain ⟨hIt, ht0, hto⟩ := pack_inv (v := i2l (s.1 45 j)) hnew hG hks (.inl rfl) hO ht
      have hko := hto rfl
      have hH := hkP_I (P := ringP wt nv) h30 hk N 0 0 (pk0 wt nv) (by omega) (by omega) ⟨Nat.zero_le _, fun _ => rfl, fun h => absurd h (Nat.not_lt_zero _)⟩
      have hT : (pkI (ringP wt nv) (nI k) N N 0 (pk0 wt nv)).2.2.1 < 100000 := by have := hH.1; omega
      have hit := hks.2.2.2.1 j hj
      refine bq_f (nI_pos hk) ?_
      rw [ht.2.2.2.1]
      refine br_le (by omega) hk (fun hle => ?_) (fun hlt => ?_)
      · refine ⟨ht0, fun _ => ?_, b, hIt⟩
        rw [hko, hit, hH.2.1 hle]
      · refine rI_i (by omega) ⟨ht0, fun _ => ?_, b, hIt⟩
        rw [hko, hit]
        rcases ht.2.2.2.2 with e | e
        · obtain ⟨a, ha, e2⟩ := hH.2.2 hlt
          rw [e] at e2
          have e2 : (-1 : Int32) = nI a := e2
          exact absurd e2 (by
            intro h
            have h2 : ¬ nI a < 0 := nI_pos (by omega)
            rw [← h] at h2
            exact h2 (by decide))
        · rw [e j hj]
    · rintro s2 rfl
      refine fI_i (p_within ?_)
      rw [hv]
      refine p_may_ok (by decide) rfl (bq_f (by decide) ?_)
      have f := (pw_self (σ := σ) (v := i2l (-1)) (x := nI 0)).1
      refine p_packs hS ((f.2.1 1 (by decide)).1.trans hN) h30 (fun Q q => hM _ Q (f.mono (by decide) (by decide)) q) (fun t1 t hO ht => ?_)
      have fall : Fr scrC scrJ σ t := ((f.mono (by decide) (by decide)).trans (((Fr.of (js := []) hO (by decide)).mono (ks' := scrC) (js' := scrJ) (by decide) (by decide)).trans (ht.1.mono (by decide) (by decide))))
      refine bq_t (Int32.not_le.mp hp) (fin.scr hI fall ?_ (fun _ => ?_))
      · rw [(ht.1.2.1 0 (by decide)).1, (hO.1 65 (by decide)).1, sI_get, if_pos ⟨rfl, rfl⟩]
      · rw [(ht.1.1 115 (by decide) (by decide)).2, (hO.1 115 (by decide)).2]
        simp [sL, sI, vp_updL]
  · have hv : (!decide (r < nI 0) && !decide (nI 3 < r)) = false := by simpa using hv
    rw [hv]
    refine q_refuse_no rfl ⟨nI 1, ⟨rfl, rfl⟩, fI_i (p_within ?_)⟩
    rw [hv]
    exact p_may_bad rfl (by decide) rfl (bq_t rfl (fin.no hI (.inl rfl)))
