/-! the class's packing, all triples; bound, ring, rings -/
theorem p_pack_K {b0 : Bool} {σ : gSt} (hR : σ.2.2 = gRf b0) {N : Nat} {bk yr : Nat → Nat} {wt : Nat → Nat → Int32} {nv ti ap : Nat → Nat → Bool} (hC : pwC σ N bk yr wt nv ti ap) (h30 : N ≤ 30) {q : Int32} {a b : Nat} (hab : a < b) {Q : gSt → Prop} {K : Int32 → gSt → Prop} : ∀ (m c : Nat) (pk : PK) (t : gSt), c + m = N → b < c → pkC σ t N wt nv pk → pkNn pk N → (∀ t2, pkC σ t2 N wt nv (pkK (ringP wt nv) q a b m c pk) → pkNn (pkK (ringP wt nv) q a b m c pk) N → K (nI (pkK (ringP wt nv) q a b m c pk).2.2.1) t2) → L_X8_pack_61 Q q (nI N) (nI a) (nI b) K (m + 1) (nI pk.2.2.1) (nI c) t := by
  intro m
  induction m with
  | zero =>
    intro c pk t hc hbc hk hn hK
    obtain rfl : c = N := by omega
    rw [L_X8_pack_61]
    exact bq_t (nI_le (Nat.le_refl _) (by omega)) (hK t hk hn)
  | succ m ih =>
    intro c pk t hc hbc hk hn hK
    exact p_pack_1 hR hC h30 hab hbc (by omega) hk hn (fun t2 h2 => ih (c + 1) _ t2 (by omega) (by omega) h2 (pkStep_nn hn hab hbc (by omega)) hK)
theorem p_pack_J {b0 : Bool} {σ : gSt} (hR : σ.2.2 = gRf b0) {N : Nat} {bk yr : Nat → Nat} {wt : Nat → Nat → Int32} {nv ti ap : Nat → Nat → Bool} (hC : pwC σ N bk yr wt nv ti ap) (h30 : N ≤ 30) {q : Int32} {a : Nat} {Q : gSt → Prop} {K : Int32 → gSt → Prop} : ∀ (m b : Nat) (pk : PK) (t : gSt), b + m = N → a < b → pkC σ t N wt nv pk → pkNn pk N → (∀ t2, pkC σ t2 N wt nv (pkJ (ringP wt nv) q N a m b pk) → pkNn (pkJ (ringP wt nv) q N a m b pk) N → K (nI (pkJ (ringP wt nv) q N a m b pk).2.2.1) t2) → L_X8_pack_49 Q q (nI N) (nI a) K (m + 1) (nI pk.2.2.1) (nI b) t := by
  intro m
  induction m with
  | zero =>
    intro b pk t hb hab hk hn hK
    obtain rfl : b = N := by omega
    rw [L_X8_pack_49]
    exact bq_t (nI_le (Nat.le_refl _) (by omega)) (hK t hk hn)
  | succ m ih =>
    intro b pk t hb hab hk hn hK
    rw [L_X8_pack_49]
    refine bq_f (nI_ge (by omega) (by omega)) ⟨N - (b + 1) + 1, ?_⟩
    rw [nI_add]
    exact p_pack_K hR hC h30 hab (N - (b + 1)) (b + 1) pk t (by omega) (by omega) hk hn (fun t2 h2 n2 => ih (b + 1) _ t2 (by omega) (by omega) h2 n2 hK)
theorem p_pack_I {b0 : Bool} {σ : gSt} (hR : σ.2.2 = gRf b0) {N : Nat} {bk yr : Nat → Nat} {wt : Nat → Nat → Int32} {nv ti ap : Nat → Nat → Bool} (hC : pwC σ N bk yr wt nv ti ap) (h30 : N ≤ 30) {q : Int32} {Q K : gSt → Prop} : ∀ (m a : Nat) (pk : PK) (t : gSt), a + m = N → pkC σ t N wt nv pk → pkNn pk N → (∀ t2, pkC σ t2 N wt nv (pkI (ringP wt nv) q N m a pk) → K t2) → L_X8_pack_37 Q q (nI N) K (m + 1) (nI pk.2.2.1) (nI a) t := by
  intro m
  induction m with
  | zero =>
    intro a pk t ha hk hn hK
    obtain rfl : a = N := by omega
    rw [L_X8_pack_37]
    exact bq_t (nI_le (Nat.le_refl _) (by omega)) (hK t hk)
  | succ m ih =>
    intro a pk t ha hk hn hK
    rw [L_X8_pack_37]
    refine bq_f (nI_ge (by omega) (by omega)) ⟨N - (a + 1) + 1, ?_⟩
    rw [nI_add]
    exact p_pack_J hR hC h30 (N - (a + 1)) (a + 1) pk t (by omega) (by omega) hk hn (fun t2 h2 n2 => ih (a + 1) _ t2 (by omega) h2 n2 hK)
theorem rst_nn {wt : Nat → Nat → Int32} {nv : Nat → Nat → Bool} {a c : Nat} (h : okW (wt a c)) : (0 : Int32) ≤ rst wt nv a c := by
  unfold rst absI
  obtain ⟨h1, h2⟩ := h
  have e0 : (0 : Int32).toInt = 0 := by decide
  split
  · decide
  · split
    · assumption
    · rename_i h3
      rw [fa_le, e0] at h3
      rw [fa_le, e0, Int32.toInt_sub, e0, Int.bmod_eq_of_le (by omega) (by omega)]
      omega
theorem p_pack {b0 : Bool} {σ : gSt} (hR : σ.2.2 = gRf b0) {N : Nat} {bk yr : Nat → Nat} {wt : Nat → Nat → Int32} {nv ti ap : Nat → Nat → Bool} (hC : pwC σ N bk yr wt nv ti ap) (hS : pwS N wt nv ti ap) (hN : σ.1 1 0 = nI N) (h30 : N ≤ 30) {q : Int32} {Q : gSt → Prop} (k : ∀ t, pkC σ t N wt nv (pkI (ringP wt nv) q N N 0 (pk0 wt nv)) → Q t) : W_X8_pack q Q σ := by
  intro s1 hO1 h1 s2 hO2 h2
  refine fL_i ⟨N + 1, ?_⟩
  have f2 : Fr [42, 44, 45] [] σ s2 := ((Fr.of (js := []) hO1 (by decide)).mono (by simp) (by simp)).trans ((Fr.of (js := []) hO2 (by decide)).mono (by simp) (by simp))
  have e44 : s2.1 44 = s1.1 44 := (hO2.1 44 (by decide)).1
  have e42 : s2.1 42 = σ.1 42 := (hO2.1 42 (by decide)).1.trans (hO1.1 42 (by decide)).1
  have e42' : s2.2.1 42 = σ.2.1 42 := (hO2.1 42 (by decide)).2.trans (hO1.1 42 (by decide)).2
  have n1 : (sL s2 42 2 (lN 0)).1 1 0 = nI N := by
    show s2.1 1 0 = _
    rw [(f2.1 1 (by decide) (by decide)).1]; exact hN
  rw [n1]
  refine p_pack_I hR hC h30 N 0 (pk0 wt nv) _ (by omega) ⟨f2.l (by simp) (by decide), fun i j hi hj => ?_, ?_, fun i hi => ?_, e42, ?_⟩ (fun i j hi hj => rst_nn (hS i j (by omega) hj (by omega)).2.2.2.2.1) k
  · show rst wt nv i j - s2.1 44 _ = rst wt nv i j
    rw [e44, h1, if_pos (show i * 30 + j < (lay 44).2 by show i * 30 + j < 900; omega), nI_0, Int32.sub_zero]
  · simp [sL, vp_updL, pk0]
  · show s2.1 45 i = -1
    rw [h2, if_pos (show i < (lay 45).2 from hi)]
  · simp [sL, vp_updL, e42']
/-! the state after both -/
theorem pack_inv {b : Bool} {σ s t1 t : gSt} {N R : Nat} {hs : Bool} {wt : Nat → Nat → Int32} {nv : Nat → Nat → Bool} {pk pk2 : PK} {v : Int64} {x : Int32} (hnew : ∀ t R2 hs2, Fr (42 :: 43 :: 101 :: scrC) (56 :: 57 :: 60 :: scrJ) σ t → invG t N R2 hs2 → Inv b t) (hG : invG σ N R hs) (h1 : pkC σ s N wt nv pk) {s2 : gSt} (e2 : s2 = sI (sL s 115 0 v) 65 0 x ∨ s2 = sI s 65 0 x) (hO : Off [86, 90, 91, 92, 93] s2 t1) (h2 : pkM t1 t N pk2) : Inv b t ∧ t.1 65 0 = x ∧ (s2 = sI (sL s 115 0 v) 65 0 x → t.2.1 115 0 = v) := by
  obtain ⟨f, -, -, -, e42, e421⟩ := h1
  have f2 : Fr [42, 44, 45, 115] [0] σ s2 := by
    rcases e2 with rfl | rfl
    · exact ((f.mono (by simp) (by simp)).l (by simp) (by decide)).f (by simp)
    · exact (f.mono (by simp) (by simp)).f (by simp)
  have d42 : s2.1 42 = σ.1 42 ∧ s2.2.1 42 1 = σ.2.1 42 1 := by
    rcases e2 with rfl | rfl
    · exact ⟨e42, e421⟩
    · exact ⟨e42, e421⟩
  have g : Fr [86, 90, 91, 92, 93, 100, 102] [61, 62] s2 t := ((Fr.of (js := []) hO (by decide)).mono (by simp) (by simp)).trans (h2.1.mono (by simp) (by simp))
  have fall : Fr (42 :: scrC) scrJ σ t := (f2.mono (by decide) (by decide)).trans (g.mono (by decide) (by decide))
  have t42 := g.1 42 (by decide) (by decide)
  refine ⟨hnew t R hs (fall.mono (fun k hk => by simp at hk ⊢; rcases hk with hk | hk; exact .inl hk; exact .inr (.inr (.inr hk))) (fun k hk => by simp; exact .inr (.inr (.inr hk)))) ?_, ?_, ?_⟩
  · obtain ⟨g1, g2, g3, g4, g5, g6, g7, g8, g9⟩ := hG
    unfold invG
    rw [(fall.1 24 (by decide) (by decide)).1, (fall.1 26 (by decide) (by decide)).1, (fall.1 43 (by decide) (by decide)).1, (fall.1 101 (by decide) (by decide)).1, (fall.2.1 56 (by decide)).1, (fall.2.1 60 (by decide)).1, (fall.2.1 57 (by decide)).2, t42.1, t42.2, d42.1, d42.2]
    exact ⟨g1, g2, g3, g4, g5, g6, g7, g8, g9⟩
  · rw [(g.2.1 0 (by decide)).1]
    rcases e2 with rfl | rfl <;> rw [sI_get, if_pos ⟨rfl, rfl⟩]
  · rintro rfl
    rw [(g.1 115 (by decide) (by decide)).2]
    simp [sL, sI, vp_updL]
theorem pack_fr {σ s s2 : gSt} {N : Nat} {wt : Nat → Nat → Int32} {nv : Nat → Nat → Bool} {pk : PK} {v : Int64} {x : Int32} (h1 : pkC σ s N wt nv pk) (e2 : s2 = sI (sL s 115 0 v) 65 0 x ∨ s2 = sI s 65 0 x) : Fr (42 :: 43 :: 101 :: scrC) (56 :: 57 :: 60 :: scrJ) σ s2 := by
  have f := h1.1
  rcases e2 with rfl | rfl
  · exact (((f.mono (ks' := [42, 44, 45, 115]) (js' := [0]) (by simp) (by simp)).l (by simp) (by decide)).f (by simp)).mono (by decide) (by decide)
  · exact ((f.mono (ks' := [42, 44, 45, 115]) (js' := [0]) (by simp) (by simp)).f (by simp)).mono (by decide) (by decide)
theorem op_bound {b : Bool} {σ : gSt} (hI : Inv b σ) : OKM (fun Q s => W_X11_bound Q s) W_X12_bound σ := by
  obtain ⟨N, bk, nm, td, yr, fa, most, wt, nv, ti, ap, hd, h30, hEn, ⟨hN, hsz⟩, hm, hh, hS, hC, hM, ⟨R, hs, hG⟩, hnew⟩ := hI.pwG
  have hR := hI.1
  unfold OKM W_X11_bound
  refine p_pack hR hC hS hEn.1 h30 (fun s hk => fI_i ?_)
  have f := pack_fr (x := nI 0) (v := lN 0) hk (.inr rfl)
  refine p_packs hS ((f.2.1 1 (by decide)).1.trans hN) h30 (fun Q q => hM _ Q f q) (fun t1 t hO ht => ?_)
  exact ⟨hk.2.2.1, b, (pack_inv (v := lN 0) hnew hG hk (.inr rfl) hO ht).1⟩
