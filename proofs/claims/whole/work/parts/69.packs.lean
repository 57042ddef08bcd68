/-! the reference's packing, all triples -/
def pkK (P : Nat → Nat → Nat → Bool) (q : Int32) (a b : Nat) : Nat → Nat → PK → PK
  | 0, _, s => s
  | m + 1, c, s => pkK P q a b m (c + 1) (pkStep P q a b c s)
def pkJ (P : Nat → Nat → Nat → Bool) (q : Int32) (N a : Nat) : Nat → Nat → PK → PK
  | 0, _, s => s
  | m + 1, b, s => pkJ P q N a m (b + 1) (pkK P q a b (N - (b + 1)) (b + 1) s)
def pkI (P : Nat → Nat → Nat → Bool) (q : Int32) (N : Nat) : Nat → Nat → PK → PK
  | 0, _, s => s
  | m + 1, a, s => pkI P q N m (a + 1) (pkJ P q N a (N - (a + 1)) (a + 1) s)
theorem p_packs_K {s0 : gSt} {N : Nat} {wt : Nat → Nat → Int32} {nv ti ap : Nat → Nat → Bool} (hw : pwM s0 N wt nv ti ap) (hS : pwS N wt nv ti ap) (hN : s0.1 65 1 = nI N) (h30 : N ≤ 30) {q : Int32} {a b : Nat} (hab : a < b) {Q K : Int64 → gSt → Prop} : ∀ (m c : Nat) (pk : PK) (t : gSt), c + m = N → b < c → pkM s0 t N pk → (∀ t2, pkM s0 t2 N (pkK (ringP wt nv) q a b m c pk) → K (pkK (ringP wt nv) q a b m c pk).2.2.2.1 t2) → L_X12_packs_57 Q q (nI a) (nI b) K (m + 1) pk.2.2.2.1 (nI c) t := by
  intro m
  induction m with
  | zero =>
    intro c pk t hc hbc hk hK
    obtain rfl : c = N := by omega
    rw [L_X12_packs_57, (hk.1.2.1 1 (by decide)).1, hN]
    exact bq_t (nI_le (Nat.le_refl _) (by omega)) (hK t hk)
  | succ m ih =>
    intro c pk t hc hbc hk hK
    exact p_packs_1 hw hS hN h30 hab hbc (by omega) hk (fun t2 h2 => ih (c + 1) _ t2 (by omega) (by omega) h2 hK)
theorem p_packs_J {s0 : gSt} {N : Nat} {wt : Nat → Nat → Int32} {nv ti ap : Nat → Nat → Bool} (hw : pwM s0 N wt nv ti ap) (hS : pwS N wt nv ti ap) (hN : s0.1 65 1 = nI N) (h30 : N ≤ 30) {q : Int32} {a : Nat} {Q K : Int64 → gSt → Prop} : ∀ (m b : Nat) (pk : PK) (t : gSt), b + m = N → a < b → pkM s0 t N pk → (∀ t2, pkM s0 t2 N (pkJ (ringP wt nv) q N a m b pk) → K (pkJ (ringP wt nv) q N a m b pk).2.2.2.1 t2) → L_X12_packs_42 Q q (nI a) K (m + 1) pk.2.2.2.1 (nI b) t := by
  intro m
  induction m with
  | zero =>
    intro b pk t hb hab hk hK
    obtain rfl : b = N := by omega
    rw [L_X12_packs_42, (hk.1.2.1 1 (by decide)).1, hN]
    exact bq_t (nI_le (Nat.le_refl _) (by omega)) (hK t hk)
  | succ m ih =>
    intro b pk t hb hab hk hK
    rw [L_X12_packs_42, (hk.1.2.1 1 (by decide)).1, hN]
    refine bq_f (nI_ge (by omega) (by omega)) ⟨N - (b + 1) + 1, ?_⟩
    rw [nI_add]
    exact p_packs_K hw hS hN h30 hab (N - (b + 1)) (b + 1) pk t (by omega) (by omega) hk (fun t2 h2 => ih (b + 1) _ t2 (by omega) (by omega) h2 hK)
theorem p_packs_I {s0 : gSt} {N : Nat} {wt : Nat → Nat → Int32} {nv ti ap : Nat → Nat → Bool} (hw : pwM s0 N wt nv ti ap) (hS : pwS N wt nv ti ap) (hN : s0.1 65 1 = nI N) (h30 : N ≤ 30) {q : Int32} {Q K : Int64 → gSt → Prop} : ∀ (m a : Nat) (pk : PK) (t : gSt), a + m = N → pkM s0 t N pk → (∀ t2, pkM s0 t2 N (pkI (ringP wt nv) q N m a pk) → K (pkI (ringP wt nv) q N m a pk).2.2.2.1 t2) → L_X12_packs_27 Q q K (m + 1) pk.2.2.2.1 (nI a) t := by
  intro m
  induction m with
  | zero =>
    intro a pk t ha hk hK
    obtain rfl : a = N := by omega
    rw [L_X12_packs_27, (hk.1.2.1 1 (by decide)).1, hN]
    exact bq_t (nI_le (Nat.le_refl _) (by omega)) (hK t hk)
  | succ m ih =>
    intro a pk t ha hk hK
    rw [L_X12_packs_27, (hk.1.2.1 1 (by decide)).1, hN]
    refine bq_f (nI_ge (by omega) (by omega)) ⟨N - (a + 1) + 1, ?_⟩
    rw [nI_add]
    exact p_packs_J hw hS hN h30 (N - (a + 1)) (a + 1) pk t (by omega) (by omega) hk (fun t2 h2 => ih (a + 1) _ t2 (by omega) h2 hK)
