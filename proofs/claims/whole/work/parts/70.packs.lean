/-! the reference's packing, whole -/
def pk0 (wt : Nat → Nat → Int32) (nv : Nat → Nat → Bool) : PK := (rst wt nv, 0, 0, lN 0, fun _ => -1)
theorem p_packs {s : gSt} {N : Nat} {wt : Nat → Nat → Int32} {nv ti ap : Nat → Nat → Bool} (hS : pwS N wt nv ti ap) (hN : s.1 65 1 = nI N) (h30 : N ≤ 30) (hW : ∀ Q : gSt → Prop, (∀ t, Off [86, 90, 91, 92, 93] s t → pwM t N wt nv ti ap → Q t) → W_X12_weighs Q s) {q : Int32} {Q : Int64 → gSt → Prop} (k : ∀ t1 t, Off [86, 90, 91, 92, 93] s t1 → pkM t1 t N (pkI (ringP wt nv) q N N 0 (pk0 wt nv)) → Q (pkI (ringP wt nv) q N N 0 (pk0 wt nv)).2.2.2.1 t) : W_X12_packs q Q s := by
  refine hW _ (fun t1 hO hw => ?_)
  have n1 : t1.1 65 1 = nI N := by rw [(hO.1 65 (by decide)).1]; exact hN
  refine p_setRests n1 hw h30 rfl (.inl rfl) (fun t2 hO2 h2 => fI_i (fI_i ⟨N + 1, ?_⟩))
  refine p_packs_I (K := fun y50 s51 => Q y50 s51) hw hS n1 h30 N 0 (pk0 wt nv) _ (by omega) ⟨((((Fr.of (js := []) hO2 (by decide)).mono (by simp) (by simp)).f (by simp)).f (by simp)), fun i j h1 h2' => ?_, ?_, ?_, .inl rfl⟩ (fun t ht => k t1 t hO ht)
  · exact h2 i j h1 h2'
  · rw [sI_get, if_neg (by decide), sI_get, if_pos ⟨rfl, rfl⟩]; rfl
  · rw [sI_get, if_pos ⟨rfl, rfl⟩]; rfl
