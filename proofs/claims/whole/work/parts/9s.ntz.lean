/-! the first bit, and a heap's mask -/
theorem p_maskOf {s : gSt} {N k0 : Nat} (hN : s.1 1 0 = nI N) (h30 : N ≤ 30) (hk : lay k0 = (0, 30)) {c : Int32} {Q : Int32 → Prop} (q : ∀ x, (∀ k, k < 32 → bt x k = (decide (k < N) && decide (s.1 k0 k = c))) → Q x) : W_X11_maskOf k0 c Q s := by
  have loop : ∀ (m i : Nat), i + m = N → L_X11_maskOf_5 k0 Q c s (fun y9 => Q y9) (m + 1) (orBits (fun k => decide (s.1 k0 k = c)) i) (nI i) := by
    intro m
    induction m with
    | zero =>
      intro i hi
      obtain rfl : i = N := by omega
      rw [L_X11_maskOf_5, hN]
      exact bq_t (nI_le (Nat.le_refl _) (by omega)) (q _ (fun k hk => bt_orBits _ i (by omega) k hk))
    | succ m ih =>
      intro i hi
      rw [L_X11_maskOf_5, hN, hk]
      refine bq_f (nI_ge (by omega) (by omega)) (rI_i (by show i < 30; omega) ?_)
      have nx := ih (i + 1) (by omega)
      rw [orBits] at nx
      rw [nI_add]
      refine ⟨fun z => ?_, fun z => ?_⟩
      · rw [if_pos (decide_eq_true z)] at nx; exact nx
      · rw [if_neg (by simpa using z)] at nx; exact nx
  unfold W_X11_maskOf
  exact ⟨N + 1, loop N 0 (by omega)⟩
