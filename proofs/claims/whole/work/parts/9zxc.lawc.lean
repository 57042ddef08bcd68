/-! the law's cases -/
section LAW
variable {o : gOm} {γ : gCx} {cc : ByteArray} {nL : Nat} {own : String} {cells slots n : Nat} {σ : gSt} {pc : Nat} {ls : List (Option Value)} {rest : List Value}
/-- the law's own script -/
def gScr (o : gOm) (γ : gCx) (bs L : Nat) (xs : Nat → Int32) : Prop := match γ with
  | (p, l, e, R, s, m, args, below, meth, c, Q) => va_X bs L xs s s.heap ∧ bs < s.heap.size ∧ ¬ gA o bs
theorem g_sld (X : gX o γ cc nL own) {bs L i : Nat} {xs : Nat → Int32} (S : gScr o γ bs L xs) (hd : decode cc pc = .ok (.iaload, 1)) (hi : i < L) (hL : L ≤ 3072) (kk : G o γ cells slots n σ (pc + 1) ls (.int (xs i) :: rest)) : G o γ cells slots n σ pc ls (.int (nI i) :: .ref bs :: rest) := by
  obtain ⟨p, l, e, R, s, m, args, below, meth, c, Q⟩ := γ
  obtain ⟨hx, hb, hml, hown, hts, hK, hbase, hlk9, hfx⟩ := X
  obtain ⟨s1, s2, s3⟩ := S
  intro H locs lsC hW hS hn hl
  have e1 : (nI i).toNatClampNeg = i := nI_clamp (by omega)
  refine va_sld hx hb s1 s2 s3 hS (i := nI i) (fun w => ?_) hd ?_
  · rcases w with w | w
    · exact nI_pos (by omega) w
    · rw [e1] at w; omega
  · rw [e1]
    exact kk H locs lsC hW hS hn hl
theorem g_sln (X : gX o γ cc nL own) {bs L : Nat} {xs : Nat → Int32} (S : gScr o γ bs L xs) (hd : decode cc pc = .ok (.arraylength, 1)) (kk : G o γ cells slots n σ (pc + 1) ls (.int (nI L) :: rest)) : G o γ cells slots n σ pc ls (.ref bs :: rest) := by
  obtain ⟨p, l, e, R, s, m, args, below, meth, c, Q⟩ := γ
  obtain ⟨hx, hb, hml, hown, hts, hK, hbase, hlk9, hfx⟩ := X
  obtain ⟨s1, s2, s3⟩ := S
  intro H locs lsC hW hS hn hl
  exact va_slen hx hb s1 s2 s3 hS hd (kk H locs lsC hW hS hn hl)
/-- script[i + k] -/
theorem g_arg (X : gX o γ cc nL own) {bs L i k : Nat} {z : Int} {xs : Nat → Int32} (S : gScr o γ bs L xs) {a1 a2 a3 : Option Value} {t : List (Option Value)} (d0 : decode cc pc = .ok (.aload_n 0, 1)) (d1 : decode cc (pc + 1) = .ok (.iload 4, 2)) (d3 : decode cc (pc + 3) = .ok (.iconst z, 1)) (d4 : decode cc (pc + 4) = .ok (.iadd, 1)) (d5 : decode cc (pc + 5) = .ok (.iaload, 1)) (hz : Int32.ofInt z = nI k) (hi : i + k < L) (_hk : k ≤ 5) (hL : L ≤ 3072)
    (kk : G o γ cells slots n σ (pc + 6) (some (.ref bs) :: a1 :: a2 :: a3 :: some (.int (nI i)) :: t) (.int (xs (i + k)) :: rest)) : G o γ cells slots n σ pc (some (.ref bs) :: a1 :: a2 :: a3 :: some (.int (nI i)) :: t) rest := by
  refine g_aload_0 X d0 ?_
  refine g_iload_4 X d1 ?_
  refine g_iconst X d3 hz ?_
  refine g_iadd X d4 ?_
  rw [nI_add]
  exact g_sld X S d5 hi hL kk
theorem g_zsel (X : gX o γ cc nL own) {x : Int32} (d0 : decode cc pc = .ok (.ifCond .eq 7, 3)) (d3 : decode cc (pc + 3) = .ok (.iconst 1, 1)) (d4 : decode cc (pc + 4) = .ok (.goto 4, 3)) (d7 : decode cc (pc + 7) = .ok (.iconst 0, 1)) (kk : G o γ cells slots n σ (pc + 8) ls (.int (zI (!decide (x = 0))) :: rest)) : G o γ cells slots n σ pc ls (.int x :: rest) := by
  refine g_if_eq X d0 (tgt := pc + 7) (by omega) (fun q => ?_) (fun q => ?_)
  · refine g_iconst X d7 kiconst_0 ?_
    rw [decide_eq_true q] at kk
    exact kk
  · refine g_iconst X d3 kiconst_1 ?_
    refine g_goto X d4 (tgt := pc + 8) (by omega) ?_
    rw [decide_eq_false q] at kk
    exact kk
theorem g_zselL (X : gX o γ cc nL own) {x : Int32} (d0 : decode cc pc = .ok (.ifCond .eq 7, 3)) (d3 : decode cc (pc + 3) = .ok (.lconst 1, 1)) (d4 : decode cc (pc + 4) = .ok (.goto 4, 3)) (d7 : decode cc (pc + 7) = .ok (.lconst 0, 1)) (kk : G o γ cells slots n σ (pc + 8) ls (.long (if x = 0 then lN 0 else lN 1) :: rest)) : G o γ cells slots n σ pc ls (.int x :: rest) := by
  refine g_if_eq X d0 (tgt := pc + 7) (by omega) (fun q => ?_) (fun q => ?_)
  · refine g_lconst (v := lN 0) X d7 rfl ?_
    rw [if_pos q] at kk
    exact kk
  · refine g_lconst (v := lN 1) X d3 rfl ?_
    refine g_goto X d4 (tgt := pc + 8) (by omega) ?_
    rw [if_neg q] at kk
    exact kk
/-- what comes behind a case -/
def lwK (o : gOm) (γ : gCx) (bs i cells slots : Nat) : Prop := ∀ σ' : gSt, (∃ b, Inv b σ') → G o γ (cells + 5) (slots + 30) 116 σ' 2484 [some (.ref bs), some (.ref (ad o 0)), some (.ref (ad o 65)), some (.ref (ad o 115)), some (.int (nI i)), none, none, none] []
end LAW
