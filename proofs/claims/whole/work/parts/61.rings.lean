/-! rings: what a ring is, and the rests, in the reference as in the class -/
def drP (wt : Nat → Nat → Int32) (a c : Nat) : Bool := decide (nI 0 < wt a c)
def rpP (wt : Nat → Nat → Int32) (nv : Nat → Nat → Bool) (a c : Nat) : Bool := nv a c || decide (wt a c < nI 0)
def ringP (wt : Nat → Nat → Int32) (nv : Nat → Nat → Bool) (a b c : Nat) : Bool := (drP wt a b && drP wt a c && rpP wt nv b c) || (drP wt a b && drP wt b c && rpP wt nv a c) || (drP wt a c && drP wt b c && rpP wt nv a b)
/-- what a pair has for rings at first -/
def rst (wt : Nat → Nat → Int32) (nv : Nat → Nat → Bool) (a c : Nat) : Int32 := if nv a c then (1000000 : Int32) else absI (wt a c)
theorem drP_no {wt : Nat → Nat → Int32} {nv : Nat → Nat → Bool} {a c : Nat} (h : nv a c = true → wt a c = nI 0) : drP wt a c = true → rpP wt nv a c = false := by
  intro hd
  have hd := of_decide_eq_true hd
  unfold rpP
  cases hn : nv a c
  · rw [Bool.false_or]
    refine decide_eq_false (fun hl => ?_)
    rw [fa_lt] at hd hl
    omega
  · rw [h hn] at hd
    exact absurd hd (by decide)
theorem ring_C {σ : gSt} {N : Nat} {bk yr : Nat → Nat} {wt : Nat → Nat → Int32} {nv ti ap : Nat → Nat → Bool} (hC : pwC σ N bk yr wt nv ti ap) {a b c : Nat} (ha : a < N) (hb : b < N) (hc : c < N) (h1 : a ≠ b) (h2 : a ≠ c) (h3 : b ≠ c) : ringC σ a b c = ringP wt nv a b c := by
  obtain ⟨x1, x2, x3, x4⟩ := hC a b ha hb h1
  obtain ⟨y1, y2, y3, y4⟩ := hC a c ha hc h2
  obtain ⟨z1, z2, z3, z4⟩ := hC b c hb hc h3
  unfold ringC ringP drw rpl drP rpP
  rw [x1, x2, y1, y2, z1, z2]
theorem rest_C {σ : gSt} {N : Nat} {bk yr : Nat → Nat} {wt : Nat → Nat → Int32} {nv ti ap : Nat → Nat → Bool} (hC : pwC σ N bk yr wt nv ti ap) {k a c : Nat} (ha : a < N) (hc : c < N) (h1 : a ≠ c) : restC σ k a c = rst wt nv a c - σ.1 k (a * 30 + c) := by
  obtain ⟨x1, x2, x3, x4⟩ := hC a c ha hc h1
  unfold restC rst
  rw [x1, x2]
theorem zI_ne (b : Bool) : b = true ↔ ¬ zI b = 0 := by cases b <;> decide
theorem ix30 (a c : Nat) : nI 30 * nI a + nI c = nI (30 * a + c) := by rw [nI_mul, nI_add]
theorem p_isAbove {s : gSt} {N : Nat} {wt : Nat → Nat → Int32} {nv ti ap : Nat → Nat → Bool} (hM : pwM s N wt nv ti ap) (h30 : N ≤ 30) {a c : Nat} (ha : a < N) (hc : c < N) (hne : a ≠ c) {Q : Int32 → Prop} (q : Q (zI (drP wt a c))) : W_X12_isAbove (nI a) (nI c) Q s := by
  unfold W_X12_isAbove
  refine rI_e (ix30 a c) (by omega) ?_
  rw [(hM a c ha hc hne).1]
  by_cases h : wt a c ≤ 0
  · refine bq_t h ?_
    rw [drP, decide_eq_false (show ¬ nI 0 < wt a c from Int32.not_lt.mpr h)] at q
    exact q
  · refine bq_f h ?_
    rw [drP, decide_eq_true (show nI 0 < wt a c from Int32.not_le.mp h)] at q
    exact q
theorem p_isBelow {s : gSt} {N : Nat} {wt : Nat → Nat → Int32} {nv ti ap : Nat → Nat → Bool} (hM : pwM s N wt nv ti ap) (h30 : N ≤ 30) {a c : Nat} (ha : a < N) (hc : c < N) (hne : a ≠ c) {Q : Int32 → Prop} (q : Q (zI (rpP wt nv a c))) : W_X12_isBelow (nI a) (nI c) Q s := by
  unfold W_X12_isBelow
  refine rI_e (ix30 a c) (by omega) ?_
  rw [(hM a c ha hc hne).1]
  by_cases h : wt a c < 0
  · refine bq_t h ?_
    rw [rpP, decide_eq_true (show wt a c < nI 0 from h), Bool.or_true] at q
    exact q
  · refine bq_f h (rI_e (ix30 a c) (by omega) ?_)
    rw [(hM a c ha hc hne).2.1]
    rw [rpP, decide_eq_false (show ¬ wt a c < nI 0 from h), Bool.or_false] at q
    refine br_z (fun e => ?_) (fun e => ?_) <;> rw [e] at q <;> exact q
theorem p_isRing {s : gSt} {N : Nat} {wt : Nat → Nat → Int32} {nv ti ap : Nat → Nat → Bool} (hM : pwM s N wt nv ti ap) (hS : pwS N wt nv ti ap) (h30 : N ≤ 30) {a b c : Nat} (ha : a < N) (hb : b < N) (hc : c < N) (h1 : a ≠ b) (h2 : a ≠ c) (h3 : b ≠ c) {Q : Int32 → Prop} (q : Q (zI (ringP wt nv a b c))) : W_X12_isRing (nI a) (nI b) (nI c) Q s := by
  have x0 := drP_no (hS a b ha hb h1).2.2.2.2.2
  have x1 := drP_no (hS a c ha hc h2).2.2.2.2.2
  have x2 := drP_no (hS b c hb hc h3).2.2.2.2.2
  unfold ringP at q
  unfold W_X12_isRing
  refine p_isAbove hM h30 ha hb h1 (jn_zn (drP wt a b) (zI_ne _) (p_isAbove hM h30 ha hc h2 (jn_zn (drP wt a c) (zI_ne _) (p_isAbove hM h30 hb hc h3 (jn_zn (drP wt b c) (zI_ne _) ?_)))))
  by_cases hs : zI (drP wt a b) + zI (drP wt a c) + zI (drP wt b c) = nI 2
  · refine bq_t hs (p_isBelow hM h30 ha hb h1 (br_z (fun e0 => p_isBelow hM h30 ha hc h2 (br_z (fun e1 => p_isBelow hM h30 hb hc h3 (br_z (fun e2 => ?_) (fun e2 => ?_))) (fun e1 => ?_))) (fun e0 => ?_)))
    · rw [e0, e1, e2] at q
      simp at q; exact q
    · rw [e0, e1, e2] at q
      rw [e2] at x2
      cases d0 : drP wt a b <;> cases d1 : drP wt a c <;> cases d2 : drP wt b c <;> rw [d0, d1, d2] at hs q <;> first | exact q | exact absurd hs (by decide) | exact absurd (x2 d2) (by decide)
    · rw [e0, e1] at q
      rw [e1] at x1
      cases d0 : drP wt a b <;> cases d1 : drP wt a c <;> cases d2 : drP wt b c <;> rw [d0, d1, d2] at hs q <;> first | exact absurd hs (by decide) | exact absurd (x1 d1) (by decide) | (simp at q; exact q)
    · rw [e0] at q
      rw [e0] at x0
      cases d0 : drP wt a b <;> cases d1 : drP wt a c <;> cases d2 : drP wt b c <;> rw [d0, d1, d2] at hs q <;> first | exact absurd hs (by decide) | exact absurd (x0 d0) (by decide) | (simp at q; exact q)
  · refine bq_f hs ?_
    cases d0 : drP wt a b <;> cases d1 : drP wt a c <;> cases d2 : drP wt b c <;> rw [d0, d1, d2] at hs q <;> first | exact absurd (by decide) hs | (simp at q; exact q) | (rw [x0 d0, x1 d1, x2 d2] at q; simp at q; exact q)
