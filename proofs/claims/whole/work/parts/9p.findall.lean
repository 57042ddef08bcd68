/-! all parts among some entries, solved by the reference -/
theorem PrtM.off {t u : gSt} {N : Nat} {p : Nat → Bool} {ks : List Nat} (h : PrtM t N p) (hO : Off ks t u) (hk : 65 ∉ ks ∧ 104 ∉ ks ∧ 105 ∉ ks) : PrtM u N p := by
  unfold PrtM
  rw [(hO.1 65 hk.1).1, (hO.1 105 hk.2.2).1, (hO.1 104 hk.2.1).1]
  exact h
/-- the reference writes a part's heaps -/
theorem p_putHeaps {s : gSt} {k0 : Nat} (hk : lay k0 = (0, 30)) (hkn : k0 ∉ [65, 104, 105, 108]) {N : Nat} {p : Nat → Bool} (h30 : N ≤ 30) (hn : fa_cnt p N ≤ 10) (hP : PrtM s N p) {ch : Nat → Nat} (hch : ∀ j, j < fa_cnt p N → s.1 108 j = nI (ch j) ∧ ch j < 10) {Q : Int64 → gSt → Prop} {v : Int64} {f c : Int32} {K : gSt → Prop}
    (q : ∀ t, Off [k0] s t → (∀ j, j < N → p j = true → t.1 k0 j = nI (memP p N (lp 0 ch (ch (fa_cnt p j))))) → (∀ j, j < N → p j = false → t.1 k0 j = s.1 k0 j) → K t) : ∃ m, L_X12_findAll_104 k0 Q v f c (nI 0) K m (nI 0) s := by
  have kn65 : 65 ∉ [k0] := fun w => hkn (by simp at w; subst w; simp)
  have kn104 : 104 ∉ [k0] := fun w => hkn (by simp at w; subst w; simp)
  have kn105 : 105 ∉ [k0] := fun w => hkn (by simp at w; subst w; simp)
  have kn108 : 108 ∉ [k0] := fun w => hkn (by simp at w; subst w; simp)
  have loop : ∀ (m v1 : Nat) (t : gSt), v1 + m = fa_cnt p N → Off [k0] s t → (∀ w, w < v1 → t.1 k0 (memP p N w) = nI (memP p N (lp 0 ch (ch w)))) → (∀ j, (∀ w, w < v1 → memP p N w ≠ j) → t.1 k0 j = s.1 k0 j) → L_X12_findAll_104 k0 Q v f c (nI 0) K (m + 1) (nI v1) t := by
    intro m
    induction m with
    | zero =>
      intro v1 t hv hO hw hr
      rw [L_X12_findAll_104, (hO.1 65 kn65).1, hP.1]
      refine bq_t (nI_le (by omega) (by omega)) (q t hO (fun j hj hp => ?_) (fun j hj hp => hr j (fun w hw2 e => ?_)))
      · have := hw (fa_cnt p j) (by have := fa_cnt_ltn (n := N) hj hp; omega)
        rw [memP_of hj hp] at this
        exact this
      · have := (memP_in (p := p) (N := N) (i := w) (by omega)).2.1
        rw [e, hp] at this
        cases this
    | succ m ih =>
      intro v1 t hv hO hw hr
      have hvn : v1 < fa_cnt p N := by omega
      have hPt := hP.off hO ⟨kn65, kn104, kn105⟩
      have mv := (memP_in hvn).1
      rw [L_X12_findAll_104, (hO.1 65 kn65).1, hP.1]
      refine bq_f (nI_ge (by omega) (by omega)) (bq_t rfl (rI_i (by omega) ?_))
      rw [hPt.mem hvn]
      refine p_heapNumber rfl hPt hn (ch := ch) (fun j hj => by rw [(hO.1 108 kn108).1]; exact hch j hj) hvn ?_
      rw [hk]
      refine wI_i (by show _ < 30; omega) ?_
      rw [nI_add]
      refine ih (v1 + 1) _ (by omega) (hO.i (by simp)) (fun w hw2 => ?_) (fun j hj => ?_)
      · rw [sI_get]
        by_cases z : memP p N w = memP p N v1
        · have : w = v1 := memP_inj (by omega) hvn z
          rw [if_pos ⟨rfl, z⟩, this]
        · rw [if_neg (fun x => z x.2)]
          by_cases y : w = v1
          · rw [y] at z; exact absurd rfl z
          · exact hw w (by omega)
      · rw [sI_get, if_neg (fun x => hj v1 (by omega) x.2.symm)]
        exact hr j (fun w hw2 => hj w (by omega))
  exact ⟨fa_cnt p N + 1, loop (fa_cnt p N) 0 s (by omega) Off.rf (fun w hw => by omega) (fun j _ => rfl)⟩
abbrev famK : List Nat := [104, 105, 106, 107, 108, 109, 110]
theorem p_findAll {s0 : gSt} {N most : Nat} {wt : Nat → Nat → Int32} {nv ti ap : Nat → Nat → Bool} (hN : s0.1 65 1 = nI N) (h30 : N ≤ 30) (hm30 : most ≤ 30) (hmo : s0.1 65 41 = nI most) (hS : pwS N wt nv ti ap) (hM : pwM s0 N wt nv ti ap) {U : Nat → Bool} (h103 : ∀ j, j < N → s0.1 103 j = zI (U j)) {k0 : Nat} (hk : k0 = 111 ∨ k0 = 112) {Q : Int64 → gSt → Prop}
    (q : ∀ t, Fr (k0 :: famK) refJ s0 t → (∀ v, amF most N U wt ti ap N 0 (lN 0) false = some (v, false) → ∀ j, j < N → U j = true → t.1 k0 j = nI (amH most N wt ti ap (rc N U (hgP wt ti) (lst1 N U (hgP wt ti) j)) j)) → Q (amV (amF most N U wt ti ap N 0 (lN 0) false)) t) : W_X12_findAll k0 Q s0 := by
  have hsy := hgP_sy hS
  have hlay : lay k0 = (0, 30) := by rcases hk with rfl | rfl <;> rfl
  have hkn : k0 ∉ [65, 104, 105, 108] := by rcases hk with rfl | rfl <;> decide
  obtain ⟨R, hRes⟩ : ∃ R, R = amF most N U wt ti ap N 0 (lN 0) false := ⟨_, rfl⟩
  rw [← hRes] at q
  unfold W_X12_findAll
  have loop : ∀ (m i : Nat) (v : Int64) (f : Bool) (s : gSt), i + m = N → Fr (k0 :: famK) refJ s0 s → amK most N U wt ti ap k0 i f s → R = amF most N U wt ti ap m i v f → L_X12_findAll_8 k0 Q (fun y40 y41 s42 => ((y41 = 0 → (Q y40 s42)) ∧ (¬ y41 = 0 → (Q ((-2 : Int64)) s42)))) (m + 1) v (zI f) (nI i) s := by
    intro m
    induction m with
    | zero =>
      intro i v f s hi hO hK hR2
      have hq := q s hO
      rw [L_X12_findAll_8, (hO.2.1 1 (by decide)).1, hN]
      refine bq_t (nI_le (by omega) (by omega)) ?_
      rw [hR2, amF] at hq
      cases f
      · refine bq_t rfl (hq (fun v2 hv2 j hj hu => hK rfl j hj hu (by have := (lst1_le (U := U) (hg := hgP wt ti) hj).2.1; omega)))
      · refine bq_f (by decide) (hq (fun v2 hv2 => ?_))
        simp only [Option.some.injEq, Prod.mk.injEq] at hv2
        exact absurd hv2.2 (by decide)
    | succ m ih =>
      intro i v f s hi hO hK hR2
      have hiN : i < N := by omega
      have hM2 := hM.fr hO (by rcases hk with rfl | rfl <;> decide)
      have h103s : ∀ j, j < N → s.1 103 j = zI (U j) := fun j hj => by rw [(hO.1 103 (by decide) (by rcases hk with rfl | rfl <;> decide)).1]; exact h103 j hj
      rw [L_X12_findAll_8, (hO.2.1 1 (by decide)).1, hN]
      refine bq_f (nI_ge (by omega) (by omega)) (rI_i (by omega) ?_)
      rw [h103s i hiN, nI_add]
      by_cases hu : U i = true
      · rw [hu]
        refine bq_f (by decide) ?_
        obtain ⟨p, hpd⟩ : ∃ p, p = rc N U (hgP wt ti) i := ⟨_, rfl⟩
        have hle := fa_cnt_le p N
        have hcnt : 1 ≤ fa_cnt p N := by rw [hpd]; exact rc_cnt hiN
        refine p_findPart ((hO.2.1 1 (by decide)).1.trans hN) h30 hM2 h103s hiN (fun t f4 h104 h64 h105 => rI_i (by decide) ?_)
        have hlN := (lst1_le (U := U) (hg := hgP wt ti) hiN).2.1
        rw [mem_0 hiN h105]
        rw [← hpd] at h104 h64 h105
        have hP : PrtM t N p := ⟨h64, h105, h104⟩
        have hO4 : Fr (k0 :: famK) refJ s0 t := hO.trans (f4.mono (by simp) (by simp))
        have hk4 : t.1 k0 = s.1 k0 := (f4.1 k0 (by rcases hk with rfl | rfl <;> decide) (by rcases hk with rfl | rfl <;> decide)).1
        refine br_eq (by omega) (by omega) (fun hl => ?_) (fun hl => ?_)
        · have hp : (U i && decide (lst1 N U (hgP wt ti) i = i)) = true := by rw [hu, hl, decide_eq_true rfl]; rfl
          rw [amF, if_pos hp, ← hpd] at hR2
          refine p_bests (by omega) hm30 (hP.mw (hM2.fr f4 (by decide)) h30 ((hO4.2.1 41 (by decide)).1.trans hmo)) (fun i j hj hi => plW_ok hS hj hi) (fun k => ?_) (fun k k2 t2 f2 k70 => ?_) (fun k c hc t2 f2 hB => ?_)
          · refine bq_f (by decide) (fun J18 hJ18 J36 hJ36 => ?_)
            rw [if_pos k] at hR2
            have nx := ih (i + 1) v true t (by omega) hO4 (fun w => by cases w) hR2
            have key : J36 := by
              refine hJ36 (hJ18 _ (fun J20 hJ20 => bq_f (by decide) (hJ20 _ ⟨1, ?_⟩)))
              rw [L_X12_findAll_104, hP.1]
              refine bq_f (nI_ge (by omega) (by omega)) (bq_f (by decide) ?_)
              rw [lN0_add]
              exact nx
            exact ⟨fun _ => bq_t rfl key, fun _ => key⟩
          · refine bq_t rfl ?_
            have hq := q t2 (hO4.trans (f2.mono (by simp) (by simp)))
            rw [if_neg (by omega), show amM most N wt ti ap p = none from k2] at hR2
            rw [hR2] at hq
            exact hq (fun v hv => by cases hv)
          · refine bq_f (by decide) (fun J18 hJ18 J36 hJ36 => ?_)
            have hc2 : amM most N wt ti ap p = some c := hc
            rw [if_neg (by omega), hc2] at hR2
            have hP2 : PrtM t2 N p := by
              unfold PrtM
              rw [(f2.2.1 64 (by decide)).1, (f2.1 105 (by decide) (by decide)).1, (f2.1 104 (by decide) (by decide)).1]
              exact hP
            have hO5 : Fr (k0 :: famK) refJ s0 t2 := hO4.trans (f2.mono (by simp) (by simp))
            have hk5 : t2.1 k0 = s.1 k0 := ((f2.1 k0 (by rcases hk with rfl | rfl <;> decide) (by rcases hk with rfl | rfl <;> decide)).1).trans hk4
            have key : J18 (zI f) := by
              refine hJ18 _ (fun J20 hJ20 => bq_t rfl (hJ20 _ ?_))
              refine p_putHeaps hlay hkn h30 k hP2 hB.2.2.2.2.2.2.2.2.1 (fun t3 hO3 c1 c2 => ?_)
              rw [hB.2.2.2.2.1, ← nI_l (by have := hB.1; omega)]
              refine ih (i + 1) _ f t3 (by omega) (hO5.trans ((Fr.of hO3 (by rcases hk with rfl | rfl <;> decide)).mono (by simp) (js := []) (by simp))) ?_ hR2
              refine hK.step hsy hiN hu hl (fun j hj hpj => ?_) (fun j hj hpj => ?_)
              · rw [← hpd] at hpj ⊢
                rw [c1 j hj hpj, amH, hc2]
                rfl
              · rw [← hpd] at hpj
                rw [c2 j hj hpj, hk5]
            cases f
            · exact bq_t rfl (bq_f (by decide) key)
            · exact bq_f (by decide) (hJ36 key)
        · have hp : (U i && decide (lst1 N U (hgP wt ti) i = i)) = false := by rw [hu, decide_eq_false hl]; rfl
          rw [amF, hp, if_neg (by decide)] at hR2
          exact ih (i + 1) v f t (by omega) hO4 (hK.skip hsy hiN hp hk4) hR2
      · have hu := ts_nt hu
        have hp : (U i && decide (lst1 N U (hgP wt ti) i = i)) = false := by rw [hu]; rfl
        rw [amF, hp, if_neg (by decide)] at hR2
        rw [hu]
        exact bq_t rfl (ih (i + 1) v f s (by omega) hO (hK.skip hsy hiN hp rfl) hR2)
  exact ⟨N + 1, loop N 0 (lN 0) false s0 (by omega) Fr.rf (fun _ j hj hu hl => by omega) hRes⟩
