/-! told -/
theorem fr_w {s0 s : gSt} (f : Fr scrC scrJ s0 s) : Fr (42 :: 43 :: 101 :: scrC) (56 :: 57 :: 60 :: scrJ) s0 s := f.mono (fun _ hk => List.mem_cons_of_mem _ (List.mem_cons_of_mem _ (List.mem_cons_of_mem _ hk))) (fun _ hk => List.mem_cons_of_mem _ (List.mem_cons_of_mem _ (List.mem_cons_of_mem _ hk)))
theorem six_sw {x y z i j : Nat} (hx : x < 30) (hy : y < 30) (hz : z < 30) (hi : i < 30) (hj : j < 30) (h : six x y z (i * 30 + j)) : six x y z (j * 30 + i) := by
  rcases h with h | h | h | h | h | h
  · exact .inr (.inl (by omega))
  · exact .inl (by omega)
  · exact .inr (.inr (.inr (.inl (by omega))))
  · exact .inr (.inr (.inl (by omega)))
  · exact .inr (.inr (.inr (.inr (.inr (by omega)))))
  · exact .inr (.inr (.inr (.inr (.inl (by omega)))))
theorem sub_ad (p q r : Int32) : p - (q + r) = p - q - r := by grind
theorem op_told {b : Bool} {σ : gSt} (hI : Inv b σ) (p r w v : Int32) : OKL (fun Q QX s => W_X11_told p r w v Q QX s) (W_X12_told p r w v) cdP σ := by
  obtain ⟨N, bk, nm, td, yr, fa, most, wt, nv, ti, ap, hd, h30, hEn, ⟨hN, hsz⟩, hm, hh, hS, hC, hM, ⟨R, hs, hG⟩, hnew⟩ := hI.pwG
  have hR := hI.1
  have hN1 := hEn.1
  obtain ⟨g1, g2, g3, g4, g5, g6, g7, g8, g9⟩ := hG
  unfold OKL W_X11_told
  rcases ent_or p N (by omega) with ⟨x, hx, rfl⟩ | ⟨hp, -⟩
  · rcases ent_or r N (by omega) with ⟨y, hy, rfl⟩ | ⟨hr, -⟩
    · rcases ent_or w N (by omega) with ⟨z, hz, rfl⟩ | ⟨hw, -⟩
      · refine q_need hN1 h30 hx (q_need hN1 h30 hy (q_need hN1 h30 hz ?_))
        intro J2 hJ2 J10 hJ10
        have nodist : (x = y ∨ x = z ∨ y = z) → J10 := fun hnd => by
          refine hJ10 (hJ2 _ (q_refuse_no rfl ⟨nI 2, .inr ⟨rfl, rfl⟩, fI_i (p_isE (N := N) hN h30 rfl hx (bq_f (by decide) (p_isE (N := N) hN h30 rfl hy (bq_f (by decide) (p_isE (N := N) hN h30 rfl hz (bq_f (by decide) ?_))))))⟩))
          intro J12 hJ12 J40 hJ40
          have h40 : J40 := hJ40 (hJ12 _ (p_may_bad rfl (by decide) rfl (bq_t rfl (fin.no hI (.inr rfl)))))
          refine br_eq (by omega) (by omega) (fun _ => h40) (fun a => br_eq (by omega) (by omega) (fun _ => h40) (fun c => br_eq (by omega) (by omega) (fun _ => h40) (fun d => ?_)))
          omega
        refine br_eq (by omega) (by omega) (fun e => nodist (.inl e)) (fun n1 => br_eq (by omega) (by omega) (fun e => nodist (.inr (.inr e))) (fun n3 => br_eq (by omega) (by omega) (fun e => nodist (.inr (.inl e))) (fun n2 => ?_)))
        refine hJ2 _ (q_refuse (by decide) (q_within ?_))
        by_cases hv : (!decide (v < nI 1) && !decide ((1000000 : Int32) < v)) = true
        · rw [hv]
          obtain ⟨a, bb, c, hab, hbc, hc, hp⟩ := sort3 x y z n1 n2 n3 hx hy hz
          have us : ∀ i j, i < N → j < N → i ≠ j → rst wt nv i j - σ.1 43 (i * 30 + j) = rst wt nv j i - σ.1 43 (j * 30 + i) := fun i j hi hj hne => by
            rw [g8 i j (by omega) (by omega)]
            unfold rst
            rw [(hS i j hi hj hne).1, (hS i j hi hj hne).2.1]
          have g9b : hs = true → ∀ i j, i < j → j < N → σ.1 101 (30 * i + j) = rst wt nv i j - σ.1 43 (i * 30 + j) := fun e i j h1 h2 => by
            rw [g9 e i j h1 h2, (hC i j (by omega) h2 (by omega)).1, (hC i j (by omega) h2 (by omega)).2.1]; rfl
          have g0b : hs = false → ∀ i j, i < j → j < N → rst wt nv i j = rst wt nv i j - σ.1 43 (i * 30 + j) := fun e i j h1 h2 => by
            rw [g7 (g6 e) (i * 30 + j) (by omega), nI_0, Int32.sub_zero]
          -- the reference, when the class kept all as it was
          have keep : ∀ t, Fr (101 :: scrC) (60 :: scrJ) σ t → t.1 65 60 = nI 1 → (∀ i j, i < j → j < N → t.1 101 (30 * i + j) = rst wt nv i j - σ.1 43 (i * 30 + j)) → Inv b t := fun t f h60 h101 => by
            refine hnew t R true (f.mono (fun k hk => by simp at hk ⊢; rcases hk with hk | hk; exact .inr (.inr (.inl hk)); exact .inr (.inr (.inr hk))) (fun k hk => by simp at hk ⊢; rcases hk with hk | hk; exact .inr (.inr (.inl hk)); exact .inr (.inr (.inr hk)))) ?_
            have e42 := f.1 42 (by decide) (by decide)
            have e43 := (f.1 43 (by decide) (by decide)).1
            refine ⟨by rw [e42.1]; exact g1, by rw [(f.2.1 56 (by decide)).1]; exact g2, g3, by rw [e42.2, (f.2.1 57 (by decide)).2]; exact g4, h60, fun h => by simp at h, fun h j hj => by rw [e43]; exact g7 h j hj, fun i j hi hj => by rw [e43]; exact g8 i j hi hj, fun _ i j h1 h2 => ?_⟩
            rw [h101 i j h1 h2, (f.1 26 (by decide) (by decide)).1, (f.1 24 (by decide) (by decide)).1, e43, (hC i j (by omega) h2 (by omega)).1, (hC i j (by omega) h2 (by omega)).2.1]; rfl
          refine q_refuse (by decide) ⟨_, fun o l => s_isRing hR x y z (by omega) (by omega) (by omega), ?_⟩
          rw [ring_C hC hx hy hz n1 n2 n3, ringP_perm hS hp hab hbc hc]
          have f115 : ∀ v0, Fr [115] [] σ (sL σ 115 0 v0) := fun v0 => Fr.rf.l (by simp) (by decide)
          have o115 : ∀ (v0 : Int64) (ks js : List Nat) (t : gSt), Fr ks js (sL σ 115 0 v0) t → 115 ∉ ks → t.2.1 115 0 = v0 := fun v0 ks js t f hk => by
            rw [(f.1 115 (by decide) hk).2]; simp [sL, vp_updL]
          refine br_z (fun hr => ?_) (fun hr => ⟨_, fun o l => s_canTake hR x y z (by omega) (by omega) (by omega) v, ?_⟩)
          · rintro s2 rfl
            refine p_told (R := R) (hs := hs) (u := fun i j => rst wt nv i j - σ.1 43 (i * 30 + j)) h30 hS hN (fun s Q f q => hM s Q (((f115 _).mono (by decide) (by simp)).trans (fr_w f)) q) hab hbc hc hp hv g2 g3 g5 g9b g0b (fun _ t f t0 => ?_) (fun h => by rw [hr] at h; cases h) (fun h => by rw [hr] at h; cases h)
            exact ⟨t0, fun _ => o115 _ _ _ t f (by decide), b, hI.scr (((f115 _).mono (by decide) (by simp)).trans (f.mono (by decide) (by decide)))⟩
          · have eM : minI (rst wt nv x y - σ.1 43 (x * 30 + y)) (minI (rst wt nv x z - σ.1 43 (x * 30 + z)) (rst wt nv y z - σ.1 43 (y * 30 + z))) = M3 (fun i j => rst wt nv i j - σ.1 43 (i * 30 + j)) a bb c := M3_perm (u := fun i j => rst wt nv i j - σ.1 43 (i * 30 + j)) us hp hab hbc hc
            rw [rest_C hC hx hy n1, rest_C hC hx hz n2, rest_C hC hy hz n3, eM]
            have k2 : ∀ (v0 : Int64) (t : gSt), Fr [86, 90, 91, 92, 93, 101] [0, 60] (sL σ 115 0 v0) t → Fr (101 :: scrC) (60 :: scrJ) σ t := fun v0 t f => ((f115 _).mono (by decide) (by simp)).trans (f.mono (by decide) (by decide))
            refine br_z (fun hno => ?_) (fun hyes => ?_)
            · have hno := of_decide_eq_false hno
              rintro s2 rfl
              refine p_told (R := R) (hs := hs) (u := fun i j => rst wt nv i j - σ.1 43 (i * 30 + j)) h30 hS hN (fun s Q f q => hM s Q (((f115 _).mono (by decide) (by simp)).trans (fr_w f)) q) hab hbc hc hp hv g2 g3 g5 g9b g0b (fun h => by rw [hr] at h; cases h) (fun _ t f t0 h60 h101 => ⟨fun _ => ⟨t0, fun _ => o115 _ _ _ t f (by decide), b, keep t (k2 _ t f) h60 h101⟩, fun hle => absurd hle hno⟩) (fun _ hle => absurd hle hno)
            · have hyes := of_decide_eq_true hyes
              rw [g1]
              refine br_lt (by omega) (by decide) (fun hlt => ?_) (fun hge => ?_)
              · refine ⟨_, fun o l => s_tellRing hR x y z (by omega) (by omega) (by omega) n1 n2 n3 v R g1, fun r s hp2 => ?_⟩
                obtain ⟨rfl, hO, k43, k0, k0b, kl, klb⟩ := hp2
                refine ⟨rfl, hO.2, ?_⟩
                rintro s2 rfl
                rw [kl]
                have fs : Fr [42, 43, 115] [] σ (sL s 115 0 (σ.2.1 42 1 + v.toInt64)) := ((Fr.of (js := []) hO (by decide)).mono (by simp) (by simp)).l (by simp) (by decide)
                refine p_told (R := R) (hs := hs) (u := fun i j => rst wt nv i j - σ.1 43 (i * 30 + j)) h30 hS ((fs.2.1 1 (by simp)).1.trans hN) (fun s Q f q => hM s Q ((fs.mono (by decide) (by simp)).trans (fr_w f)) q) hab hbc hc hp hv ((fs.2.1 56 (by simp)).1.trans g2) g3 ((fs.2.1 60 (by simp)).1.trans g5) (fun e i j h1 h2 => by rw [(fs.1 101 (by decide) (by decide)).1]; exact g9b e i j h1 h2) g0b (fun h => by rw [hr] at h; cases h) (fun _ t f t0 h60 h101 => ⟨fun hn => absurd hyes hn, fun _ h40 => absurd hlt (by omega)⟩) (fun _ _ _ t f t0 h60 h56 h57 h101 => ?_)
                have k6 : ∀ j, six x y z j → s.1 43 j = σ.1 43 j + v := fun j h => by rw [k43]; exact if_pos h
                have k6n : ∀ j, ¬ six x y z j → s.1 43 j = σ.1 43 j := fun j h => by rw [k43]; exact if_neg h
                have e57 : (sL s 115 0 (σ.2.1 42 1 + v.toInt64)).2.1 65 57 = σ.2.1 42 1 := by rw [(fs.2.1 57 (by simp)).2, g4]
                rw [e57] at h57
                have f42 := f.1 42 (by decide) (by decide)
                have f43 : t.1 43 = s.1 43 := (f.1 43 (by decide) (by decide)).1
                refine ⟨t0, fun _ => ?_, b, hnew t (R + 1) true ((fs.mono (by decide) (by simp)).trans (f.mono (by decide) (by decide))) ⟨by rw [f42.1]; exact k0, h56, by omega, ?_, h60, fun h => by simp at h, fun h => by omega, fun i j hi hj => ?_, fun _ i j h1 h2 => ?_⟩⟩
                · rw [(f.1 115 (by decide) (by decide)).2, e57]
                  simp [sL, vp_updL]
                · rw [f42.2, h57]
                  show s.2.1 42 1 = _
                  rw [kl]
                · rw [f43]
                  by_cases hsx : six x y z (i * 30 + j)
                  · rw [k6 _ hsx, k6 _ (six_sw (by omega) (by omega) (by omega) hi hj hsx), g8 i j hi hj]
                  · rw [k6n _ hsx, k6n _ (fun q => hsx (six_sw (by omega) (by omega) (by omega) hj hi q)), g8 i j hi hj]
                · have ff : Fr [42, 43, 86, 90, 91, 92, 93, 101, 115] [0, 56, 57, 60] σ t := (fs.mono (by decide) (by simp)).trans (f.mono (by decide) (by decide))
                  rw [h101 i j h1 h2, f43, (ff.1 26 (by decide) (by decide)).1, (ff.1 24 (by decide) (by decide)).1, (hC i j (by omega) h2 (by omega)).1, (hC i j (by omega) h2 (by omega)).2.1]
                  have six6 := six_iff (i := i) (j := j) hp hab hbc (by omega) h1 (by omega)
                  by_cases hsx : six x y z (i * 30 + j)
                  · rw [if_pos (six6.mp hsx), k6 _ hsx, sub_ad]; rfl
                  · rw [if_neg (fun q => hsx (six6.mpr q)), k6n _ hsx]; rfl
              · rintro s2 rfl
                refine p_told (R := R) (hs := hs) (u := fun i j => rst wt nv i j - σ.1 43 (i * 30 + j)) h30 hS hN (fun s Q f q => hM s Q (((f115 _).mono (by decide) (by simp)).trans (fr_w f)) q) hab hbc hc hp hv g2 g3 g5 g9b g0b (fun h => by rw [hr] at h; cases h) (fun _ t f t0 h60 h101 => ⟨fun hn => absurd hyes hn, fun _ _ => ⟨t0, fun _ => o115 _ _ _ t f (by decide), b, keep t (k2 _ t f) h60 h101⟩⟩) (fun _ _ h => absurd h (by omega))
        · have hv : (!decide (v < nI 1) && !decide ((1000000 : Int32) < v)) = false := by simpa using hv
          rw [hv]
          refine q_refuse_no rfl ⟨nI 2, .inr ⟨rfl, rfl⟩, fI_i (p_isE (N := N) hN h30 rfl hx (bq_f (by decide) (p_isE (N := N) hN h30 rfl hy (bq_f (by decide) (p_isE (N := N) hN h30 rfl hz (bq_f (by decide) ?_))))))⟩
          intro J12 hJ12 J40 hJ40
          have h40 : J40 := hJ40 (hJ12 _ (p_may_bad rfl (by decide) rfl (bq_t rfl (fin.no hI (.inr rfl)))))
          refine br_eq (by omega) (by omega) (fun _ => h40) (fun a => br_eq (by omega) (by omega) (fun _ => h40) (fun c => br_eq (by omega) (by omega) (fun _ => h40) (fun d => p_within ?_)))
          rw [hv]
          exact bq_t rfl h40
      · exact q_need hN1 h30 hx (q_need hN1 h30 hy (q_need_no hN1 h30 hw ⟨nI 1, .inl ⟨rfl, rfl⟩, fI_i (p_isE (N := N) hN h30 rfl hx (bq_f (by decide) (p_isE (N := N) hN h30 rfl hy (bq_f (by decide) (p_isE_no (N := N) hN h30 rfl hw (bq_t rfl (fin.no hI (.inl rfl))))))))⟩))
    · exact q_need hN1 h30 hx (q_need_no hN1 h30 hr ⟨nI 1, .inl ⟨rfl, rfl⟩, fI_i (p_isE (N := N) hN h30 rfl hx (bq_f (by decide) (p_isE_no (N := N) hN h30 rfl hr (bq_t rfl (fin.no hI (.inl rfl))))))⟩)
  · exact q_need_no hN1 h30 hp ⟨nI 1, .inl ⟨rfl, rfl⟩, fI_i (p_isE_no (N := N) hN h30 rfl hp (bq_t rfl (fin.no hI (.inl rfl))))⟩
