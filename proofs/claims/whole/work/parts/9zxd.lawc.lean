/-! the law's cases, one by one -/
section LAWC
variable {o : gOm} {γ : gCx} {cells slots : Nat} {σ : gSt} {rt : Option FieldType} {pst : Option Value → gSt → Prop} {bs L i : Nat} {xs : Nat → Int32} {b : Bool}
theorem lk_0 (X : gX o γ cL_law_ 8 RL) (Y : gE o γ 2048 601024 7293033 116 rt pst) (S : gScr o γ bs L xs) (hst : γ.2.1.stackTraces = false) (hI : Inv b σ) (hi : i + 6 ≤ L) (hL : L ≤ 3072) (hc : cells + 5 ≤ 601024) (hs : slots + 30 ≤ 7293033) (K : lwK o γ bs i cells slots) : G o γ cells slots 116 σ 220 [some (.ref bs), some (.ref (ad o 0)), some (.ref (ad o 65)), some (.ref (ad o 115)), some (.int (nI i)), none, none, none] [] := by
  refine g_aload_1 (pc := 220) X dL_law__220 ?_
  refine g_arg (pc := 221) (k := 1) X S dL_law__221 dL_law__222 dL_law__224 dL_law__225 dL_law__226 kiconst_1 (by omega) (by omega) hL ?_
  refine g_arg (pc := 227) (k := 2) X S dL_law__227 dL_law__228 dL_law__230 dL_law__231 dL_law__232 kiconst_2 (by omega) (by omega) hL ?_
  refine g_arg (pc := 233) (k := 3) X S dL_law__233 dL_law__234 dL_law__236 dL_law__237 dL_law__238 kiconst_3 (by omega) (by omega) hL ?_
  refine g_arg (pc := 239) (k := 4) X S dL_law__239 dL_law__240 dL_law__242 dL_law__243 dL_law__244 kiconst_4 (by omega) (by omega) hL ?_
  refine g_arg (pc := 245) (k := 5) X S dL_law__245 dL_law__246 dL_law__248 dL_law__249 dL_law__250 kiconst_5 (by omega) (by omega) hL ?_
  refine g_aload_3 (pc := 251) X dL_law__251 ?_
  refine g_callSW (pc := 252) X Y dL_law__252 mwL_entry li_L_116 (lL_entry hst hI (xs (i + 1)) (xs (i + 2)) (xs (i + 3)) (xs (i + 4)) (xs (i + 5))) rfl ⟨Nat.le_of_ble_eq_true rfl, Nat.le_of_ble_eq_true rfl⟩ ⟨by omega, by omega⟩ (by exact Nat.le_of_ble_eq_true rfl) rfl (fun k s hp => ?_)
  obtain ⟨⟨b2, hR⟩, h⟩ := hp
  refine g_istore_5 (pc := 255) X dL_law__255 (by decide) rfl ?_
  refine g_aload_2 (pc := 257) X dL_law__257 ?_
  refine g_arg (pc := 258) (k := 1) X S dL_law__258 dL_law__259 dL_law__261 dL_law__262 dL_law__263 kiconst_1 (by omega) (by omega) hL ?_
  refine g_arg (pc := 264) (k := 2) X S dL_law__264 dL_law__265 dL_law__267 dL_law__268 dL_law__269 kiconst_2 (by omega) (by omega) hL ?_
  refine g_arg (pc := 270) (k := 3) X S dL_law__270 dL_law__271 dL_law__273 dL_law__274 dL_law__275 kiconst_3 (by omega) (by omega) hL ?_
  refine g_arg (pc := 276) (k := 4) X S dL_law__276 dL_law__277 dL_law__279 dL_law__280 dL_law__281 kiconst_4 (by omega) (by omega) hL ?_
  refine g_arg (pc := 282) (k := 5) X S dL_law__282 dL_law__283 dL_law__285 dL_law__286 dL_law__287 kiconst_5 (by omega) (by omega) hL ?_
  refine g_callV_I (pc := 288) X Y dL_law__288 miX12_entry li_L_121 (t_X12_entry hR h) rfl (by decide) rfl ⟨_, rfl⟩ rfl ⟨Nat.le_of_ble_eq_true rfl, Nat.le_of_ble_eq_true rfl⟩ (by omega) (by omega) rfl (by exact Nat.le_of_ble_eq_true rfl) (fun w t hp => ?_)
  obtain ⟨hR2, h0, hv, hI2⟩ := hp
  refine g_istore_6 (pc := 291) X dL_law__291 (by decide) rfl ?_
  refine g_aload_2 (pc := 293) X dL_law__293 ?_
  refine g_callV_I (pc := 294) X Y dL_law__294 miX12_thrown li_L_122 (t_X12_thrown hR2 (Q := fun x => x = t.1 65 0) rfl) rfl (by decide) rfl ⟨_, rfl⟩ rfl ⟨Nat.le_of_ble_eq_true rfl, Nat.le_of_ble_eq_true rfl⟩ (by omega) (by omega) rfl (by exact Nat.le_of_ble_eq_true rfl) (fun x s9 hp => ?_)
  obtain ⟨rfl, rfl⟩ := hp
  refine g_iload_5 (pc := 297) X dL_law__297 ?_
  refine g_icmp_eq (pc := 299) X dL_law__299 (tgt := 304) (by decide) (fun _ => ?_) (fun q => absurd h0 q)
  refine g_iload_5 (pc := 304) X dL_law__304 ?_
  have fin : G o γ (cells + 5) (slots + 30) 116 t 321 [some (.ref bs), some (.ref (ad o 0)), some (.ref (ad o 65)), some (.ref (ad o 115)), some (.int (nI i)), some (.int k), some (.int w), none] [] := by
    refine g_goto (pc := 321) X dL_law__321 (tgt := 2484) (by decide) ?_
    refine g_widen (k1 := cells + 5) (k2 := slots + 30) (by omega) (by omega) ?_
    exact g_drop (by simp [lsub]) (K t hI2)
  refine g_if_ne (pc := 306) X dL_law__306 (tgt := 321) (by decide) (fun _ => fin) (fun q => ?_)
  have q0 : k = 0 := by simpa using q
  refine g_aload_3 (pc := 309) X dL_law__309 ?_
  refine g_iconst (pc := 310) X dL_law__310 kiconst_0 ?_
  refine g_laload_n (pc := 311) (a := 0) X dL_law__311 rfl (by decide) rfl (by decide) ?_
  rw [hv q0]
  refine g_iload_6 (pc := 312) X dL_law__312 ?_
  refine g_i2l (pc := 314) X dL_law__314 ?_
  exact g_lcmp_eq (pc := 315) X dL_law__315 dL_law__316 (tgt := 321) (by decide) (fun _ => fin) (fun q => absurd rfl q)
theorem lk_1 (X : gX o γ cL_law_ 8 RL) (Y : gE o γ 2048 601024 7293033 116 rt pst) (S : gScr o γ bs L xs) (hst : γ.2.1.stackTraces = false) (hI : Inv b σ) (hi : i + 6 ≤ L) (hL : L ≤ 3072) (hc : cells + 5 ≤ 601024) (hs : slots + 30 ≤ 7293033) (K : lwK o γ bs i cells slots) : G o γ cells slots 116 σ 324 [some (.ref bs), some (.ref (ad o 0)), some (.ref (ad o 65)), some (.ref (ad o 115)), some (.int (nI i)), none, none, none] [] := by
  refine g_aload_1 (pc := 324) X dL_law__324 ?_
  refine g_arg (pc := 325) (k := 1) X S dL_law__325 dL_law__326 dL_law__328 dL_law__329 dL_law__330 kiconst_1 (by omega) (by omega) hL ?_
  refine g_arg (pc := 331) (k := 2) X S dL_law__331 dL_law__332 dL_law__334 dL_law__335 dL_law__336 kiconst_2 (by omega) (by omega) hL ?_
  refine g_aload_3 (pc := 337) X dL_law__337 ?_
  refine g_callSW (pc := 338) X Y dL_law__338 mwL_of li_L_126 (lL_of hst hI (xs (i + 1)) (xs (i + 2))) rfl ⟨Nat.le_of_ble_eq_true rfl, Nat.le_of_ble_eq_true rfl⟩ ⟨by omega, by omega⟩ (by exact Nat.le_of_ble_eq_true rfl) rfl (fun k s hp => ?_)
  obtain ⟨⟨b2, hR⟩, h⟩ := hp
  refine g_istore_5 (pc := 341) X dL_law__341 (by decide) rfl ?_
  refine g_aload_2 (pc := 343) X dL_law__343 ?_
  refine g_arg (pc := 344) (k := 1) X S dL_law__344 dL_law__345 dL_law__347 dL_law__348 dL_law__349 kiconst_1 (by omega) (by omega) hL ?_
  refine g_arg (pc := 350) (k := 2) X S dL_law__350 dL_law__351 dL_law__353 dL_law__354 dL_law__355 kiconst_2 (by omega) (by omega) hL ?_
  refine g_callV_I (pc := 356) X Y dL_law__356 miX12_of li_L_129 (t_X12_of hR h) rfl (by decide) rfl ⟨_, rfl⟩ rfl ⟨Nat.le_of_ble_eq_true rfl, Nat.le_of_ble_eq_true rfl⟩ (by omega) (by omega) rfl (by exact Nat.le_of_ble_eq_true rfl) (fun w t hp => ?_)
  obtain ⟨hR2, h0, hv, hI2⟩ := hp
  refine g_istore_6 (pc := 359) X dL_law__359 (by decide) rfl ?_
  refine g_aload_2 (pc := 361) X dL_law__361 ?_
  refine g_callV_I (pc := 362) X Y dL_law__362 miX12_thrown li_L_122 (t_X12_thrown hR2 (Q := fun x => x = t.1 65 0) rfl) rfl (by decide) rfl ⟨_, rfl⟩ rfl ⟨Nat.le_of_ble_eq_true rfl, Nat.le_of_ble_eq_true rfl⟩ (by omega) (by omega) rfl (by exact Nat.le_of_ble_eq_true rfl) (fun x s9 hp => ?_)
  obtain ⟨rfl, rfl⟩ := hp
  refine g_iload_5 (pc := 365) X dL_law__365 ?_
  refine g_icmp_eq (pc := 367) X dL_law__367 (tgt := 372) (by decide) (fun _ => ?_) (fun q => absurd h0 q)
  refine g_iload_5 (pc := 372) X dL_law__372 ?_
  have fin : G o γ (cells + 2) (slots + 12) 116 t 389 [some (.ref bs), some (.ref (ad o 0)), some (.ref (ad o 65)), some (.ref (ad o 115)), some (.int (nI i)), some (.int k), some (.int w), none] [] := by
    refine g_goto (pc := 389) X dL_law__389 (tgt := 2484) (by decide) ?_
    refine g_widen (k1 := cells + 5) (k2 := slots + 30) (by omega) (by omega) ?_
    exact g_drop (by simp [lsub]) (K t hI2)
  refine g_if_ne (pc := 374) X dL_law__374 (tgt := 389) (by decide) (fun _ => fin) (fun q => ?_)
  have q0 : k = 0 := by simpa using q
  refine g_aload_3 (pc := 377) X dL_law__377 ?_
  refine g_iconst (pc := 378) X dL_law__378 kiconst_0 ?_
  refine g_laload_n (pc := 379) (a := 0) X dL_law__379 rfl (by decide) rfl (by decide) ?_
  rw [hv q0]
  refine g_iload_6 (pc := 380) X dL_law__380 ?_
  refine g_i2l (pc := 382) X dL_law__382 ?_
  exact g_lcmp_eq (pc := 383) X dL_law__383 dL_law__384 (tgt := 389) (by decide) (fun _ => fin) (fun q => absurd rfl q)
theorem lk_2 (X : gX o γ cL_law_ 8 RL) (Y : gE o γ 2048 601024 7293033 116 rt pst) (S : gScr o γ bs L xs) (hst : γ.2.1.stackTraces = false) (hI : Inv b σ) (hi : i + 6 ≤ L) (hL : L ≤ 3072) (hc : cells + 5 ≤ 601024) (hs : slots + 30 ≤ 7293033) (K : lwK o γ bs i cells slots) : G o γ cells slots 116 σ 392 [some (.ref bs), some (.ref (ad o 0)), some (.ref (ad o 65)), some (.ref (ad o 115)), some (.int (nI i)), none, none, none] [] := by
  refine g_aload_1 (pc := 392) X dL_law__392 ?_
  refine g_arg (pc := 393) (k := 1) X S dL_law__393 dL_law__394 dL_law__396 dL_law__397 dL_law__398 kiconst_1 (by omega) (by omega) hL ?_
  refine g_arg (pc := 399) (k := 2) X S dL_law__399 dL_law__400 dL_law__402 dL_law__403 dL_law__404 kiconst_2 (by omega) (by omega) hL ?_
  refine g_arg (pc := 405) (k := 3) X S dL_law__405 dL_law__406 dL_law__408 dL_law__409 dL_law__410 kiconst_3 (by omega) (by omega) hL ?_
  refine g_aload_3 (pc := 411) X dL_law__411 ?_
  refine g_callSW (pc := 412) X Y dL_law__412 mwL_like li_L_130 (lL_like hst hI (xs (i + 1)) (xs (i + 2)) (xs (i + 3))) rfl ⟨Nat.le_of_ble_eq_true rfl, Nat.le_of_ble_eq_true rfl⟩ ⟨by omega, by omega⟩ (by exact Nat.le_of_ble_eq_true rfl) rfl (fun k s hp => ?_)
  obtain ⟨⟨b2, hR⟩, h⟩ := hp
  refine g_istore_5 (pc := 415) X dL_law__415 (by decide) rfl ?_
  refine g_aload_2 (pc := 417) X dL_law__417 ?_
  refine g_arg (pc := 418) (k := 1) X S dL_law__418 dL_law__419 dL_law__421 dL_law__422 dL_law__423 kiconst_1 (by omega) (by omega) hL ?_
  refine g_arg (pc := 424) (k := 2) X S dL_law__424 dL_law__425 dL_law__427 dL_law__428 dL_law__429 kiconst_2 (by omega) (by omega) hL ?_
  refine g_arg (pc := 430) (k := 3) X S dL_law__430 dL_law__431 dL_law__433 dL_law__434 dL_law__435 kiconst_3 (by omega) (by omega) hL ?_
  refine g_callV_I (pc := 436) X Y dL_law__436 miX12_like li_L_133 (t_X12_like hR h) rfl (by decide) rfl ⟨_, rfl⟩ rfl ⟨Nat.le_of_ble_eq_true rfl, Nat.le_of_ble_eq_true rfl⟩ (by omega) (by omega) rfl (by exact Nat.le_of_ble_eq_true rfl) (fun w t hp => ?_)
  obtain ⟨hR2, h0, hv, hI2⟩ := hp
  refine g_istore_6 (pc := 439) X dL_law__439 (by decide) rfl ?_
  refine g_aload_2 (pc := 441) X dL_law__441 ?_
  refine g_callV_I (pc := 442) X Y dL_law__442 miX12_thrown li_L_122 (t_X12_thrown hR2 (Q := fun x => x = t.1 65 0) rfl) rfl (by decide) rfl ⟨_, rfl⟩ rfl ⟨Nat.le_of_ble_eq_true rfl, Nat.le_of_ble_eq_true rfl⟩ (by omega) (by omega) rfl (by exact Nat.le_of_ble_eq_true rfl) (fun x s9 hp => ?_)
  obtain ⟨rfl, rfl⟩ := hp
  refine g_iload_5 (pc := 445) X dL_law__445 ?_
  refine g_icmp_eq (pc := 447) X dL_law__447 (tgt := 452) (by decide) (fun _ => ?_) (fun q => absurd h0 q)
  refine g_iload_5 (pc := 452) X dL_law__452 ?_
  have fin : G o γ (cells + 3) (slots + 18) 116 t 469 [some (.ref bs), some (.ref (ad o 0)), some (.ref (ad o 65)), some (.ref (ad o 115)), some (.int (nI i)), some (.int k), some (.int w), none] [] := by
    refine g_goto (pc := 469) X dL_law__469 (tgt := 2484) (by decide) ?_
    refine g_widen (k1 := cells + 5) (k2 := slots + 30) (by omega) (by omega) ?_
    exact g_drop (by simp [lsub]) (K t hI2)
  refine g_if_ne (pc := 454) X dL_law__454 (tgt := 469) (by decide) (fun _ => fin) (fun q => ?_)
  have q0 : k = 0 := by simpa using q
  refine g_aload_3 (pc := 457) X dL_law__457 ?_
  refine g_iconst (pc := 458) X dL_law__458 kiconst_0 ?_
  refine g_laload_n (pc := 459) (a := 0) X dL_law__459 rfl (by decide) rfl (by decide) ?_
  rw [hv q0]
  refine g_iload_6 (pc := 460) X dL_law__460 ?_
  refine g_i2l (pc := 462) X dL_law__462 ?_
  exact g_lcmp_eq (pc := 463) X dL_law__463 dL_law__464 (tgt := 469) (by decide) (fun _ => fin) (fun q => absurd rfl q)
theorem lk_3 (X : gX o γ cL_law_ 8 RL) (Y : gE o γ 2048 601024 7293033 116 rt pst) (S : gScr o γ bs L xs) (hst : γ.2.1.stackTraces = false) (hI : Inv b σ) (hi : i + 6 ≤ L) (hL : L ≤ 3072) (hc : cells + 5 ≤ 601024) (hs : slots + 30 ≤ 7293033) (K : lwK o γ bs i cells slots) : G o γ cells slots 116 σ 472 [some (.ref bs), some (.ref (ad o 0)), some (.ref (ad o 65)), some (.ref (ad o 115)), some (.int (nI i)), none, none, none] [] := by
  have hR := hI.1
  have h := op_feed hI (xs (i + 1)) (xs (i + 2)) (xs (i + 3)) (xs (i + 4)) (xs (i + 5))
  unfold OKN at h
  refine g_aload_1 (pc := 472) X dL_law__472 ?_
  refine g_arg (pc := 473) (k := 1) X S dL_law__473 dL_law__474 dL_law__476 dL_law__477 dL_law__478 kiconst_1 (by omega) (by omega) hL ?_
  refine g_arg (pc := 479) (k := 2) X S dL_law__479 dL_law__480 dL_law__482 dL_law__483 dL_law__484 kiconst_2 (by omega) (by omega) hL ?_
  refine g_arg (pc := 485) (k := 3) X S dL_law__485 dL_law__486 dL_law__488 dL_law__489 dL_law__490 kiconst_3 (by omega) (by omega) hL ?_
  refine g_arg (pc := 491) (k := 4) X S dL_law__491 dL_law__492 dL_law__494 dL_law__495 dL_law__496 kiconst_4 (by omega) (by omega) hL ?_
  refine g_arg (pc := 497) (k := 5) X S dL_law__497 dL_law__498 dL_law__500 dL_law__501 dL_law__502 kiconst_5 (by omega) (by omega) hL ?_
  refine g_callV_I (pc := 503) X Y dL_law__503 miX11_feed li_L_134 (t_X11_feed hR h) rfl (by decide) rfl ⟨_, rfl⟩ rfl ⟨Nat.le_of_ble_eq_true rfl, Nat.le_of_ble_eq_true rfl⟩ (by omega) (by omega) rfl (by exact Nat.le_of_ble_eq_true rfl) (fun v s hp => ?_)
  obtain ⟨hR, h⟩ := hp
  refine g_aload_2 (pc := 506) X dL_law__506 ?_
  refine g_arg (pc := 507) (k := 1) X S dL_law__507 dL_law__508 dL_law__510 dL_law__511 dL_law__512 kiconst_1 (by omega) (by omega) hL ?_
  refine g_arg (pc := 513) (k := 2) X S dL_law__513 dL_law__514 dL_law__516 dL_law__517 dL_law__518 kiconst_2 (by omega) (by omega) hL ?_
  refine g_arg (pc := 519) (k := 3) X S dL_law__519 dL_law__520 dL_law__522 dL_law__523 dL_law__524 kiconst_3 (by omega) (by omega) hL ?_
  refine g_arg (pc := 525) (k := 4) X S dL_law__525 dL_law__526 dL_law__528 dL_law__529 dL_law__530 kiconst_4 (by omega) (by omega) hL ?_
  refine g_arg (pc := 531) (k := 5) X S dL_law__531 dL_law__532 dL_law__534 dL_law__535 dL_law__536 kiconst_5 (by omega) (by omega) hL ?_
  refine g_callV_I (pc := 537) X Y dL_law__537 miX12_feed li_L_137 (t_X12_feed hR h) rfl (by decide) rfl ⟨_, rfl⟩ rfl ⟨Nat.le_of_ble_eq_true rfl, Nat.le_of_ble_eq_true rfl⟩ (by omega) (by omega) rfl (by exact Nat.le_of_ble_eq_true rfl) (fun w t hp => ?_)
  obtain ⟨hR2, e, hI2⟩ := hp
  subst e
  have fin : G o γ cells slots 116 t 2484 [some (.ref bs), some (.ref (ad o 0)), some (.ref (ad o 65)), some (.ref (ad o 115)), some (.int (nI i)), none, none, none] [] := g_widen (k1 := cells + 5) (k2 := slots + 30) (by omega) (by omega) (K t hI2)
  exact g_icmp_eq (pc := 540) X dL_law__540 (tgt := 2484) (by decide) (fun _ => fin) (fun q => absurd rfl q)
theorem lk_4 (X : gX o γ cL_law_ 8 RL) (Y : gE o γ 2048 601024 7293033 116 rt pst) (S : gScr o γ bs L xs) (hst : γ.2.1.stackTraces = false) (hI : Inv b σ) (hi : i + 6 ≤ L) (hL : L ≤ 3072) (hc : cells + 5 ≤ 601024) (hs : slots + 30 ≤ 7293033) (K : lwK o γ bs i cells slots) : G o γ cells slots 116 σ 545 [some (.ref bs), some (.ref (ad o 0)), some (.ref (ad o 65)), some (.ref (ad o 115)), some (.int (nI i)), none, none, none] [] := by
  refine g_aload_1 (pc := 545) X dL_law__545 ?_
  refine g_arg (pc := 546) (k := 1) X S dL_law__546 dL_law__547 dL_law__549 dL_law__550 dL_law__551 kiconst_1 (by omega) (by omega) hL ?_
  refine g_aload_3 (pc := 552) X dL_law__552 ?_
  refine g_callSW (pc := 553) X Y dL_law__553 mwL_rules li_L_138 (lL_rules hst hI (xs (i + 1))) rfl ⟨Nat.le_of_ble_eq_true rfl, Nat.le_of_ble_eq_true rfl⟩ ⟨by omega, by omega⟩ (by exact Nat.le_of_ble_eq_true rfl) rfl (fun k s hp => ?_)
  obtain ⟨⟨b2, hR⟩, h⟩ := hp
  refine g_istore_5 (pc := 556) X dL_law__556 (by decide) rfl ?_
  refine g_aload_2 (pc := 558) X dL_law__558 ?_
  refine g_arg (pc := 559) (k := 1) X S dL_law__559 dL_law__560 dL_law__562 dL_law__563 dL_law__564 kiconst_1 (by omega) (by omega) hL ?_
  refine g_callV_I (pc := 565) X Y dL_law__565 miX12_rules li_L_141 (t_X12_rules hR h) rfl (by decide) rfl ⟨_, rfl⟩ rfl ⟨Nat.le_of_ble_eq_true rfl, Nat.le_of_ble_eq_true rfl⟩ (by omega) (by omega) rfl (by exact Nat.le_of_ble_eq_true rfl) (fun w t hp => ?_)
  obtain ⟨hR2, h0, hv, hI2⟩ := hp
  refine g_istore_6 (pc := 568) X dL_law__568 (by decide) rfl ?_
  refine g_aload_2 (pc := 570) X dL_law__570 ?_
  refine g_callV_I (pc := 571) X Y dL_law__571 miX12_thrown li_L_122 (t_X12_thrown hR2 (Q := fun x => x = t.1 65 0) rfl) rfl (by decide) rfl ⟨_, rfl⟩ rfl ⟨Nat.le_of_ble_eq_true rfl, Nat.le_of_ble_eq_true rfl⟩ (by omega) (by omega) rfl (by exact Nat.le_of_ble_eq_true rfl) (fun x s9 hp => ?_)
  obtain ⟨rfl, rfl⟩ := hp
  refine g_iload_5 (pc := 574) X dL_law__574 ?_
  refine g_icmp_eq (pc := 576) X dL_law__576 (tgt := 581) (by decide) (fun _ => ?_) (fun q => absurd h0 q)
  refine g_iload_5 (pc := 581) X dL_law__581 ?_
  have fin : G o γ (cells + 1) (slots + 6) 116 t 598 [some (.ref bs), some (.ref (ad o 0)), some (.ref (ad o 65)), some (.ref (ad o 115)), some (.int (nI i)), some (.int k), some (.int w), none] [] := by
    refine g_goto (pc := 598) X dL_law__598 (tgt := 2484) (by decide) ?_
    refine g_widen (k1 := cells + 5) (k2 := slots + 30) (by omega) (by omega) ?_
    exact g_drop (by simp [lsub]) (K t hI2)
  refine g_if_ne (pc := 583) X dL_law__583 (tgt := 598) (by decide) (fun _ => fin) (fun q => ?_)
  have q0 : k = 0 := by simpa using q
  refine g_aload_3 (pc := 586) X dL_law__586 ?_
  refine g_iconst (pc := 587) X dL_law__587 kiconst_0 ?_
  refine g_laload_n (pc := 588) (a := 0) X dL_law__588 rfl (by decide) rfl (by decide) ?_
  rw [hv q0]
  refine g_iload_6 (pc := 589) X dL_law__589 ?_
  refine g_i2l (pc := 591) X dL_law__591 ?_
  exact g_lcmp_eq (pc := 592) X dL_law__592 dL_law__593 (tgt := 598) (by decide) (fun _ => fin) (fun q => absurd rfl q)
theorem lk_5 (X : gX o γ cL_law_ 8 RL) (Y : gE o γ 2048 601024 7293033 116 rt pst) (S : gScr o γ bs L xs) (hst : γ.2.1.stackTraces = false) (hI : Inv b σ) (hi : i + 6 ≤ L) (hL : L ≤ 3072) (hc : cells + 5 ≤ 601024) (hs : slots + 30 ≤ 7293033) (K : lwK o γ bs i cells slots) : G o γ cells slots 116 σ 601 [some (.ref bs), some (.ref (ad o 0)), some (.ref (ad o 65)), some (.ref (ad o 115)), some (.int (nI i)), none, none, none] [] := by
  have hR := hI.1
  have h := op_fault hI 
  unfold OKN at h
  refine g_aload_1 (pc := 601) X dL_law__601 ?_
  refine g_callV_I (pc := 602) X Y dL_law__602 miX11_fault li_L_142 (t_X11_fault hR h) rfl (by decide) rfl ⟨_, rfl⟩ rfl ⟨Nat.le_of_ble_eq_true rfl, Nat.le_of_ble_eq_true rfl⟩ (by omega) (by omega) rfl (by exact Nat.le_of_ble_eq_true rfl) (fun v s hp => ?_)
  obtain ⟨rfl, h⟩ := hp
  refine g_aload_2 (pc := 605) X dL_law__605 ?_
  refine g_callV_I (pc := 606) X Y dL_law__606 miX12_fault li_L_145 (t_X12_fault hR h) rfl (by decide) rfl ⟨_, rfl⟩ rfl ⟨Nat.le_of_ble_eq_true rfl, Nat.le_of_ble_eq_true rfl⟩ (by omega) (by omega) rfl (by exact Nat.le_of_ble_eq_true rfl) (fun w t hp => ?_)
  obtain ⟨hR2, e, hI2⟩ := hp
  subst e
  have fin : G o γ cells slots 116 t 2484 [some (.ref bs), some (.ref (ad o 0)), some (.ref (ad o 65)), some (.ref (ad o 115)), some (.int (nI i)), none, none, none] [] := g_widen (k1 := cells + 5) (k2 := slots + 30) (by omega) (by omega) (K t hI2)
  exact g_icmp_eq (pc := 609) X dL_law__609 (tgt := 2484) (by decide) (fun _ => fin) (fun q => absurd rfl q)
theorem lk_6 (X : gX o γ cL_law_ 8 RL) (Y : gE o γ 2048 601024 7293033 116 rt pst) (S : gScr o γ bs L xs) (hst : γ.2.1.stackTraces = false) (hI : Inv b σ) (hi : i + 6 ≤ L) (hL : L ≤ 3072) (hc : cells + 5 ≤ 601024) (hs : slots + 30 ≤ 7293033) (K : lwK o γ bs i cells slots) : G o γ cells slots 116 σ 614 [some (.ref bs), some (.ref (ad o 0)), some (.ref (ad o 65)), some (.ref (ad o 115)), some (.int (nI i)), none, none, none] [] := by
  refine g_aload_1 (pc := 614) X dL_law__614 ?_
  refine g_arg (pc := 615) (k := 1) X S dL_law__615 dL_law__616 dL_law__618 dL_law__619 dL_law__620 kiconst_1 (by omega) (by omega) hL ?_
  refine g_arg (pc := 621) (k := 2) X S dL_law__621 dL_law__622 dL_law__624 dL_law__625 dL_law__626 kiconst_2 (by omega) (by omega) hL ?_
  refine g_aload_3 (pc := 627) X dL_law__627 ?_
  refine g_callSW (pc := 628) X Y dL_law__628 mwL_weight li_L_146 (lL_weight hst hI (xs (i + 1)) (xs (i + 2))) rfl ⟨Nat.le_of_ble_eq_true rfl, Nat.le_of_ble_eq_true rfl⟩ ⟨by omega, by omega⟩ (by exact Nat.le_of_ble_eq_true rfl) rfl (fun k s hp => ?_)
  obtain ⟨⟨b2, hR⟩, h⟩ := hp
  refine g_istore_5 (pc := 631) X dL_law__631 (by decide) rfl ?_
  refine g_aload_2 (pc := 633) X dL_law__633 ?_
  refine g_arg (pc := 634) (k := 1) X S dL_law__634 dL_law__635 dL_law__637 dL_law__638 dL_law__639 kiconst_1 (by omega) (by omega) hL ?_
  refine g_arg (pc := 640) (k := 2) X S dL_law__640 dL_law__641 dL_law__643 dL_law__644 dL_law__645 kiconst_2 (by omega) (by omega) hL ?_
  refine g_callV_I (pc := 646) X Y dL_law__646 miX12_weight li_L_148 (t_X12_weight hR h) rfl (by decide) rfl ⟨_, rfl⟩ rfl ⟨Nat.le_of_ble_eq_true rfl, Nat.le_of_ble_eq_true rfl⟩ (by omega) (by omega) rfl (by exact Nat.le_of_ble_eq_true rfl) (fun w t hp => ?_)
  obtain ⟨hR2, h0, hv, hI2⟩ := hp
  refine g_istore_6 (pc := 649) X dL_law__649 (by decide) rfl ?_
  refine g_aload_2 (pc := 651) X dL_law__651 ?_
  refine g_callV_I (pc := 652) X Y dL_law__652 miX12_thrown li_L_122 (t_X12_thrown hR2 (Q := fun x => x = t.1 65 0) rfl) rfl (by decide) rfl ⟨_, rfl⟩ rfl ⟨Nat.le_of_ble_eq_true rfl, Nat.le_of_ble_eq_true rfl⟩ (by omega) (by omega) rfl (by exact Nat.le_of_ble_eq_true rfl) (fun x s9 hp => ?_)
  obtain ⟨rfl, rfl⟩ := hp
  refine g_iload_5 (pc := 655) X dL_law__655 ?_
  refine g_icmp_eq (pc := 657) X dL_law__657 (tgt := 662) (by decide) (fun _ => ?_) (fun q => absurd h0 q)
  refine g_iload_5 (pc := 662) X dL_law__662 ?_
  have fin : G o γ (cells + 3) (slots + 18) 116 t 679 [some (.ref bs), some (.ref (ad o 0)), some (.ref (ad o 65)), some (.ref (ad o 115)), some (.int (nI i)), some (.int k), some (.int w), none] [] := by
    refine g_goto (pc := 679) X dL_law__679 (tgt := 2484) (by decide) ?_
    refine g_widen (k1 := cells + 5) (k2 := slots + 30) (by omega) (by omega) ?_
    exact g_drop (by simp [lsub]) (K t hI2)
  refine g_if_ne (pc := 664) X dL_law__664 (tgt := 679) (by decide) (fun _ => fin) (fun q => ?_)
  have q0 : k = 0 := by simpa using q
  refine g_aload_3 (pc := 667) X dL_law__667 ?_
  refine g_iconst (pc := 668) X dL_law__668 kiconst_0 ?_
  refine g_laload_n (pc := 669) (a := 0) X dL_law__669 rfl (by decide) rfl (by decide) ?_
  rw [hv q0]
  refine g_iload_6 (pc := 670) X dL_law__670 ?_
  refine g_i2l (pc := 672) X dL_law__672 ?_
  exact g_lcmp_eq (pc := 673) X dL_law__673 dL_law__674 (tgt := 679) (by decide) (fun _ => fin) (fun q => absurd rfl q)
theorem lk_7 (X : gX o γ cL_law_ 8 RL) (Y : gE o γ 2048 601024 7293033 116 rt pst) (S : gScr o γ bs L xs) (hst : γ.2.1.stackTraces = false) (hI : Inv b σ) (hi : i + 6 ≤ L) (hL : L ≤ 3072) (hc : cells + 5 ≤ 601024) (hs : slots + 30 ≤ 7293033) (K : lwK o γ bs i cells slots) : G o γ cells slots 116 σ 682 [some (.ref bs), some (.ref (ad o 0)), some (.ref (ad o 65)), some (.ref (ad o 115)), some (.int (nI i)), none, none, none] [] := by
  refine g_aload_1 (pc := 682) X dL_law__682 ?_
  refine g_arg (pc := 683) (k := 1) X S dL_law__683 dL_law__684 dL_law__686 dL_law__687 dL_law__688 kiconst_1 (by omega) (by omega) hL ?_
  refine g_arg (pc := 689) (k := 2) X S dL_law__689 dL_law__690 dL_law__692 dL_law__693 dL_law__694 kiconst_2 (by omega) (by omega) hL ?_
  refine g_aload_3 (pc := 695) X dL_law__695 ?_
  refine g_callSW (pc := 696) X Y dL_law__696 mwL_why li_L_149 (lL_why hst hI (xs (i + 1)) (xs (i + 2))) rfl ⟨Nat.le_of_ble_eq_true rfl, Nat.le_of_ble_eq_true rfl⟩ ⟨by omega, by omega⟩ (by exact Nat.le_of_ble_eq_true rfl) rfl (fun k s hp => ?_)
  obtain ⟨⟨b2, hR⟩, h⟩ := hp
  refine g_istore_5 (pc := 699) X dL_law__699 (by decide) rfl ?_
  refine g_aload_2 (pc := 701) X dL_law__701 ?_
  refine g_arg (pc := 702) (k := 1) X S dL_law__702 dL_law__703 dL_law__705 dL_law__706 dL_law__707 kiconst_1 (by omega) (by omega) hL ?_
  refine g_arg (pc := 708) (k := 2) X S dL_law__708 dL_law__709 dL_law__711 dL_law__712 dL_law__713 kiconst_2 (by omega) (by omega) hL ?_
  refine g_callV_I (pc := 714) X Y dL_law__714 miX12_why li_L_151 (t_X12_why hR h) rfl (by decide) rfl ⟨_, rfl⟩ rfl ⟨Nat.le_of_ble_eq_true rfl, Nat.le_of_ble_eq_true rfl⟩ (by omega) (by omega) rfl (by exact Nat.le_of_ble_eq_true rfl) (fun w t hp => ?_)
  obtain ⟨hR2, h0, hv, hI2⟩ := hp
  refine g_istore_6 (pc := 717) X dL_law__717 (by decide) rfl ?_
  refine g_aload_2 (pc := 719) X dL_law__719 ?_
  refine g_callV_I (pc := 720) X Y dL_law__720 miX12_thrown li_L_122 (t_X12_thrown hR2 (Q := fun x => x = t.1 65 0) rfl) rfl (by decide) rfl ⟨_, rfl⟩ rfl ⟨Nat.le_of_ble_eq_true rfl, Nat.le_of_ble_eq_true rfl⟩ (by omega) (by omega) rfl (by exact Nat.le_of_ble_eq_true rfl) (fun x s9 hp => ?_)
  obtain ⟨rfl, rfl⟩ := hp
  refine g_iload_5 (pc := 723) X dL_law__723 ?_
  refine g_icmp_eq (pc := 725) X dL_law__725 (tgt := 730) (by decide) (fun _ => ?_) (fun q => absurd h0 q)
  refine g_iload_5 (pc := 730) X dL_law__730 ?_
  have fin : G o γ (cells + 3) (slots + 18) 116 t 747 [some (.ref bs), some (.ref (ad o 0)), some (.ref (ad o 65)), some (.ref (ad o 115)), some (.int (nI i)), some (.int k), some (.int w), none] [] := by
    refine g_goto (pc := 747) X dL_law__747 (tgt := 2484) (by decide) ?_
    refine g_widen (k1 := cells + 5) (k2 := slots + 30) (by omega) (by omega) ?_
    exact g_drop (by simp [lsub]) (K t hI2)
  refine g_if_ne (pc := 732) X dL_law__732 (tgt := 747) (by decide) (fun _ => fin) (fun q => ?_)
  have q0 : k = 0 := by simpa using q
  refine g_aload_3 (pc := 735) X dL_law__735 ?_
  refine g_iconst (pc := 736) X dL_law__736 kiconst_0 ?_
  refine g_laload_n (pc := 737) (a := 0) X dL_law__737 rfl (by decide) rfl (by decide) ?_
  rw [hv q0]
  refine g_iload_6 (pc := 738) X dL_law__738 ?_
  refine g_i2l (pc := 740) X dL_law__740 ?_
  exact g_lcmp_eq (pc := 741) X dL_law__741 dL_law__742 (tgt := 747) (by decide) (fun _ => fin) (fun q => absurd rfl q)
theorem lk_8 (X : gX o γ cL_law_ 8 RL) (Y : gE o γ 2048 601024 7293033 116 rt pst) (S : gScr o γ bs L xs) (hst : γ.2.1.stackTraces = false) (hI : Inv b σ) (hi : i + 6 ≤ L) (hL : L ≤ 3072) (hc : cells + 5 ≤ 601024) (hs : slots + 30 ≤ 7293033) (K : lwK o γ bs i cells slots) : G o γ cells slots 116 σ 750 [some (.ref bs), some (.ref (ad o 0)), some (.ref (ad o 65)), some (.ref (ad o 115)), some (.int (nI i)), none, none, none] [] := by
  refine g_aload_1 (pc := 750) X dL_law__750 ?_
  refine g_arg (pc := 751) (k := 1) X S dL_law__751 dL_law__752 dL_law__754 dL_law__755 dL_law__756 kiconst_1 (by omega) (by omega) hL ?_
  refine g_arg (pc := 757) (k := 2) X S dL_law__757 dL_law__758 dL_law__760 dL_law__761 dL_law__762 kiconst_2 (by omega) (by omega) hL ?_
  refine g_arg (pc := 763) (k := 3) X S dL_law__763 dL_law__764 dL_law__766 dL_law__767 dL_law__768 kiconst_3 (by omega) (by omega) hL ?_
  refine g_aload_3 (pc := 769) X dL_law__769 ?_
  refine g_callSW (pc := 770) X Y dL_law__770 mwL_weigh li_L_152 (lL_weigh hst hI (xs (i + 1)) (xs (i + 2)) (xs (i + 3))) rfl ⟨Nat.le_of_ble_eq_true rfl, Nat.le_of_ble_eq_true rfl⟩ ⟨by omega, by omega⟩ (by exact Nat.le_of_ble_eq_true rfl) rfl (fun k s hp => ?_)
  obtain ⟨⟨b2, hR⟩, h⟩ := hp
  refine g_istore_5 (pc := 773) X dL_law__773 (by decide) rfl ?_
  refine g_aload_2 (pc := 775) X dL_law__775 ?_
  refine g_arg (pc := 776) (k := 1) X S dL_law__776 dL_law__777 dL_law__779 dL_law__780 dL_law__781 kiconst_1 (by omega) (by omega) hL ?_
  refine g_arg (pc := 782) (k := 2) X S dL_law__782 dL_law__783 dL_law__785 dL_law__786 dL_law__787 kiconst_2 (by omega) (by omega) hL ?_
  refine g_arg (pc := 788) (k := 3) X S dL_law__788 dL_law__789 dL_law__791 dL_law__792 dL_law__793 kiconst_3 (by omega) (by omega) hL ?_
  refine g_callV_I (pc := 794) X Y dL_law__794 miX12_weigh li_L_154 (t_X12_weigh hR h) rfl (by decide) rfl ⟨_, rfl⟩ rfl ⟨Nat.le_of_ble_eq_true rfl, Nat.le_of_ble_eq_true rfl⟩ (by omega) (by omega) rfl (by exact Nat.le_of_ble_eq_true rfl) (fun w t hp => ?_)
  obtain ⟨hR2, h0, hv, hI2⟩ := hp
  refine g_istore_6 (pc := 797) X dL_law__797 (by decide) rfl ?_
  refine g_aload_2 (pc := 799) X dL_law__799 ?_
  refine g_callV_I (pc := 800) X Y dL_law__800 miX12_thrown li_L_122 (t_X12_thrown hR2 (Q := fun x => x = t.1 65 0) rfl) rfl (by decide) rfl ⟨_, rfl⟩ rfl ⟨Nat.le_of_ble_eq_true rfl, Nat.le_of_ble_eq_true rfl⟩ (by omega) (by omega) rfl (by exact Nat.le_of_ble_eq_true rfl) (fun x s9 hp => ?_)
  obtain ⟨rfl, rfl⟩ := hp
  refine g_iload_5 (pc := 803) X dL_law__803 ?_
  refine g_icmp_eq (pc := 805) X dL_law__805 (tgt := 810) (by decide) (fun _ => ?_) (fun q => absurd h0 q)
  refine g_iload_5 (pc := 810) X dL_law__810 ?_
  have fin : G o γ (cells + 4) (slots + 24) 116 t 827 [some (.ref bs), some (.ref (ad o 0)), some (.ref (ad o 65)), some (.ref (ad o 115)), some (.int (nI i)), some (.int k), some (.int w), none] [] := by
    refine g_goto (pc := 827) X dL_law__827 (tgt := 2484) (by decide) ?_
    refine g_widen (k1 := cells + 5) (k2 := slots + 30) (by omega) (by omega) ?_
    exact g_drop (by simp [lsub]) (K t hI2)
  refine g_if_ne (pc := 812) X dL_law__812 (tgt := 827) (by decide) (fun _ => fin) (fun q => ?_)
  have q0 : k = 0 := by simpa using q
  refine g_aload_3 (pc := 815) X dL_law__815 ?_
  refine g_iconst (pc := 816) X dL_law__816 kiconst_0 ?_
  refine g_laload_n (pc := 817) (a := 0) X dL_law__817 rfl (by decide) rfl (by decide) ?_
  rw [hv q0]
  refine g_iload_6 (pc := 818) X dL_law__818 ?_
  refine g_i2l (pc := 820) X dL_law__820 ?_
  exact g_lcmp_eq (pc := 821) X dL_law__821 dL_law__822 (tgt := 827) (by decide) (fun _ => fin) (fun q => absurd rfl q)
theorem lk_9 (X : gX o γ cL_law_ 8 RL) (Y : gE o γ 2048 601024 7293033 116 rt pst) (S : gScr o γ bs L xs) (hst : γ.2.1.stackTraces = false) (hI : Inv b σ) (hi : i + 6 ≤ L) (hL : L ≤ 3072) (hc : cells + 5 ≤ 601024) (hs : slots + 30 ≤ 7293033) (K : lwK o γ bs i cells slots) : G o γ cells slots 116 σ 830 [some (.ref bs), some (.ref (ad o 0)), some (.ref (ad o 65)), some (.ref (ad o 115)), some (.int (nI i)), none, none, none] [] := by
  refine g_aload_1 (pc := 830) X dL_law__830 ?_
  refine g_arg (pc := 831) (k := 1) X S dL_law__831 dL_law__832 dL_law__834 dL_law__835 dL_law__836 kiconst_1 (by omega) (by omega) hL ?_
  refine g_arg (pc := 837) (k := 2) X S dL_law__837 dL_law__838 dL_law__840 dL_law__841 dL_law__842 kiconst_2 (by omega) (by omega) hL ?_
  refine g_aload_3 (pc := 843) X dL_law__843 ?_
  refine g_callSW (pc := 844) X Y dL_law__844 mwL_forget li_L_155 (lL_forget hst hI (xs (i + 1)) (xs (i + 2))) rfl ⟨Nat.le_of_ble_eq_true rfl, Nat.le_of_ble_eq_true rfl⟩ ⟨by omega, by omega⟩ (by exact Nat.le_of_ble_eq_true rfl) rfl (fun k s hp => ?_)
  obtain ⟨⟨b2, hR⟩, h⟩ := hp
  refine g_istore_5 (pc := 847) X dL_law__847 (by decide) rfl ?_
  refine g_aload_2 (pc := 849) X dL_law__849 ?_
  refine g_arg (pc := 850) (k := 1) X S dL_law__850 dL_law__851 dL_law__853 dL_law__854 dL_law__855 kiconst_1 (by omega) (by omega) hL ?_
  refine g_arg (pc := 856) (k := 2) X S dL_law__856 dL_law__857 dL_law__859 dL_law__860 dL_law__861 kiconst_2 (by omega) (by omega) hL ?_
  refine g_callV_I (pc := 862) X Y dL_law__862 miX12_forget li_L_157 (t_X12_forget hR h) rfl (by decide) rfl ⟨_, rfl⟩ rfl ⟨Nat.le_of_ble_eq_true rfl, Nat.le_of_ble_eq_true rfl⟩ (by omega) (by omega) rfl (by exact Nat.le_of_ble_eq_true rfl) (fun w t hp => ?_)
  obtain ⟨hR2, h0, hv, hI2⟩ := hp
  refine g_istore_6 (pc := 865) X dL_law__865 (by decide) rfl ?_
  refine g_aload_2 (pc := 867) X dL_law__867 ?_
  refine g_callV_I (pc := 868) X Y dL_law__868 miX12_thrown li_L_122 (t_X12_thrown hR2 (Q := fun x => x = t.1 65 0) rfl) rfl (by decide) rfl ⟨_, rfl⟩ rfl ⟨Nat.le_of_ble_eq_true rfl, Nat.le_of_ble_eq_true rfl⟩ (by omega) (by omega) rfl (by exact Nat.le_of_ble_eq_true rfl) (fun x s9 hp => ?_)
  obtain ⟨rfl, rfl⟩ := hp
  refine g_iload_5 (pc := 871) X dL_law__871 ?_
  refine g_icmp_eq (pc := 873) X dL_law__873 (tgt := 878) (by decide) (fun _ => ?_) (fun q => absurd h0 q)
  refine g_iload_5 (pc := 878) X dL_law__878 ?_
  have fin : G o γ (cells + 3) (slots + 18) 116 t 895 [some (.ref bs), some (.ref (ad o 0)), some (.ref (ad o 65)), some (.ref (ad o 115)), some (.int (nI i)), some (.int k), some (.int w), none] [] := by
    refine g_goto (pc := 895) X dL_law__895 (tgt := 2484) (by decide) ?_
    refine g_widen (k1 := cells + 5) (k2 := slots + 30) (by omega) (by omega) ?_
    exact g_drop (by simp [lsub]) (K t hI2)
  refine g_if_ne (pc := 880) X dL_law__880 (tgt := 895) (by decide) (fun _ => fin) (fun q => ?_)
  have q0 : k = 0 := by simpa using q
  refine g_aload_3 (pc := 883) X dL_law__883 ?_
  refine g_iconst (pc := 884) X dL_law__884 kiconst_0 ?_
  refine g_laload_n (pc := 885) (a := 0) X dL_law__885 rfl (by decide) rfl (by decide) ?_
  rw [hv q0]
  refine g_iload_6 (pc := 886) X dL_law__886 ?_
  refine g_i2l (pc := 888) X dL_law__888 ?_
  exact g_lcmp_eq (pc := 889) X dL_law__889 dL_law__890 (tgt := 895) (by decide) (fun _ => fin) (fun q => absurd rfl q)
theorem lk_10 (X : gX o γ cL_law_ 8 RL) (Y : gE o γ 2048 601024 7293033 116 rt pst) (S : gScr o γ bs L xs) (hst : γ.2.1.stackTraces = false) (hI : Inv b σ) (hi : i + 6 ≤ L) (hL : L ≤ 3072) (hc : cells + 5 ≤ 601024) (hs : slots + 30 ≤ 7293033) (K : lwK o γ bs i cells slots) : G o γ cells slots 116 σ 898 [some (.ref bs), some (.ref (ad o 0)), some (.ref (ad o 65)), some (.ref (ad o 115)), some (.int (nI i)), none, none, none] [] := by
  refine g_aload_1 (pc := 898) X dL_law__898 ?_
  refine g_arg (pc := 899) (k := 1) X S dL_law__899 dL_law__900 dL_law__902 dL_law__903 dL_law__904 kiconst_1 (by omega) (by omega) hL ?_
  refine g_arg (pc := 905) (k := 2) X S dL_law__905 dL_law__906 dL_law__908 dL_law__909 dL_law__910 kiconst_2 (by omega) (by omega) hL ?_
  refine g_aload_3 (pc := 911) X dL_law__911 ?_
  refine g_callSW (pc := 912) X Y dL_law__912 mwL_law li_L_158 (lL_law hst hI (xs (i + 1)) (xs (i + 2))) rfl ⟨Nat.le_of_ble_eq_true rfl, Nat.le_of_ble_eq_true rfl⟩ ⟨by omega, by omega⟩ (by exact Nat.le_of_ble_eq_true rfl) rfl (fun k s hp => ?_)
  obtain ⟨⟨b2, hR⟩, h⟩ := hp
  refine g_istore_5 (pc := 915) X dL_law__915 (by decide) rfl ?_
  refine g_aload_2 (pc := 917) X dL_law__917 ?_
  refine g_arg (pc := 918) (k := 1) X S dL_law__918 dL_law__919 dL_law__921 dL_law__922 dL_law__923 kiconst_1 (by omega) (by omega) hL ?_
  refine g_arg (pc := 924) (k := 2) X S dL_law__924 dL_law__925 dL_law__927 dL_law__928 dL_law__929 kiconst_2 (by omega) (by omega) hL ?_
  refine g_callV_I (pc := 930) X Y dL_law__930 miX12_law li_L_160 (t_X12_law hR h) rfl (by decide) rfl ⟨_, rfl⟩ rfl ⟨Nat.le_of_ble_eq_true rfl, Nat.le_of_ble_eq_true rfl⟩ (by omega) (by omega) rfl (by exact Nat.le_of_ble_eq_true rfl) (fun w t hp => ?_)
  obtain ⟨hR2, h0, hv, hI2⟩ := hp
  refine g_istore_6 (pc := 933) X dL_law__933 (by decide) rfl ?_
  refine g_aload_2 (pc := 935) X dL_law__935 ?_
  refine g_callV_I (pc := 936) X Y dL_law__936 miX12_thrown li_L_122 (t_X12_thrown hR2 (Q := fun x => x = t.1 65 0) rfl) rfl (by decide) rfl ⟨_, rfl⟩ rfl ⟨Nat.le_of_ble_eq_true rfl, Nat.le_of_ble_eq_true rfl⟩ (by omega) (by omega) rfl (by exact Nat.le_of_ble_eq_true rfl) (fun x s9 hp => ?_)
  obtain ⟨rfl, rfl⟩ := hp
  refine g_iload_5 (pc := 939) X dL_law__939 ?_
  refine g_icmp_eq (pc := 941) X dL_law__941 (tgt := 946) (by decide) (fun _ => ?_) (fun q => absurd h0 q)
  refine g_iload_5 (pc := 946) X dL_law__946 ?_
  have fin : G o γ (cells + 2) (slots + 12) 116 t 963 [some (.ref bs), some (.ref (ad o 0)), some (.ref (ad o 65)), some (.ref (ad o 115)), some (.int (nI i)), some (.int k), some (.int w), none] [] := by
    refine g_goto (pc := 963) X dL_law__963 (tgt := 2484) (by decide) ?_
    refine g_widen (k1 := cells + 5) (k2 := slots + 30) (by omega) (by omega) ?_
    exact g_drop (by simp [lsub]) (K t hI2)
  refine g_if_ne (pc := 948) X dL_law__948 (tgt := 963) (by decide) (fun _ => fin) (fun q => ?_)
  have q0 : k = 0 := by simpa using q
  refine g_aload_3 (pc := 951) X dL_law__951 ?_
  refine g_iconst (pc := 952) X dL_law__952 kiconst_0 ?_
  refine g_laload_n (pc := 953) (a := 0) X dL_law__953 rfl (by decide) rfl (by decide) ?_
  rw [hv q0]
  refine g_iload_6 (pc := 954) X dL_law__954 ?_
  refine g_i2l (pc := 956) X dL_law__956 ?_
  exact g_lcmp_eq (pc := 957) X dL_law__957 dL_law__958 (tgt := 963) (by decide) (fun _ => fin) (fun q => absurd rfl q)
theorem lk_11 (X : gX o γ cL_law_ 8 RL) (Y : gE o γ 2048 601024 7293033 116 rt pst) (S : gScr o γ bs L xs) (hst : γ.2.1.stackTraces = false) (hI : Inv b σ) (hi : i + 6 ≤ L) (hL : L ≤ 3072) (hc : cells + 5 ≤ 601024) (hs : slots + 30 ≤ 7293033) (K : lwK o γ bs i cells slots) : G o γ cells slots 116 σ 966 [some (.ref bs), some (.ref (ad o 0)), some (.ref (ad o 65)), some (.ref (ad o 115)), some (.int (nI i)), none, none, none] [] := by
  refine g_aload_1 (pc := 966) X dL_law__966 ?_
  refine g_arg (pc := 967) (k := 1) X S dL_law__967 dL_law__968 dL_law__970 dL_law__971 dL_law__972 kiconst_1 (by omega) (by omega) hL ?_
  refine g_arg (pc := 973) (k := 2) X S dL_law__973 dL_law__974 dL_law__976 dL_law__977 dL_law__978 kiconst_2 (by omega) (by omega) hL ?_
  refine g_arg (pc := 979) (k := 3) X S dL_law__979 dL_law__980 dL_law__982 dL_law__983 dL_law__984 kiconst_3 (by omega) (by omega) hL ?_
  refine g_zsel (pc := 985) X dL_law__985 dL_law__988 dL_law__989 dL_law__992 ?_
  refine g_aload_3 (pc := 993) X dL_law__993 ?_
  refine g_callSW (pc := 994) X Y dL_law__994 mwL_fix li_L_161 (lL_fix hst hI (xs (i + 1)) (xs (i + 2)) (!decide ((xs (i + 3)) = 0))) rfl ⟨Nat.le_of_ble_eq_true rfl, Nat.le_of_ble_eq_true rfl⟩ ⟨by omega, by omega⟩ (by exact Nat.le_of_ble_eq_true rfl) rfl (fun k s hp => ?_)
  obtain ⟨⟨b2, hR⟩, h⟩ := hp
  refine g_istore_5 (pc := 997) X dL_law__997 (by decide) rfl ?_
  refine g_aload_2 (pc := 999) X dL_law__999 ?_
  refine g_arg (pc := 1000) (k := 1) X S dL_law__1000 dL_law__1001 dL_law__1003 dL_law__1004 dL_law__1005 kiconst_1 (by omega) (by omega) hL ?_
  refine g_arg (pc := 1006) (k := 2) X S dL_law__1006 dL_law__1007 dL_law__1009 dL_law__1010 dL_law__1011 kiconst_2 (by omega) (by omega) hL ?_
  refine g_arg (pc := 1012) (k := 3) X S dL_law__1012 dL_law__1013 dL_law__1015 dL_law__1016 dL_law__1017 kiconst_3 (by omega) (by omega) hL ?_
  refine g_zsel (pc := 1018) X dL_law__1018 dL_law__1021 dL_law__1022 dL_law__1025 ?_
  refine g_callV_I (pc := 1026) X Y dL_law__1026 miX12_fix li_L_164 (t_X12_fix hR h) rfl (by decide) rfl ⟨_, rfl⟩ rfl ⟨Nat.le_of_ble_eq_true rfl, Nat.le_of_ble_eq_true rfl⟩ (by omega) (by omega) rfl (by exact Nat.le_of_ble_eq_true rfl) (fun w t hp => ?_)
  obtain ⟨hR2, h0, hv, hI2⟩ := hp
  refine g_istore_6 (pc := 1029) X dL_law__1029 (by decide) rfl ?_
  refine g_aload_2 (pc := 1031) X dL_law__1031 ?_
  refine g_callV_I (pc := 1032) X Y dL_law__1032 miX12_thrown li_L_122 (t_X12_thrown hR2 (Q := fun x => x = t.1 65 0) rfl) rfl (by decide) rfl ⟨_, rfl⟩ rfl ⟨Nat.le_of_ble_eq_true rfl, Nat.le_of_ble_eq_true rfl⟩ (by omega) (by omega) rfl (by exact Nat.le_of_ble_eq_true rfl) (fun x s9 hp => ?_)
  obtain ⟨rfl, rfl⟩ := hp
  refine g_iload_5 (pc := 1035) X dL_law__1035 ?_
  refine g_icmp_eq (pc := 1037) X dL_law__1037 (tgt := 1042) (by decide) (fun _ => ?_) (fun q => absurd h0 q)
  refine g_iload_5 (pc := 1042) X dL_law__1042 ?_
  have fin : G o γ (cells + 3) (slots + 18) 116 t 1059 [some (.ref bs), some (.ref (ad o 0)), some (.ref (ad o 65)), some (.ref (ad o 115)), some (.int (nI i)), some (.int k), some (.int w), none] [] := by
    refine g_goto (pc := 1059) X dL_law__1059 (tgt := 2484) (by decide) ?_
    refine g_widen (k1 := cells + 5) (k2 := slots + 30) (by omega) (by omega) ?_
    exact g_drop (by simp [lsub]) (K t hI2)
  refine g_if_ne (pc := 1044) X dL_law__1044 (tgt := 1059) (by decide) (fun _ => fin) (fun q => ?_)
  have q0 : k = 0 := by simpa using q
  refine g_aload_3 (pc := 1047) X dL_law__1047 ?_
  refine g_iconst (pc := 1048) X dL_law__1048 kiconst_0 ?_
  refine g_laload_n (pc := 1049) (a := 0) X dL_law__1049 rfl (by decide) rfl (by decide) ?_
  rw [hv q0]
  refine g_iload_6 (pc := 1050) X dL_law__1050 ?_
  refine g_i2l (pc := 1052) X dL_law__1052 ?_
  exact g_lcmp_eq (pc := 1053) X dL_law__1053 dL_law__1054 (tgt := 1059) (by decide) (fun _ => fin) (fun q => absurd rfl q)
theorem lk_12 (X : gX o γ cL_law_ 8 RL) (Y : gE o γ 2048 601024 7293033 116 rt pst) (S : gScr o γ bs L xs) (hst : γ.2.1.stackTraces = false) (hI : Inv b σ) (hi : i + 6 ≤ L) (hL : L ≤ 3072) (hc : cells + 5 ≤ 601024) (hs : slots + 30 ≤ 7293033) (K : lwK o γ bs i cells slots) : G o γ cells slots 116 σ 1062 [some (.ref bs), some (.ref (ad o 0)), some (.ref (ad o 65)), some (.ref (ad o 115)), some (.int (nI i)), none, none, none] [] := by
  refine g_aload_1 (pc := 1062) X dL_law__1062 ?_
  refine g_arg (pc := 1063) (k := 1) X S dL_law__1063 dL_law__1064 dL_law__1066 dL_law__1067 dL_law__1068 kiconst_1 (by omega) (by omega) hL ?_
  refine g_arg (pc := 1069) (k := 2) X S dL_law__1069 dL_law__1070 dL_law__1072 dL_law__1073 dL_law__1074 kiconst_2 (by omega) (by omega) hL ?_
  refine g_aload_3 (pc := 1075) X dL_law__1075 ?_
  refine g_callSW (pc := 1076) X Y dL_law__1076 mwL_loose li_L_165 (lL_loose hst hI (xs (i + 1)) (xs (i + 2))) rfl ⟨Nat.le_of_ble_eq_true rfl, Nat.le_of_ble_eq_true rfl⟩ ⟨by omega, by omega⟩ (by exact Nat.le_of_ble_eq_true rfl) rfl (fun k s hp => ?_)
  obtain ⟨⟨b2, hR⟩, h⟩ := hp
  refine g_istore_5 (pc := 1079) X dL_law__1079 (by decide) rfl ?_
  refine g_aload_2 (pc := 1081) X dL_law__1081 ?_
  refine g_arg (pc := 1082) (k := 1) X S dL_law__1082 dL_law__1083 dL_law__1085 dL_law__1086 dL_law__1087 kiconst_1 (by omega) (by omega) hL ?_
  refine g_arg (pc := 1088) (k := 2) X S dL_law__1088 dL_law__1089 dL_law__1091 dL_law__1092 dL_law__1093 kiconst_2 (by omega) (by omega) hL ?_
  refine g_callV_I (pc := 1094) X Y dL_law__1094 miX12_loose li_L_167 (t_X12_loose hR h) rfl (by decide) rfl ⟨_, rfl⟩ rfl ⟨Nat.le_of_ble_eq_true rfl, Nat.le_of_ble_eq_true rfl⟩ (by omega) (by omega) rfl (by exact Nat.le_of_ble_eq_true rfl) (fun w t hp => ?_)
  obtain ⟨hR2, h0, hv, hI2⟩ := hp
  refine g_istore_6 (pc := 1097) X dL_law__1097 (by decide) rfl ?_
  refine g_aload_2 (pc := 1099) X dL_law__1099 ?_
  refine g_callV_I (pc := 1100) X Y dL_law__1100 miX12_thrown li_L_122 (t_X12_thrown hR2 (Q := fun x => x = t.1 65 0) rfl) rfl (by decide) rfl ⟨_, rfl⟩ rfl ⟨Nat.le_of_ble_eq_true rfl, Nat.le_of_ble_eq_true rfl⟩ (by omega) (by omega) rfl (by exact Nat.le_of_ble_eq_true rfl) (fun x s9 hp => ?_)
  obtain ⟨rfl, rfl⟩ := hp
  refine g_iload_5 (pc := 1103) X dL_law__1103 ?_
  refine g_icmp_eq (pc := 1105) X dL_law__1105 (tgt := 1110) (by decide) (fun _ => ?_) (fun q => absurd h0 q)
  refine g_iload_5 (pc := 1110) X dL_law__1110 ?_
  have fin : G o γ (cells + 3) (slots + 18) 116 t 1127 [some (.ref bs), some (.ref (ad o 0)), some (.ref (ad o 65)), some (.ref (ad o 115)), some (.int (nI i)), some (.int k), some (.int w), none] [] := by
    refine g_goto (pc := 1127) X dL_law__1127 (tgt := 2484) (by decide) ?_
    refine g_widen (k1 := cells + 5) (k2 := slots + 30) (by omega) (by omega) ?_
    exact g_drop (by simp [lsub]) (K t hI2)
  refine g_if_ne (pc := 1112) X dL_law__1112 (tgt := 1127) (by decide) (fun _ => fin) (fun q => ?_)
  have q0 : k = 0 := by simpa using q
  refine g_aload_3 (pc := 1115) X dL_law__1115 ?_
  refine g_iconst (pc := 1116) X dL_law__1116 kiconst_0 ?_
  refine g_laload_n (pc := 1117) (a := 0) X dL_law__1117 rfl (by decide) rfl (by decide) ?_
  rw [hv q0]
  refine g_iload_6 (pc := 1118) X dL_law__1118 ?_
  refine g_i2l (pc := 1120) X dL_law__1120 ?_
  exact g_lcmp_eq (pc := 1121) X dL_law__1121 dL_law__1122 (tgt := 1127) (by decide) (fun _ => fin) (fun q => absurd rfl q)
theorem lk_13 (X : gX o γ cL_law_ 8 RL) (Y : gE o γ 2048 601024 7293033 116 rt pst) (S : gScr o γ bs L xs) (hst : γ.2.1.stackTraces = false) (hI : Inv b σ) (hi : i + 6 ≤ L) (hL : L ≤ 3072) (hc : cells + 5 ≤ 601024) (hs : slots + 30 ≤ 7293033) (K : lwK o γ bs i cells slots) : G o γ cells slots 116 σ 1130 [some (.ref bs), some (.ref (ad o 0)), some (.ref (ad o 65)), some (.ref (ad o 115)), some (.int (nI i)), none, none, none] [] := by
  refine g_aload_1 (pc := 1130) X dL_law__1130 ?_
  refine g_arg (pc := 1131) (k := 1) X S dL_law__1131 dL_law__1132 dL_law__1134 dL_law__1135 dL_law__1136 kiconst_1 (by omega) (by omega) hL ?_
  refine g_arg (pc := 1137) (k := 2) X S dL_law__1137 dL_law__1138 dL_law__1140 dL_law__1141 dL_law__1142 kiconst_2 (by omega) (by omega) hL ?_
  refine g_aload_3 (pc := 1143) X dL_law__1143 ?_
  refine g_callSW (pc := 1144) X Y dL_law__1144 mwL_put li_L_168 (lL_put hst hI (xs (i + 1)) (xs (i + 2))) rfl ⟨Nat.le_of_ble_eq_true rfl, Nat.le_of_ble_eq_true rfl⟩ ⟨by omega, by omega⟩ (by exact Nat.le_of_ble_eq_true rfl) rfl (fun k s hp => ?_)
  obtain ⟨⟨b2, hR⟩, h⟩ := hp
  refine g_istore_5 (pc := 1147) X dL_law__1147 (by decide) rfl ?_
  refine g_aload_2 (pc := 1149) X dL_law__1149 ?_
  refine g_arg (pc := 1150) (k := 1) X S dL_law__1150 dL_law__1151 dL_law__1153 dL_law__1154 dL_law__1155 kiconst_1 (by omega) (by omega) hL ?_
  refine g_arg (pc := 1156) (k := 2) X S dL_law__1156 dL_law__1157 dL_law__1159 dL_law__1160 dL_law__1161 kiconst_2 (by omega) (by omega) hL ?_
  refine g_callV_I (pc := 1162) X Y dL_law__1162 miX12_put li_L_170 (t_X12_put hR h) rfl (by decide) rfl ⟨_, rfl⟩ rfl ⟨Nat.le_of_ble_eq_true rfl, Nat.le_of_ble_eq_true rfl⟩ (by omega) (by omega) rfl (by exact Nat.le_of_ble_eq_true rfl) (fun w t hp => ?_)
  obtain ⟨hR2, h0, hv, hI2⟩ := hp
  refine g_istore_6 (pc := 1165) X dL_law__1165 (by decide) rfl ?_
  refine g_aload_2 (pc := 1167) X dL_law__1167 ?_
  refine g_callV_I (pc := 1168) X Y dL_law__1168 miX12_thrown li_L_122 (t_X12_thrown hR2 (Q := fun x => x = t.1 65 0) rfl) rfl (by decide) rfl ⟨_, rfl⟩ rfl ⟨Nat.le_of_ble_eq_true rfl, Nat.le_of_ble_eq_true rfl⟩ (by omega) (by omega) rfl (by exact Nat.le_of_ble_eq_true rfl) (fun x s9 hp => ?_)
  obtain ⟨rfl, rfl⟩ := hp
  refine g_iload_5 (pc := 1171) X dL_law__1171 ?_
  refine g_icmp_eq (pc := 1173) X dL_law__1173 (tgt := 1178) (by decide) (fun _ => ?_) (fun q => absurd h0 q)
  refine g_iload_5 (pc := 1178) X dL_law__1178 ?_
  have fin : G o γ (cells + 3) (slots + 18) 116 t 1195 [some (.ref bs), some (.ref (ad o 0)), some (.ref (ad o 65)), some (.ref (ad o 115)), some (.int (nI i)), some (.int k), some (.int w), none] [] := by
    refine g_goto (pc := 1195) X dL_law__1195 (tgt := 2484) (by decide) ?_
    refine g_widen (k1 := cells + 5) (k2 := slots + 30) (by omega) (by omega) ?_
    exact g_drop (by simp [lsub]) (K t hI2)
  refine g_if_ne (pc := 1180) X dL_law__1180 (tgt := 1195) (by decide) (fun _ => fin) (fun q => ?_)
  have q0 : k = 0 := by simpa using q
  refine g_aload_3 (pc := 1183) X dL_law__1183 ?_
  refine g_iconst (pc := 1184) X dL_law__1184 kiconst_0 ?_
  refine g_laload_n (pc := 1185) (a := 0) X dL_law__1185 rfl (by decide) rfl (by decide) ?_
  rw [hv q0]
  refine g_iload_6 (pc := 1186) X dL_law__1186 ?_
  refine g_i2l (pc := 1188) X dL_law__1188 ?_
  exact g_lcmp_eq (pc := 1189) X dL_law__1189 dL_law__1190 (tgt := 1195) (by decide) (fun _ => fin) (fun q => absurd rfl q)
end LAWC
