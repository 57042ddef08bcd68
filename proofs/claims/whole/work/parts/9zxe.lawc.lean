/-! the law's cases, one by one -/
section LAWC
variable {o : gOm} {γ : gCx} {cells slots : Nat} {σ : gSt} {rt : Option FieldType} {pst : Option Value → gSt → Prop} {bs L i : Nat} {xs : Nat → Int32} {b : Bool}
theorem lk_14 (X : gX o γ cL_law_ 8 RL) (Y : gE o γ 2048 601024 7293033 116 rt pst) (S : gScr o γ bs L xs) (hst : γ.2.1.stackTraces = false) (hI : Inv b σ) (hi : i + 6 ≤ L) (hL : L ≤ 3072) (hc : cells + 5 ≤ 601024) (hs : slots + 30 ≤ 7293033) (K : lwK o γ bs i cells slots) : G o γ cells slots 116 σ 1198 [some (.ref bs), some (.ref (ad o 0)), some (.ref (ad o 65)), some (.ref (ad o 115)), some (.int (nI i)), none, none, none] [] := by
  refine g_aload_1 (pc := 1198) X dL_law__1198 ?_
  refine g_arg (pc := 1199) (k := 1) X S dL_law__1199 dL_law__1200 dL_law__1202 dL_law__1203 dL_law__1204 kiconst_1 (by omega) (by omega) hL ?_
  refine g_aload_3 (pc := 1205) X dL_law__1205 ?_
  refine g_callSW (pc := 1206) X Y dL_law__1206 mwL_alone li_L_171 (lL_alone hst hI (xs (i + 1))) rfl ⟨Nat.le_of_ble_eq_true rfl, Nat.le_of_ble_eq_true rfl⟩ ⟨by omega, by omega⟩ (by exact Nat.le_of_ble_eq_true rfl) rfl (fun k s hp => ?_)
  obtain ⟨⟨b2, hR⟩, h⟩ := hp
  refine g_istore_5 (pc := 1209) X dL_law__1209 (by decide) rfl ?_
  refine g_aload_2 (pc := 1211) X dL_law__1211 ?_
  refine g_arg (pc := 1212) (k := 1) X S dL_law__1212 dL_law__1213 dL_law__1215 dL_law__1216 dL_law__1217 kiconst_1 (by omega) (by omega) hL ?_
  refine g_callV_I (pc := 1218) X Y dL_law__1218 miX12_alone li_L_173 (t_X12_alone hR h) rfl (by decide) rfl ⟨_, rfl⟩ rfl ⟨Nat.le_of_ble_eq_true rfl, Nat.le_of_ble_eq_true rfl⟩ (by omega) (by omega) rfl (by exact Nat.le_of_ble_eq_true rfl) (fun w t hp => ?_)
  obtain ⟨hR2, h01, h0, hv, hI2⟩ := hp
  refine g_istore_6 (pc := 1221) X dL_law__1221 (by decide) rfl ?_
  refine g_aload_2 (pc := 1223) X dL_law__1223 ?_
  refine g_callV_I (pc := 1224) X Y dL_law__1224 miX12_thrown li_L_122 (t_X12_thrown hR2 (Q := fun x => x = t.1 65 0) rfl) rfl (by decide) rfl ⟨_, rfl⟩ rfl ⟨Nat.le_of_ble_eq_true rfl, Nat.le_of_ble_eq_true rfl⟩ (by omega) (by omega) rfl (by exact Nat.le_of_ble_eq_true rfl) (fun x s9 hp => ?_)
  obtain ⟨rfl, rfl⟩ := hp
  refine g_iload_5 (pc := 1227) X dL_law__1227 ?_
  refine g_icmp_eq (pc := 1229) X dL_law__1229 (tgt := 1234) (by decide) (fun _ => ?_) (fun q => absurd h0 q)
  refine g_iload_5 (pc := 1234) X dL_law__1234 ?_
  have fin : G o γ (cells + 1) (slots + 6) 116 t 1258 [some (.ref bs), some (.ref (ad o 0)), some (.ref (ad o 65)), some (.ref (ad o 115)), some (.int (nI i)), some (.int k), some (.int w), none] [] := by
    refine g_goto (pc := 1258) X dL_law__1258 (tgt := 2484) (by decide) ?_
    refine g_widen (k1 := cells + 5) (k2 := slots + 30) (by omega) (by omega) ?_
    exact g_drop (by simp [lsub]) (K t hI2)
  refine g_if_ne (pc := 1236) X dL_law__1236 (tgt := 1258) (by decide) (fun _ => fin) (fun q => ?_)
  have q0 : k = 0 := by simpa using q
  refine g_aload_3 (pc := 1239) X dL_law__1239 ?_
  refine g_iconst (pc := 1240) X dL_law__1240 kiconst_0 ?_
  refine g_laload_n (pc := 1241) (a := 0) X dL_law__1241 rfl (by decide) rfl (by decide) ?_
  rw [hv q0]
  refine g_iload_6 (pc := 1242) X dL_law__1242 ?_
  refine g_zselL (pc := 1244) X dL_law__1244 dL_law__1247 dL_law__1248 dL_law__1251 ?_
  have e : i2l w = (if w = 0 then lN 0 else lN 1) := by rcases h01 q0 with e | e <;> rw [e] <;> decide
  rw [← e]
  exact g_lcmp_eq (pc := 1252) X dL_law__1252 dL_law__1253 (tgt := 1258) (by decide) (fun _ => fin) (fun q => absurd rfl q)
theorem lk_15 (X : gX o γ cL_law_ 8 RL) (Y : gE o γ 2048 601024 7293033 116 rt pst) (S : gScr o γ bs L xs) (hst : γ.2.1.stackTraces = false) (hI : Inv b σ) (hi : i + 6 ≤ L) (hL : L ≤ 3072) (hc : cells + 5 ≤ 601024) (hs : slots + 30 ≤ 7293033) (K : lwK o γ bs i cells slots) : G o γ cells slots 116 σ 1261 [some (.ref bs), some (.ref (ad o 0)), some (.ref (ad o 65)), some (.ref (ad o 115)), some (.int (nI i)), none, none, none] [] := by
  refine g_aload_1 (pc := 1261) X dL_law__1261 ?_
  refine g_arg (pc := 1262) (k := 1) X S dL_law__1262 dL_law__1263 dL_law__1265 dL_law__1266 dL_law__1267 kiconst_1 (by omega) (by omega) hL ?_
  refine g_arg (pc := 1268) (k := 2) X S dL_law__1268 dL_law__1269 dL_law__1271 dL_law__1272 dL_law__1273 kiconst_2 (by omega) (by omega) hL ?_
  refine g_aload_3 (pc := 1274) X dL_law__1274 ?_
  refine g_callSW (pc := 1275) X Y dL_law__1275 mwL_join li_L_174 (lL_join hst hI (xs (i + 1)) (xs (i + 2))) rfl ⟨Nat.le_of_ble_eq_true rfl, Nat.le_of_ble_eq_true rfl⟩ ⟨by omega, by omega⟩ (by exact Nat.le_of_ble_eq_true rfl) rfl (fun k s hp => ?_)
  obtain ⟨⟨b2, hR⟩, h⟩ := hp
  refine g_istore_5 (pc := 1278) X dL_law__1278 (by decide) rfl ?_
  refine g_aload_2 (pc := 1280) X dL_law__1280 ?_
  refine g_arg (pc := 1281) (k := 1) X S dL_law__1281 dL_law__1282 dL_law__1284 dL_law__1285 dL_law__1286 kiconst_1 (by omega) (by omega) hL ?_
  refine g_arg (pc := 1287) (k := 2) X S dL_law__1287 dL_law__1288 dL_law__1290 dL_law__1291 dL_law__1292 kiconst_2 (by omega) (by omega) hL ?_
  refine g_callV_I (pc := 1293) X Y dL_law__1293 miX12_join li_L_176 (t_X12_join hR h) rfl (by decide) rfl ⟨_, rfl⟩ rfl ⟨Nat.le_of_ble_eq_true rfl, Nat.le_of_ble_eq_true rfl⟩ (by omega) (by omega) rfl (by exact Nat.le_of_ble_eq_true rfl) (fun w t hp => ?_)
  obtain ⟨hR2, h0, hv, hI2⟩ := hp
  refine g_istore_6 (pc := 1296) X dL_law__1296 (by decide) rfl ?_
  refine g_aload_2 (pc := 1298) X dL_law__1298 ?_
  refine g_callV_I (pc := 1299) X Y dL_law__1299 miX12_thrown li_L_122 (t_X12_thrown hR2 (Q := fun x => x = t.1 65 0) rfl) rfl (by decide) rfl ⟨_, rfl⟩ rfl ⟨Nat.le_of_ble_eq_true rfl, Nat.le_of_ble_eq_true rfl⟩ (by omega) (by omega) rfl (by exact Nat.le_of_ble_eq_true rfl) (fun x s9 hp => ?_)
  obtain ⟨rfl, rfl⟩ := hp
  refine g_iload_5 (pc := 1302) X dL_law__1302 ?_
  refine g_icmp_eq (pc := 1304) X dL_law__1304 (tgt := 1309) (by decide) (fun _ => ?_) (fun q => absurd h0 q)
  refine g_iload_5 (pc := 1309) X dL_law__1309 ?_
  have fin : G o γ (cells + 2) (slots + 12) 116 t 1326 [some (.ref bs), some (.ref (ad o 0)), some (.ref (ad o 65)), some (.ref (ad o 115)), some (.int (nI i)), some (.int k), some (.int w), none] [] := by
    refine g_goto (pc := 1326) X dL_law__1326 (tgt := 2484) (by decide) ?_
    refine g_widen (k1 := cells + 5) (k2 := slots + 30) (by omega) (by omega) ?_
    exact g_drop (by simp [lsub]) (K t hI2)
  refine g_if_ne (pc := 1311) X dL_law__1311 (tgt := 1326) (by decide) (fun _ => fin) (fun q => ?_)
  have q0 : k = 0 := by simpa using q
  refine g_aload_3 (pc := 1314) X dL_law__1314 ?_
  refine g_iconst (pc := 1315) X dL_law__1315 kiconst_0 ?_
  refine g_laload_n (pc := 1316) (a := 0) X dL_law__1316 rfl (by decide) rfl (by decide) ?_
  rw [hv q0]
  refine g_iload_6 (pc := 1317) X dL_law__1317 ?_
  refine g_i2l (pc := 1319) X dL_law__1319 ?_
  exact g_lcmp_eq (pc := 1320) X dL_law__1320 dL_law__1321 (tgt := 1326) (by decide) (fun _ => fin) (fun q => absurd rfl q)
theorem lk_16 (X : gX o γ cL_law_ 8 RL) (Y : gE o γ 2048 601024 7293033 116 rt pst) (S : gScr o γ bs L xs) (hst : γ.2.1.stackTraces = false) (hI : Inv b σ) (hi : i + 6 ≤ L) (hL : L ≤ 3072) (hc : cells + 5 ≤ 601024) (hs : slots + 30 ≤ 7293033) (K : lwK o γ bs i cells slots) : G o γ cells slots 116 σ 1329 [some (.ref bs), some (.ref (ad o 0)), some (.ref (ad o 65)), some (.ref (ad o 115)), some (.int (nI i)), none, none, none] [] := by
  refine g_aload_1 (pc := 1329) X dL_law__1329 ?_
  refine g_arg (pc := 1330) (k := 1) X S dL_law__1330 dL_law__1331 dL_law__1333 dL_law__1334 dL_law__1335 kiconst_1 (by omega) (by omega) hL ?_
  refine g_arg (pc := 1336) (k := 2) X S dL_law__1336 dL_law__1337 dL_law__1339 dL_law__1340 dL_law__1341 kiconst_2 (by omega) (by omega) hL ?_
  refine g_aload_3 (pc := 1342) X dL_law__1342 ?_
  refine g_callSW (pc := 1343) X Y dL_law__1343 mwL_swap li_L_177 (lL_swap hst hI (xs (i + 1)) (xs (i + 2))) rfl ⟨Nat.le_of_ble_eq_true rfl, Nat.le_of_ble_eq_true rfl⟩ ⟨by omega, by omega⟩ (by exact Nat.le_of_ble_eq_true rfl) rfl (fun k s hp => ?_)
  obtain ⟨⟨b2, hR⟩, h⟩ := hp
  refine g_istore_5 (pc := 1346) X dL_law__1346 (by decide) rfl ?_
  refine g_aload_2 (pc := 1348) X dL_law__1348 ?_
  refine g_arg (pc := 1349) (k := 1) X S dL_law__1349 dL_law__1350 dL_law__1352 dL_law__1353 dL_law__1354 kiconst_1 (by omega) (by omega) hL ?_
  refine g_arg (pc := 1355) (k := 2) X S dL_law__1355 dL_law__1356 dL_law__1358 dL_law__1359 dL_law__1360 kiconst_2 (by omega) (by omega) hL ?_
  refine g_callV_I (pc := 1361) X Y dL_law__1361 miX12_swap li_L_179 (t_X12_swap hR h) rfl (by decide) rfl ⟨_, rfl⟩ rfl ⟨Nat.le_of_ble_eq_true rfl, Nat.le_of_ble_eq_true rfl⟩ (by omega) (by omega) rfl (by exact Nat.le_of_ble_eq_true rfl) (fun w t hp => ?_)
  obtain ⟨hR2, h0, hv, hI2⟩ := hp
  refine g_istore_6 (pc := 1364) X dL_law__1364 (by decide) rfl ?_
  refine g_aload_2 (pc := 1366) X dL_law__1366 ?_
  refine g_callV_I (pc := 1367) X Y dL_law__1367 miX12_thrown li_L_122 (t_X12_thrown hR2 (Q := fun x => x = t.1 65 0) rfl) rfl (by decide) rfl ⟨_, rfl⟩ rfl ⟨Nat.le_of_ble_eq_true rfl, Nat.le_of_ble_eq_true rfl⟩ (by omega) (by omega) rfl (by exact Nat.le_of_ble_eq_true rfl) (fun x s9 hp => ?_)
  obtain ⟨rfl, rfl⟩ := hp
  refine g_iload_5 (pc := 1370) X dL_law__1370 ?_
  refine g_icmp_eq (pc := 1372) X dL_law__1372 (tgt := 1377) (by decide) (fun _ => ?_) (fun q => absurd h0 q)
  refine g_iload_5 (pc := 1377) X dL_law__1377 ?_
  have fin : G o γ (cells + 2) (slots + 12) 116 t 1394 [some (.ref bs), some (.ref (ad o 0)), some (.ref (ad o 65)), some (.ref (ad o 115)), some (.int (nI i)), some (.int k), some (.int w), none] [] := by
    refine g_goto (pc := 1394) X dL_law__1394 (tgt := 2484) (by decide) ?_
    refine g_widen (k1 := cells + 5) (k2 := slots + 30) (by omega) (by omega) ?_
    exact g_drop (by simp [lsub]) (K t hI2)
  refine g_if_ne (pc := 1379) X dL_law__1379 (tgt := 1394) (by decide) (fun _ => fin) (fun q => ?_)
  have q0 : k = 0 := by simpa using q
  refine g_aload_3 (pc := 1382) X dL_law__1382 ?_
  refine g_iconst (pc := 1383) X dL_law__1383 kiconst_0 ?_
  refine g_laload_n (pc := 1384) (a := 0) X dL_law__1384 rfl (by decide) rfl (by decide) ?_
  rw [hv q0]
  refine g_iload_6 (pc := 1385) X dL_law__1385 ?_
  refine g_i2l (pc := 1387) X dL_law__1387 ?_
  exact g_lcmp_eq (pc := 1388) X dL_law__1388 dL_law__1389 (tgt := 1394) (by decide) (fun _ => fin) (fun q => absurd rfl q)
theorem lk_17 (X : gX o γ cL_law_ 8 RL) (Y : gE o γ 2048 601024 7293033 116 rt pst) (S : gScr o γ bs L xs) (hst : γ.2.1.stackTraces = false) (hI : Inv b σ) (hi : i + 6 ≤ L) (hL : L ≤ 3072) (hc : cells + 5 ≤ 601024) (hs : slots + 30 ≤ 7293033) (K : lwK o γ bs i cells slots) : G o γ cells slots 116 σ 1397 [some (.ref bs), some (.ref (ad o 0)), some (.ref (ad o 65)), some (.ref (ad o 115)), some (.int (nI i)), none, none, none] [] := by
  have hR := hI.1
  have h := op_cost hI 
  unfold OKM at h
  refine g_aload_1 (pc := 1397) X dL_law__1397 ?_
  refine g_callV_L (pc := 1398) X Y dL_law__1398 miX11_cost li_L_180 (t_X11_cost hR h) rfl (by decide) rfl ⟨_, rfl⟩ rfl ⟨Nat.le_of_ble_eq_true rfl, Nat.le_of_ble_eq_true rfl⟩ (by omega) (by omega) rfl (by exact Nat.le_of_ble_eq_true rfl) (fun v s hp => ?_)
  obtain ⟨rfl, h⟩ := hp
  refine g_aload_2 (pc := 1401) X dL_law__1401 ?_
  refine g_callV_L (pc := 1402) X Y dL_law__1402 miX12_cost li_L_184 (t_X12_cost hR h) rfl (by decide) rfl ⟨_, rfl⟩ rfl ⟨Nat.le_of_ble_eq_true rfl, Nat.le_of_ble_eq_true rfl⟩ (by omega) (by omega) rfl (by exact Nat.le_of_ble_eq_true rfl) (fun w t hp => ?_)
  obtain ⟨hR2, e, hI2⟩ := hp
  subst e
  have fin : G o γ cells slots 116 t 2484 [some (.ref bs), some (.ref (ad o 0)), some (.ref (ad o 65)), some (.ref (ad o 115)), some (.int (nI i)), none, none, none] [] := g_widen (k1 := cells + 5) (k2 := slots + 30) (by omega) (by omega) (K t hI2)
  exact g_lcmp_eq (pc := 1405) X dL_law__1405 dL_law__1406 (tgt := 2484) (by decide) (fun _ => fin) (fun q => absurd rfl q)
theorem lk_18 (X : gX o γ cL_law_ 8 RL) (Y : gE o γ 2048 601024 7293033 116 rt pst) (S : gScr o γ bs L xs) (hst : γ.2.1.stackTraces = false) (hI : Inv b σ) (hi : i + 6 ≤ L) (hL : L ≤ 3072) (hc : cells + 5 ≤ 601024) (hs : slots + 30 ≤ 7293033) (K : lwK o γ bs i cells slots) : G o γ cells slots 116 σ 1411 [some (.ref bs), some (.ref (ad o 0)), some (.ref (ad o 65)), some (.ref (ad o 115)), some (.int (nI i)), none, none, none] [] := by
  have hR := hI.1
  have h := op_barred hI 
  unfold OKN at h
  refine g_aload_1 (pc := 1411) X dL_law__1411 ?_
  refine g_callV_I (pc := 1412) X Y dL_law__1412 miX11_barred li_L_185 (t_X11_barred hR h) rfl (by decide) rfl ⟨_, rfl⟩ rfl ⟨Nat.le_of_ble_eq_true rfl, Nat.le_of_ble_eq_true rfl⟩ (by omega) (by omega) rfl (by exact Nat.le_of_ble_eq_true rfl) (fun v s hp => ?_)
  obtain ⟨rfl, h⟩ := hp
  refine g_aload_2 (pc := 1415) X dL_law__1415 ?_
  refine g_callV_I (pc := 1416) X Y dL_law__1416 miX12_barred li_L_188 (t_X12_barred hR h) rfl (by decide) rfl ⟨_, rfl⟩ rfl ⟨Nat.le_of_ble_eq_true rfl, Nat.le_of_ble_eq_true rfl⟩ (by omega) (by omega) rfl (by exact Nat.le_of_ble_eq_true rfl) (fun w t hp => ?_)
  obtain ⟨hR2, e, hI2⟩ := hp
  subst e
  have fin : G o γ cells slots 116 t 2484 [some (.ref bs), some (.ref (ad o 0)), some (.ref (ad o 65)), some (.ref (ad o 115)), some (.int (nI i)), none, none, none] [] := g_widen (k1 := cells + 5) (k2 := slots + 30) (by omega) (by omega) (K t hI2)
  exact g_icmp_eq (pc := 1419) X dL_law__1419 (tgt := 2484) (by decide) (fun _ => fin) (fun q => absurd rfl q)
theorem lk_19 (X : gX o γ cL_law_ 8 RL) (Y : gE o γ 2048 601024 7293033 116 rt pst) (S : gScr o γ bs L xs) (hst : γ.2.1.stackTraces = false) (hI : Inv b σ) (hi : i + 6 ≤ L) (hL : L ≤ 3072) (hc : cells + 5 ≤ 601024) (hs : slots + 30 ≤ 7293033) (K : lwK o γ bs i cells slots) : G o γ cells slots 116 σ 1424 [some (.ref bs), some (.ref (ad o 0)), some (.ref (ad o 65)), some (.ref (ad o 115)), some (.int (nI i)), none, none, none] [] := by
  refine g_aload_1 (pc := 1424) X dL_law__1424 ?_
  refine g_arg (pc := 1425) (k := 1) X S dL_law__1425 dL_law__1426 dL_law__1428 dL_law__1429 dL_law__1430 kiconst_1 (by omega) (by omega) hL ?_
  refine g_aload_3 (pc := 1431) X dL_law__1431 ?_
  refine g_callSW (pc := 1432) X Y dL_law__1432 mwL_better li_L_189 (lL_better hst hI (xs (i + 1))) rfl ⟨Nat.le_of_ble_eq_true rfl, Nat.le_of_ble_eq_true rfl⟩ ⟨by omega, by omega⟩ (by exact Nat.le_of_ble_eq_true rfl) rfl (fun k s hp => ?_)
  obtain ⟨⟨b2, hR⟩, h⟩ := hp
  refine g_istore_5 (pc := 1435) X dL_law__1435 (by decide) rfl ?_
  refine g_aload_2 (pc := 1437) X dL_law__1437 ?_
  refine g_arg (pc := 1438) (k := 1) X S dL_law__1438 dL_law__1439 dL_law__1441 dL_law__1442 dL_law__1443 kiconst_1 (by omega) (by omega) hL ?_
  refine g_callV_L (pc := 1444) X Y dL_law__1444 miX12_better li_L_191 (t_X12_better hR h) rfl (by decide) rfl ⟨_, rfl⟩ rfl ⟨Nat.le_of_ble_eq_true rfl, Nat.le_of_ble_eq_true rfl⟩ (by omega) (by omega) rfl (by exact Nat.le_of_ble_eq_true rfl) (fun w t hp => ?_)
  obtain ⟨hR2, h0, hv, hI2⟩ := hp
  refine g_lstore_6 (pc := 1447) X dL_law__1447 (by decide) rfl ?_
  refine g_aload_2 (pc := 1449) X dL_law__1449 ?_
  refine g_callV_I (pc := 1450) X Y dL_law__1450 miX12_thrown li_L_122 (t_X12_thrown hR2 (Q := fun x => x = t.1 65 0) rfl) rfl (by decide) rfl ⟨_, rfl⟩ rfl ⟨Nat.le_of_ble_eq_true rfl, Nat.le_of_ble_eq_true rfl⟩ (by omega) (by omega) rfl (by exact Nat.le_of_ble_eq_true rfl) (fun x s9 hp => ?_)
  obtain ⟨rfl, rfl⟩ := hp
  refine g_iload_5 (pc := 1453) X dL_law__1453 ?_
  refine g_icmp_eq (pc := 1455) X dL_law__1455 (tgt := 1460) (by decide) (fun _ => ?_) (fun q => absurd h0 q)
  refine g_iload_5 (pc := 1460) X dL_law__1460 ?_
  have fin : G o γ (cells + 1) (slots + 6) 116 t 1476 [some (.ref bs), some (.ref (ad o 0)), some (.ref (ad o 65)), some (.ref (ad o 115)), some (.int (nI i)), some (.int k), some (.long w), none] [] := by
    refine g_goto (pc := 1476) X dL_law__1476 (tgt := 2484) (by decide) ?_
    refine g_widen (k1 := cells + 5) (k2 := slots + 30) (by omega) (by omega) ?_
    exact g_drop (by simp [lsub]) (K t hI2)
  refine g_if_ne (pc := 1462) X dL_law__1462 (tgt := 1476) (by decide) (fun _ => fin) (fun q => ?_)
  have q0 : k = 0 := by simpa using q
  refine g_aload_3 (pc := 1465) X dL_law__1465 ?_
  refine g_iconst (pc := 1466) X dL_law__1466 kiconst_0 ?_
  refine g_laload_n (pc := 1467) (a := 0) X dL_law__1467 rfl (by decide) rfl (by decide) ?_
  rw [hv q0]
  refine g_lload_6 (pc := 1468) X dL_law__1468 ?_
  exact g_lcmp_eq (pc := 1470) X dL_law__1470 dL_law__1471 (tgt := 1476) (by decide) (fun _ => fin) (fun q => absurd rfl q)
theorem lk_20 (X : gX o γ cL_law_ 8 RL) (Y : gE o γ 2048 601024 7293033 116 rt pst) (S : gScr o γ bs L xs) (hst : γ.2.1.stackTraces = false) (hI : Inv b σ) (hi : i + 6 ≤ L) (hL : L ≤ 3072) (hc : cells + 5 ≤ 601024) (hs : slots + 30 ≤ 7293033) (K : lwK o γ bs i cells slots) : G o γ cells slots 116 σ 1479 [some (.ref bs), some (.ref (ad o 0)), some (.ref (ad o 65)), some (.ref (ad o 115)), some (.int (nI i)), none, none, none] [] := by
  refine g_aload_1 (pc := 1479) X dL_law__1479 ?_
  refine g_arg (pc := 1480) (k := 1) X S dL_law__1480 dL_law__1481 dL_law__1483 dL_law__1484 dL_law__1485 kiconst_1 (by omega) (by omega) hL ?_
  refine g_aload_3 (pc := 1486) X dL_law__1486 ?_
  refine g_callSW (pc := 1487) X Y dL_law__1487 mwL_grow li_L_192 (lL_grow hst hI (xs (i + 1))) rfl ⟨Nat.le_of_ble_eq_true rfl, Nat.le_of_ble_eq_true rfl⟩ ⟨by omega, by omega⟩ (by exact Nat.le_of_ble_eq_true rfl) rfl (fun k s hp => ?_)
  obtain ⟨⟨b2, hR⟩, h⟩ := hp
  refine g_istore_5 (pc := 1490) X dL_law__1490 (by decide) rfl ?_
  refine g_aload_2 (pc := 1492) X dL_law__1492 ?_
  refine g_arg (pc := 1493) (k := 1) X S dL_law__1493 dL_law__1494 dL_law__1496 dL_law__1497 dL_law__1498 kiconst_1 (by omega) (by omega) hL ?_
  refine g_callV_I (pc := 1499) X Y dL_law__1499 miX12_grow li_L_194 (t_X12_grow hR h) rfl (by decide) rfl ⟨_, rfl⟩ rfl ⟨Nat.le_of_ble_eq_true rfl, Nat.le_of_ble_eq_true rfl⟩ (by omega) (by omega) rfl (by exact Nat.le_of_ble_eq_true rfl) (fun w t hp => ?_)
  obtain ⟨hR2, h0, hv, hI2⟩ := hp
  refine g_istore_6 (pc := 1502) X dL_law__1502 (by decide) rfl ?_
  refine g_aload_2 (pc := 1504) X dL_law__1504 ?_
  refine g_callV_I (pc := 1505) X Y dL_law__1505 miX12_thrown li_L_122 (t_X12_thrown hR2 (Q := fun x => x = t.1 65 0) rfl) rfl (by decide) rfl ⟨_, rfl⟩ rfl ⟨Nat.le_of_ble_eq_true rfl, Nat.le_of_ble_eq_true rfl⟩ (by omega) (by omega) rfl (by exact Nat.le_of_ble_eq_true rfl) (fun x s9 hp => ?_)
  obtain ⟨rfl, rfl⟩ := hp
  refine g_iload_5 (pc := 1508) X dL_law__1508 ?_
  refine g_icmp_eq (pc := 1510) X dL_law__1510 (tgt := 1515) (by decide) (fun _ => ?_) (fun q => absurd h0 q)
  refine g_iload_5 (pc := 1515) X dL_law__1515 ?_
  have fin : G o γ (cells + 1) (slots + 6) 116 t 1532 [some (.ref bs), some (.ref (ad o 0)), some (.ref (ad o 65)), some (.ref (ad o 115)), some (.int (nI i)), some (.int k), some (.int w), none] [] := by
    refine g_goto (pc := 1532) X dL_law__1532 (tgt := 2484) (by decide) ?_
    refine g_widen (k1 := cells + 5) (k2 := slots + 30) (by omega) (by omega) ?_
    exact g_drop (by simp [lsub]) (K t hI2)
  refine g_if_ne (pc := 1517) X dL_law__1517 (tgt := 1532) (by decide) (fun _ => fin) (fun q => ?_)
  have q0 : k = 0 := by simpa using q
  refine g_aload_3 (pc := 1520) X dL_law__1520 ?_
  refine g_iconst (pc := 1521) X dL_law__1521 kiconst_0 ?_
  refine g_laload_n (pc := 1522) (a := 0) X dL_law__1522 rfl (by decide) rfl (by decide) ?_
  rw [hv q0]
  refine g_iload_6 (pc := 1523) X dL_law__1523 ?_
  refine g_i2l (pc := 1525) X dL_law__1525 ?_
  exact g_lcmp_eq (pc := 1526) X dL_law__1526 dL_law__1527 (tgt := 1532) (by decide) (fun _ => fin) (fun q => absurd rfl q)
theorem lk_21 (X : gX o γ cL_law_ 8 RL) (Y : gE o γ 2048 601024 7293033 116 rt pst) (S : gScr o γ bs L xs) (hst : γ.2.1.stackTraces = false) (hI : Inv b σ) (hi : i + 6 ≤ L) (hL : L ≤ 3072) (hc : cells + 5 ≤ 601024) (hs : slots + 30 ≤ 7293033) (K : lwK o γ bs i cells slots) : G o γ cells slots 116 σ 1535 [some (.ref bs), some (.ref (ad o 0)), some (.ref (ad o 65)), some (.ref (ad o 115)), some (.int (nI i)), none, none, none] [] := by
  have hR := hI.1
  have h := op_bound hI 
  unfold OKM at h
  refine g_aload_1 (pc := 1535) X dL_law__1535 ?_
  refine g_callV_L (pc := 1536) X Y dL_law__1536 miX11_bound li_L_195 (t_X11_bound hR h) rfl (by decide) rfl ⟨_, rfl⟩ rfl ⟨Nat.le_of_ble_eq_true rfl, Nat.le_of_ble_eq_true rfl⟩ (by omega) (by omega) rfl (by exact Nat.le_of_ble_eq_true rfl) (fun v s hp => ?_)
  obtain ⟨hR, h⟩ := hp
  refine g_aload_2 (pc := 1539) X dL_law__1539 ?_
  refine g_callV_L (pc := 1540) X Y dL_law__1540 miX12_bound li_L_198 (t_X12_bound hR h) rfl (by decide) rfl ⟨_, rfl⟩ rfl ⟨Nat.le_of_ble_eq_true rfl, Nat.le_of_ble_eq_true rfl⟩ (by omega) (by omega) rfl (by exact Nat.le_of_ble_eq_true rfl) (fun w t hp => ?_)
  obtain ⟨hR2, e, hI2⟩ := hp
  subst e
  have fin : G o γ cells slots 116 t 2484 [some (.ref bs), some (.ref (ad o 0)), some (.ref (ad o 65)), some (.ref (ad o 115)), some (.int (nI i)), none, none, none] [] := g_widen (k1 := cells + 5) (k2 := slots + 30) (by omega) (by omega) (K t hI2)
  exact g_lcmp_eq (pc := 1543) X dL_law__1543 dL_law__1544 (tgt := 2484) (by decide) (fun _ => fin) (fun q => absurd rfl q)
theorem lk_22 (X : gX o γ cL_law_ 8 RL) (Y : gE o γ 2048 601024 7293033 116 rt pst) (S : gScr o γ bs L xs) (hst : γ.2.1.stackTraces = false) (hI : Inv b σ) (hi : i + 6 ≤ L) (hL : L ≤ 3072) (hc : cells + 5 ≤ 601024) (hs : slots + 30 ≤ 7293033) (K : lwK o γ bs i cells slots) : G o γ cells slots 116 σ 1549 [some (.ref bs), some (.ref (ad o 0)), some (.ref (ad o 65)), some (.ref (ad o 115)), some (.int (nI i)), none, none, none] [] := by
  refine g_aload_1 (pc := 1549) X dL_law__1549 ?_
  refine g_arg (pc := 1550) (k := 1) X S dL_law__1550 dL_law__1551 dL_law__1553 dL_law__1554 dL_law__1555 kiconst_1 (by omega) (by omega) hL ?_
  refine g_arg (pc := 1556) (k := 2) X S dL_law__1556 dL_law__1557 dL_law__1559 dL_law__1560 dL_law__1561 kiconst_2 (by omega) (by omega) hL ?_
  refine g_aload_3 (pc := 1562) X dL_law__1562 ?_
  refine g_callSW (pc := 1563) X Y dL_law__1563 mwL_ring li_L_199 (lL_ring hst hI (xs (i + 1)) (xs (i + 2))) rfl ⟨Nat.le_of_ble_eq_true rfl, Nat.le_of_ble_eq_true rfl⟩ ⟨by omega, by omega⟩ (by exact Nat.le_of_ble_eq_true rfl) rfl (fun k s hp => ?_)
  obtain ⟨⟨b2, hR⟩, h⟩ := hp
  refine g_istore_5 (pc := 1566) X dL_law__1566 (by decide) rfl ?_
  refine g_aload_2 (pc := 1568) X dL_law__1568 ?_
  refine g_arg (pc := 1569) (k := 1) X S dL_law__1569 dL_law__1570 dL_law__1572 dL_law__1573 dL_law__1574 kiconst_1 (by omega) (by omega) hL ?_
  refine g_arg (pc := 1575) (k := 2) X S dL_law__1575 dL_law__1576 dL_law__1578 dL_law__1579 dL_law__1580 kiconst_2 (by omega) (by omega) hL ?_
  refine g_callV_I (pc := 1581) X Y dL_law__1581 miX12_ring li_L_201 (t_X12_ring hR h) rfl (by decide) rfl ⟨_, rfl⟩ rfl ⟨Nat.le_of_ble_eq_true rfl, Nat.le_of_ble_eq_true rfl⟩ (by omega) (by omega) rfl (by exact Nat.le_of_ble_eq_true rfl) (fun w t hp => ?_)
  obtain ⟨hR2, h0, hv, hI2⟩ := hp
  refine g_istore_6 (pc := 1584) X dL_law__1584 (by decide) rfl ?_
  refine g_aload_2 (pc := 1586) X dL_law__1586 ?_
  refine g_callV_I (pc := 1587) X Y dL_law__1587 miX12_thrown li_L_122 (t_X12_thrown hR2 (Q := fun x => x = t.1 65 0) rfl) rfl (by decide) rfl ⟨_, rfl⟩ rfl ⟨Nat.le_of_ble_eq_true rfl, Nat.le_of_ble_eq_true rfl⟩ (by omega) (by omega) rfl (by exact Nat.le_of_ble_eq_true rfl) (fun x s9 hp => ?_)
  obtain ⟨rfl, rfl⟩ := hp
  refine g_iload_5 (pc := 1590) X dL_law__1590 ?_
  refine g_icmp_eq (pc := 1592) X dL_law__1592 (tgt := 1597) (by decide) (fun _ => ?_) (fun q => absurd h0 q)
  refine g_iload_5 (pc := 1597) X dL_law__1597 ?_
  have fin : G o γ (cells + 1) (slots + 6) 116 t 1614 [some (.ref bs), some (.ref (ad o 0)), some (.ref (ad o 65)), some (.ref (ad o 115)), some (.int (nI i)), some (.int k), some (.int w), none] [] := by
    refine g_goto (pc := 1614) X dL_law__1614 (tgt := 2484) (by decide) ?_
    refine g_widen (k1 := cells + 5) (k2 := slots + 30) (by omega) (by omega) ?_
    exact g_drop (by simp [lsub]) (K t hI2)
  refine g_if_ne (pc := 1599) X dL_law__1599 (tgt := 1614) (by decide) (fun _ => fin) (fun q => ?_)
  have q0 : k = 0 := by simpa using q
  refine g_aload_3 (pc := 1602) X dL_law__1602 ?_
  refine g_iconst (pc := 1603) X dL_law__1603 kiconst_0 ?_
  refine g_laload_n (pc := 1604) (a := 0) X dL_law__1604 rfl (by decide) rfl (by decide) ?_
  rw [hv q0]
  refine g_iload_6 (pc := 1605) X dL_law__1605 ?_
  refine g_i2l (pc := 1607) X dL_law__1607 ?_
  exact g_lcmp_eq (pc := 1608) X dL_law__1608 dL_law__1609 (tgt := 1614) (by decide) (fun _ => fin) (fun q => absurd rfl q)
theorem lk_23 (X : gX o γ cL_law_ 8 RL) (Y : gE o γ 2048 601024 7293033 116 rt pst) (S : gScr o γ bs L xs) (hst : γ.2.1.stackTraces = false) (hI : Inv b σ) (hi : i + 6 ≤ L) (hL : L ≤ 3072) (hc : cells + 5 ≤ 601024) (hs : slots + 30 ≤ 7293033) (K : lwK o γ bs i cells slots) : G o γ cells slots 116 σ 1617 [some (.ref bs), some (.ref (ad o 0)), some (.ref (ad o 65)), some (.ref (ad o 115)), some (.int (nI i)), none, none, none] [] := by
  have hR := hI.1
  have h := op_rings hI 
  unfold OKN at h
  refine g_aload_1 (pc := 1617) X dL_law__1617 ?_
  refine g_callV_I (pc := 1618) X Y dL_law__1618 miX11_rings li_L_202 (t_X11_rings hR h) rfl (by decide) rfl ⟨_, rfl⟩ rfl ⟨Nat.le_of_ble_eq_true rfl, Nat.le_of_ble_eq_true rfl⟩ (by omega) (by omega) rfl (by exact Nat.le_of_ble_eq_true rfl) (fun v s hp => ?_)
  obtain ⟨rfl, h⟩ := hp
  refine g_aload_2 (pc := 1621) X dL_law__1621 ?_
  refine g_callV_I (pc := 1622) X Y dL_law__1622 miX12_rings li_L_205 (t_X12_rings hR h) rfl (by decide) rfl ⟨_, rfl⟩ rfl ⟨Nat.le_of_ble_eq_true rfl, Nat.le_of_ble_eq_true rfl⟩ (by omega) (by omega) rfl (by exact Nat.le_of_ble_eq_true rfl) (fun w t hp => ?_)
  obtain ⟨hR2, e, hI2⟩ := hp
  subst e
  have fin : G o γ cells slots 116 t 2484 [some (.ref bs), some (.ref (ad o 0)), some (.ref (ad o 65)), some (.ref (ad o 115)), some (.int (nI i)), none, none, none] [] := g_widen (k1 := cells + 5) (k2 := slots + 30) (by omega) (by omega) (K t hI2)
  exact g_icmp_eq (pc := 1625) X dL_law__1625 (tgt := 2484) (by decide) (fun _ => fin) (fun q => absurd rfl q)
theorem lk_24 (X : gX o γ cL_law_ 8 RL) (Y : gE o γ 2048 601024 7293033 116 rt pst) (S : gScr o γ bs L xs) (hst : γ.2.1.stackTraces = false) (hI : Inv b σ) (hi : i + 6 ≤ L) (hL : L ≤ 3072) (hc : cells + 5 ≤ 601024) (hs : slots + 30 ≤ 7293033) (K : lwK o γ bs i cells slots) : G o γ cells slots 116 σ 1630 [some (.ref bs), some (.ref (ad o 0)), some (.ref (ad o 65)), some (.ref (ad o 115)), some (.int (nI i)), none, none, none] [] := by
  refine g_aload_1 (pc := 1630) X dL_law__1630 ?_
  refine g_arg (pc := 1631) (k := 1) X S dL_law__1631 dL_law__1632 dL_law__1634 dL_law__1635 dL_law__1636 kiconst_1 (by omega) (by omega) hL ?_
  refine g_arg (pc := 1637) (k := 2) X S dL_law__1637 dL_law__1638 dL_law__1640 dL_law__1641 dL_law__1642 kiconst_2 (by omega) (by omega) hL ?_
  refine g_arg (pc := 1643) (k := 3) X S dL_law__1643 dL_law__1644 dL_law__1646 dL_law__1647 dL_law__1648 kiconst_3 (by omega) (by omega) hL ?_
  refine g_arg (pc := 1649) (k := 4) X S dL_law__1649 dL_law__1650 dL_law__1652 dL_law__1653 dL_law__1654 kiconst_4 (by omega) (by omega) hL ?_
  refine g_aload_3 (pc := 1655) X dL_law__1655 ?_
  refine g_callSW (pc := 1656) X Y dL_law__1656 mwL_told li_L_206 (lL_told hst hI (xs (i + 1)) (xs (i + 2)) (xs (i + 3)) (xs (i + 4))) rfl ⟨Nat.le_of_ble_eq_true rfl, Nat.le_of_ble_eq_true rfl⟩ ⟨by omega, by omega⟩ (by exact Nat.le_of_ble_eq_true rfl) rfl (fun k s hp => ?_)
  obtain ⟨⟨b2, hR⟩, h⟩ := hp
  refine g_istore_5 (pc := 1659) X dL_law__1659 (by decide) rfl ?_
  refine g_aload_2 (pc := 1661) X dL_law__1661 ?_
  refine g_arg (pc := 1662) (k := 1) X S dL_law__1662 dL_law__1663 dL_law__1665 dL_law__1666 dL_law__1667 kiconst_1 (by omega) (by omega) hL ?_
  refine g_arg (pc := 1668) (k := 2) X S dL_law__1668 dL_law__1669 dL_law__1671 dL_law__1672 dL_law__1673 kiconst_2 (by omega) (by omega) hL ?_
  refine g_arg (pc := 1674) (k := 3) X S dL_law__1674 dL_law__1675 dL_law__1677 dL_law__1678 dL_law__1679 kiconst_3 (by omega) (by omega) hL ?_
  refine g_arg (pc := 1680) (k := 4) X S dL_law__1680 dL_law__1681 dL_law__1683 dL_law__1684 dL_law__1685 kiconst_4 (by omega) (by omega) hL ?_
  refine g_callV_L (pc := 1686) X Y dL_law__1686 miX12_told li_L_209 (t_X12_told hR h) rfl (by decide) rfl ⟨_, rfl⟩ rfl ⟨Nat.le_of_ble_eq_true rfl, Nat.le_of_ble_eq_true rfl⟩ (by omega) (by omega) rfl (by exact Nat.le_of_ble_eq_true rfl) (fun w t hp => ?_)
  obtain ⟨hR2, h0, hv, hI2⟩ := hp
  refine g_lstore_6 (pc := 1689) X dL_law__1689 (by decide) rfl ?_
  refine g_aload_2 (pc := 1691) X dL_law__1691 ?_
  refine g_callV_I (pc := 1692) X Y dL_law__1692 miX12_thrown li_L_122 (t_X12_thrown hR2 (Q := fun x => x = t.1 65 0) rfl) rfl (by decide) rfl ⟨_, rfl⟩ rfl ⟨Nat.le_of_ble_eq_true rfl, Nat.le_of_ble_eq_true rfl⟩ (by omega) (by omega) rfl (by exact Nat.le_of_ble_eq_true rfl) (fun x s9 hp => ?_)
  obtain ⟨rfl, rfl⟩ := hp
  refine g_iload_5 (pc := 1695) X dL_law__1695 ?_
  refine g_icmp_eq (pc := 1697) X dL_law__1697 (tgt := 1702) (by decide) (fun _ => ?_) (fun q => absurd h0 q)
  refine g_iload_5 (pc := 1702) X dL_law__1702 ?_
  have fin : G o γ (cells + 5) (slots + 30) 116 t 1718 [some (.ref bs), some (.ref (ad o 0)), some (.ref (ad o 65)), some (.ref (ad o 115)), some (.int (nI i)), some (.int k), some (.long w), none] [] := by
    refine g_goto (pc := 1718) X dL_law__1718 (tgt := 2484) (by decide) ?_
    refine g_widen (k1 := cells + 5) (k2 := slots + 30) (by omega) (by omega) ?_
    exact g_drop (by simp [lsub]) (K t hI2)
  refine g_if_ne (pc := 1704) X dL_law__1704 (tgt := 1718) (by decide) (fun _ => fin) (fun q => ?_)
  have q0 : k = 0 := by simpa using q
  refine g_aload_3 (pc := 1707) X dL_law__1707 ?_
  refine g_iconst (pc := 1708) X dL_law__1708 kiconst_0 ?_
  refine g_laload_n (pc := 1709) (a := 0) X dL_law__1709 rfl (by decide) rfl (by decide) ?_
  rw [hv q0]
  refine g_lload_6 (pc := 1710) X dL_law__1710 ?_
  exact g_lcmp_eq (pc := 1712) X dL_law__1712 dL_law__1713 (tgt := 1718) (by decide) (fun _ => fin) (fun q => absurd rfl q)
theorem lk_25 (X : gX o γ cL_law_ 8 RL) (Y : gE o γ 2048 601024 7293033 116 rt pst) (S : gScr o γ bs L xs) (hst : γ.2.1.stackTraces = false) (hI : Inv b σ) (hi : i + 6 ≤ L) (hL : L ≤ 3072) (hc : cells + 5 ≤ 601024) (hs : slots + 30 ≤ 7293033) (K : lwK o γ bs i cells slots) : G o γ cells slots 116 σ 1721 [some (.ref bs), some (.ref (ad o 0)), some (.ref (ad o 65)), some (.ref (ad o 115)), some (.int (nI i)), none, none, none] [] := by
  refine g_aload_1 (pc := 1721) X dL_law__1721 ?_
  refine g_arg (pc := 1722) (k := 1) X S dL_law__1722 dL_law__1723 dL_law__1725 dL_law__1726 dL_law__1727 kiconst_1 (by omega) (by omega) hL ?_
  refine g_aload_3 (pc := 1728) X dL_law__1728 ?_
  refine g_callSW (pc := 1729) X Y dL_law__1729 mwL_best li_L_210 (lL_best hst hI (xs (i + 1))) rfl ⟨Nat.le_of_ble_eq_true rfl, Nat.le_of_ble_eq_true rfl⟩ ⟨by omega, by omega⟩ (by exact Nat.le_of_ble_eq_true rfl) rfl (fun k s hp => ?_)
  obtain ⟨⟨b2, hR⟩, h⟩ := hp
  refine g_istore_5 (pc := 1732) X dL_law__1732 (by decide) rfl ?_
  refine g_aload_2 (pc := 1734) X dL_law__1734 ?_
  refine g_arg (pc := 1735) (k := 1) X S dL_law__1735 dL_law__1736 dL_law__1738 dL_law__1739 dL_law__1740 kiconst_1 (by omega) (by omega) hL ?_
  refine g_callV_L (pc := 1741) X Y dL_law__1741 miX12_best li_L_212 (t_X12_best hR h) rfl (by decide) rfl ⟨_, rfl⟩ rfl ⟨Nat.le_of_ble_eq_true rfl, Nat.le_of_ble_eq_true rfl⟩ (by omega) (by omega) rfl (by exact Nat.le_of_ble_eq_true rfl) (fun w t hp => ?_)
  obtain ⟨hR2, h0, hv, hI2⟩ := hp
  refine g_lstore_6 (pc := 1744) X dL_law__1744 (by decide) rfl ?_
  refine g_aload_2 (pc := 1746) X dL_law__1746 ?_
  refine g_callV_I (pc := 1747) X Y dL_law__1747 miX12_thrown li_L_122 (t_X12_thrown hR2 (Q := fun x => x = t.1 65 0) rfl) rfl (by decide) rfl ⟨_, rfl⟩ rfl ⟨Nat.le_of_ble_eq_true rfl, Nat.le_of_ble_eq_true rfl⟩ (by omega) (by omega) rfl (by exact Nat.le_of_ble_eq_true rfl) (fun x s9 hp => ?_)
  obtain ⟨rfl, rfl⟩ := hp
  refine g_iload_5 (pc := 1750) X dL_law__1750 ?_
  refine g_icmp_eq (pc := 1752) X dL_law__1752 (tgt := 1757) (by decide) (fun _ => ?_) (fun q => absurd h0 q)
  refine g_iload_5 (pc := 1757) X dL_law__1757 ?_
  have fin : G o γ (cells + 1) (slots + 6) 116 t 1773 [some (.ref bs), some (.ref (ad o 0)), some (.ref (ad o 65)), some (.ref (ad o 115)), some (.int (nI i)), some (.int k), some (.long w), none] [] := by
    refine g_goto (pc := 1773) X dL_law__1773 (tgt := 2484) (by decide) ?_
    refine g_widen (k1 := cells + 5) (k2 := slots + 30) (by omega) (by omega) ?_
    exact g_drop (by simp [lsub]) (K t hI2)
  refine g_if_ne (pc := 1759) X dL_law__1759 (tgt := 1773) (by decide) (fun _ => fin) (fun q => ?_)
  have q0 : k = 0 := by simpa using q
  refine g_aload_3 (pc := 1762) X dL_law__1762 ?_
  refine g_iconst (pc := 1763) X dL_law__1763 kiconst_0 ?_
  refine g_laload_n (pc := 1764) (a := 0) X dL_law__1764 rfl (by decide) rfl (by decide) ?_
  rw [hv q0]
  refine g_lload_6 (pc := 1765) X dL_law__1765 ?_
  exact g_lcmp_eq (pc := 1767) X dL_law__1767 dL_law__1768 (tgt := 1773) (by decide) (fun _ => fin) (fun q => absurd rfl q)
theorem lk_26 (X : gX o γ cL_law_ 8 RL) (Y : gE o γ 2048 601024 7293033 116 rt pst) (S : gScr o γ bs L xs) (hst : γ.2.1.stackTraces = false) (hI : Inv b σ) (hi : i + 6 ≤ L) (hL : L ≤ 3072) (hc : cells + 5 ≤ 601024) (hs : slots + 30 ≤ 7293033) (K : lwK o γ bs i cells slots) : G o γ cells slots 116 σ 1776 [some (.ref bs), some (.ref (ad o 0)), some (.ref (ad o 65)), some (.ref (ad o 115)), some (.int (nI i)), none, none, none] [] := by
  refine g_aload_1 (pc := 1776) X dL_law__1776 ?_
  refine g_arg (pc := 1777) (k := 1) X S dL_law__1777 dL_law__1778 dL_law__1780 dL_law__1781 dL_law__1782 kiconst_1 (by omega) (by omega) hL ?_
  refine g_aload_3 (pc := 1783) X dL_law__1783 ?_
  refine g_callSW (pc := 1784) X Y dL_law__1784 mwL_many li_L_213 (lL_many hst hI (xs (i + 1))) rfl ⟨Nat.le_of_ble_eq_true rfl, Nat.le_of_ble_eq_true rfl⟩ ⟨by omega, by omega⟩ (by exact Nat.le_of_ble_eq_true rfl) rfl (fun k s hp => ?_)
  obtain ⟨⟨b2, hR⟩, h⟩ := hp
  refine g_istore_5 (pc := 1787) X dL_law__1787 (by decide) rfl ?_
  refine g_aload_2 (pc := 1789) X dL_law__1789 ?_
  refine g_arg (pc := 1790) (k := 1) X S dL_law__1790 dL_law__1791 dL_law__1793 dL_law__1794 dL_law__1795 kiconst_1 (by omega) (by omega) hL ?_
  refine g_callV_I (pc := 1796) X Y dL_law__1796 miX12_many li_L_215 (t_X12_many hR h) rfl (by decide) rfl ⟨_, rfl⟩ rfl ⟨Nat.le_of_ble_eq_true rfl, Nat.le_of_ble_eq_true rfl⟩ (by omega) (by omega) rfl (by exact Nat.le_of_ble_eq_true rfl) (fun w t hp => ?_)
  obtain ⟨hR2, h0, hv, hI2⟩ := hp
  refine g_istore_6 (pc := 1799) X dL_law__1799 (by decide) rfl ?_
  refine g_aload_2 (pc := 1801) X dL_law__1801 ?_
  refine g_callV_I (pc := 1802) X Y dL_law__1802 miX12_thrown li_L_122 (t_X12_thrown hR2 (Q := fun x => x = t.1 65 0) rfl) rfl (by decide) rfl ⟨_, rfl⟩ rfl ⟨Nat.le_of_ble_eq_true rfl, Nat.le_of_ble_eq_true rfl⟩ (by omega) (by omega) rfl (by exact Nat.le_of_ble_eq_true rfl) (fun x s9 hp => ?_)
  obtain ⟨rfl, rfl⟩ := hp
  refine g_iload_5 (pc := 1805) X dL_law__1805 ?_
  refine g_icmp_eq (pc := 1807) X dL_law__1807 (tgt := 1812) (by decide) (fun _ => ?_) (fun q => absurd h0 q)
  refine g_iload_5 (pc := 1812) X dL_law__1812 ?_
  have fin : G o γ (cells + 1) (slots + 6) 116 t 1829 [some (.ref bs), some (.ref (ad o 0)), some (.ref (ad o 65)), some (.ref (ad o 115)), some (.int (nI i)), some (.int k), some (.int w), none] [] := by
    refine g_goto (pc := 1829) X dL_law__1829 (tgt := 2484) (by decide) ?_
    refine g_widen (k1 := cells + 5) (k2 := slots + 30) (by omega) (by omega) ?_
    exact g_drop (by simp [lsub]) (K t hI2)
  refine g_if_ne (pc := 1814) X dL_law__1814 (tgt := 1829) (by decide) (fun _ => fin) (fun q => ?_)
  have q0 : k = 0 := by simpa using q
  refine g_aload_3 (pc := 1817) X dL_law__1817 ?_
  refine g_iconst (pc := 1818) X dL_law__1818 kiconst_0 ?_
  refine g_laload_n (pc := 1819) (a := 0) X dL_law__1819 rfl (by decide) rfl (by decide) ?_
  rw [hv q0]
  refine g_iload_6 (pc := 1820) X dL_law__1820 ?_
  refine g_i2l (pc := 1822) X dL_law__1822 ?_
  exact g_lcmp_eq (pc := 1823) X dL_law__1823 dL_law__1824 (tgt := 1829) (by decide) (fun _ => fin) (fun q => absurd rfl q)
theorem lk_27 (X : gX o γ cL_law_ 8 RL) (Y : gE o γ 2048 601024 7293033 116 rt pst) (S : gScr o γ bs L xs) (hst : γ.2.1.stackTraces = false) (hI : Inv b σ) (hi : i + 6 ≤ L) (hL : L ≤ 3072) (hc : cells + 5 ≤ 601024) (hs : slots + 30 ≤ 7293033) (K : lwK o γ bs i cells slots) : G o γ cells slots 116 σ 1832 [some (.ref bs), some (.ref (ad o 0)), some (.ref (ad o 65)), some (.ref (ad o 115)), some (.int (nI i)), none, none, none] [] := by
  refine g_aload_1 (pc := 1832) X dL_law__1832 ?_
  refine g_arg (pc := 1833) (k := 1) X S dL_law__1833 dL_law__1834 dL_law__1836 dL_law__1837 dL_law__1838 kiconst_1 (by omega) (by omega) hL ?_
  refine g_aload_3 (pc := 1839) X dL_law__1839 ?_
  refine g_callSW (pc := 1840) X Y dL_law__1840 mwL_first li_L_216 (lL_first hst hI (xs (i + 1))) rfl ⟨Nat.le_of_ble_eq_true rfl, Nat.le_of_ble_eq_true rfl⟩ ⟨by omega, by omega⟩ (by exact Nat.le_of_ble_eq_true rfl) rfl (fun k s hp => ?_)
  obtain ⟨⟨b2, hR⟩, h⟩ := hp
  refine g_istore_5 (pc := 1843) X dL_law__1843 (by decide) rfl ?_
  refine g_aload_2 (pc := 1845) X dL_law__1845 ?_
  refine g_arg (pc := 1846) (k := 1) X S dL_law__1846 dL_law__1847 dL_law__1849 dL_law__1850 dL_law__1851 kiconst_1 (by omega) (by omega) hL ?_
  refine g_callV_I (pc := 1852) X Y dL_law__1852 miX12_first li_L_218 (t_X12_first hR h) rfl (by decide) rfl ⟨_, rfl⟩ rfl ⟨Nat.le_of_ble_eq_true rfl, Nat.le_of_ble_eq_true rfl⟩ (by omega) (by omega) rfl (by exact Nat.le_of_ble_eq_true rfl) (fun w t hp => ?_)
  obtain ⟨hR2, h0, hv, hI2⟩ := hp
  refine g_istore_6 (pc := 1855) X dL_law__1855 (by decide) rfl ?_
  refine g_aload_2 (pc := 1857) X dL_law__1857 ?_
  refine g_callV_I (pc := 1858) X Y dL_law__1858 miX12_thrown li_L_122 (t_X12_thrown hR2 (Q := fun x => x = t.1 65 0) rfl) rfl (by decide) rfl ⟨_, rfl⟩ rfl ⟨Nat.le_of_ble_eq_true rfl, Nat.le_of_ble_eq_true rfl⟩ (by omega) (by omega) rfl (by exact Nat.le_of_ble_eq_true rfl) (fun x s9 hp => ?_)
  obtain ⟨rfl, rfl⟩ := hp
  refine g_iload_5 (pc := 1861) X dL_law__1861 ?_
  refine g_icmp_eq (pc := 1863) X dL_law__1863 (tgt := 1868) (by decide) (fun _ => ?_) (fun q => absurd h0 q)
  refine g_iload_5 (pc := 1868) X dL_law__1868 ?_
  have fin : G o γ (cells + 1) (slots + 6) 116 t 1885 [some (.ref bs), some (.ref (ad o 0)), some (.ref (ad o 65)), some (.ref (ad o 115)), some (.int (nI i)), some (.int k), some (.int w), none] [] := by
    refine g_goto (pc := 1885) X dL_law__1885 (tgt := 2484) (by decide) ?_
    refine g_widen (k1 := cells + 5) (k2 := slots + 30) (by omega) (by omega) ?_
    exact g_drop (by simp [lsub]) (K t hI2)
  refine g_if_ne (pc := 1870) X dL_law__1870 (tgt := 1885) (by decide) (fun _ => fin) (fun q => ?_)
  have q0 : k = 0 := by simpa using q
  refine g_aload_3 (pc := 1873) X dL_law__1873 ?_
  refine g_iconst (pc := 1874) X dL_law__1874 kiconst_0 ?_
  refine g_laload_n (pc := 1875) (a := 0) X dL_law__1875 rfl (by decide) rfl (by decide) ?_
  rw [hv q0]
  refine g_iload_6 (pc := 1876) X dL_law__1876 ?_
  refine g_i2l (pc := 1878) X dL_law__1878 ?_
  exact g_lcmp_eq (pc := 1879) X dL_law__1879 dL_law__1880 (tgt := 1885) (by decide) (fun _ => fin) (fun q => absurd rfl q)
end LAWC
