section LWC3
variable {p : Program} {l : Launch} {e : Env} {s : State} {m : MethodId} {below : List Frame} {meth : Method} {c : Code} {H : Heap} {locs : List Loc} {cells slots : Nat} {Q : State → Prop} {ls : Array Slot} {g : XG} {σ : Mem} {b L : Nat} {xs : Nat → Int32} {i : Int32}
set_option maxHeartbeats 1000000 in
set_option maxRecDepth 100000 in
theorem lwc_36 (C : LwC p s m c b L xs g) (hin : LwI L i) (hR : RLq σ) (hW : Wd g 0 81 σ H) (hS : va_S (Ag g 0) s.heap H locs) (hl : lv_has ls 7 (lwL b g i)) (hcs : cells + 1 ≤ 601024 ∧ slots + 6 ≤ 7293034) (kk : LwK p l e s m below meth c b g i (cells + 1) (slots + 6) Q) : W p l e room_1 s m #[Value.ref b] below meth c H locs cells slots Q (F0 m 1254 ls []) := by
  obtain ⟨hx, hb, hml, hown, hts, hX, hbl, hbA, hZ, hT, hXN⟩ := C
  have hz0 : cells + 0 ≤ room_1.cells ∧ slots + 0 ≤ room_1.slots := ⟨by have := hcs.1; show cells ≤ 601024; omega, by have := hcs.2; show slots ≤ 7293034; omega⟩
  obtain ⟨r, σ1, σ2, e1, e2, hR2⟩ := rel_month σ hR (xs (i + 1).toNatClampNeg)
  refine lv_aload_n hx hb dL_law_1254 rfl (lv_at hl 1 rfl) ?_
  refine lv_aload_n hx hb dL_law_1255 rfl (lv_at hl 0 rfl) ?_
  refine lv_iload hx hb dL_law_1256 (lv_at hl 4 rfl) ?_
  refine lv_iconst (v := 1) hx hb dL_law_1258 (by decide) ?_
  refine lv_iadd hx hb dL_law_1259 ?_
  refine va_sld hx hb hX hbl hbA hS hin.1 dL_law_1260 ?_
  refine lwi (va_runV (As := [.int (xs (i + 1).toNatClampNeg)]) (rest := []) ⟨hx, hb, hml, hown, hts⟩ (c_X12_month g l σ (xs (i + 1).toNatClampNeg) r σ1 e1) (cwV 1 hts (gdV lm_L_168 lim_X12_month lse_X12_month ini_X12 lc_X12_month) rfl rfl rfl (by decide +kernel) ⟨(Nat.le_of_ble_eq_true rfl), (Nat.le_of_ble_eq_true rfl)⟩) (mpV_12 hZ hT hS hW tz_0 _) rfl rfl hl.1 rfl (lv_room (Nat.le_of_ble_eq_true rfl)) dL_law_1261 hz0) hS (fun H locs hW hS => ?_)
  refine lv_aload_n hx hb dL_law_1264 rfl (lv_at hl 2 rfl) ?_
  refine lv_aload_n hx hb dL_law_1265 rfl (lv_at hl 0 rfl) ?_
  refine lv_iload hx hb dL_law_1266 (lv_at hl 4 rfl) ?_
  refine lv_iconst (v := 1) hx hb dL_law_1268 (by decide) ?_
  refine lv_iadd hx hb dL_law_1269 ?_
  refine va_sld hx hb hX hbl hbA hS hin.1 dL_law_1270 ?_
  refine lwi (va_runV (As := [.int (xs (i + 1).toNatClampNeg)]) (rest := [.int r]) ⟨hx, hb, hml, hown, hts⟩ (c_X13_month g l σ1 (xs (i + 1).toNatClampNeg) r σ2 e2) (cwV 1 hts (gdV lm_L_171 lim_X13_month lse_X13_month ini_X13 lc_X13_month) rfl rfl rfl (by decide +kernel) ⟨(Nat.le_of_ble_eq_true rfl), (Nat.le_of_ble_eq_true rfl)⟩) (mpV_13 hZ hT hS hW tz_64 _) rfl rfl hl.1 rfl (lv_room (Nat.le_of_ble_eq_true rfl)) dL_law_1271 hz0) hS (fun H locs hW hS => ?_)
  exact lv_icmp_eq (tgt := 1609) hx hb dL_law_1274 (by decide) (fun _ => W.widen (k := cells + 1) (n := slots + 6) (Nat.le_succ _) (Nat.le_add_right _ _) (kk σ2 H locs ls hR2 hW hS hl)) (fun h => absurd rfl h)
set_option maxHeartbeats 1000000 in
set_option maxRecDepth 100000 in
theorem lwc_37 (C : LwC p s m c b L xs g) (hin : LwI L i) (hR : RLq σ) (hW : Wd g 0 81 σ H) (hS : va_S (Ag g 0) s.heap H locs) (hl : lv_has ls 7 (lwL b g i)) (hcs : cells + 1 ≤ 601024 ∧ slots + 6 ≤ 7293034) (kk : LwK p l e s m below meth c b g i (cells + 1) (slots + 6) Q) : W p l e room_1 s m #[Value.ref b] below meth c H locs cells slots Q (F0 m 1279 ls []) := by
  obtain ⟨hx, hb, hml, hown, hts, hX, hbl, hbA, hZ, hT, hXN⟩ := C
  have hz0 : cells + 0 ≤ room_1.cells ∧ slots + 0 ≤ room_1.slots := ⟨by have := hcs.1; show cells ≤ 601024; omega, by have := hcs.2; show slots ≤ 7293034; omega⟩
  obtain ⟨r, σ1, σ2, e1, e2, hR2⟩ := rel_lost σ hR (xs (i + 1).toNatClampNeg) (xs (i + 2).toNatClampNeg) (xs (i + 3).toNatClampNeg)
  refine lv_aload_n hx hb dL_law_1279 rfl (lv_at hl 1 rfl) ?_
  refine lv_aload_n hx hb dL_law_1280 rfl (lv_at hl 0 rfl) ?_
  refine lv_iload hx hb dL_law_1281 (lv_at hl 4 rfl) ?_
  refine lv_iconst (v := 1) hx hb dL_law_1283 (by decide) ?_
  refine lv_iadd hx hb dL_law_1284 ?_
  refine va_sld hx hb hX hbl hbA hS hin.1 dL_law_1285 ?_
  refine lv_aload_n hx hb dL_law_1286 rfl (lv_at hl 0 rfl) ?_
  refine lv_iload hx hb dL_law_1287 (lv_at hl 4 rfl) ?_
  refine lv_iconst (v := 2) hx hb dL_law_1289 (by decide) ?_
  refine lv_iadd hx hb dL_law_1290 ?_
  refine va_sld hx hb hX hbl hbA hS hin.2.1 dL_law_1291 ?_
  refine lv_aload_n hx hb dL_law_1292 rfl (lv_at hl 0 rfl) ?_
  refine lv_iload hx hb dL_law_1293 (lv_at hl 4 rfl) ?_
  refine lv_iconst (v := 3) hx hb dL_law_1295 (by decide) ?_
  refine lv_iadd hx hb dL_law_1296 ?_
  refine va_sld hx hb hX hbl hbA hS hin.2.2.1 dL_law_1297 ?_
  refine lwi (va_runV (As := [.int (xs (i + 1).toNatClampNeg), .int (xs (i + 2).toNatClampNeg), .int (xs (i + 3).toNatClampNeg)]) (rest := []) ⟨hx, hb, hml, hown, hts⟩ (c_X12_lost g l σ (xs (i + 1).toNatClampNeg) (xs (i + 2).toNatClampNeg) (xs (i + 3).toNatClampNeg) r σ1 e1) (cwV 3 hts (gdV lm_L_172 lim_X12_lost lse_X12_lost ini_X12 lc_X12_lost) rfl rfl rfl (by decide +kernel) ⟨(Nat.le_of_ble_eq_true rfl), (Nat.le_of_ble_eq_true rfl)⟩) (mpV_12 hZ hT hS hW tz_0 _) rfl rfl hl.1 rfl (lv_room (Nat.le_of_ble_eq_true rfl)) dL_law_1298 hz0) hS (fun H locs hW hS => ?_)
  refine lv_aload_n hx hb dL_law_1301 rfl (lv_at hl 2 rfl) ?_
  refine lv_aload_n hx hb dL_law_1302 rfl (lv_at hl 0 rfl) ?_
  refine lv_iload hx hb dL_law_1303 (lv_at hl 4 rfl) ?_
  refine lv_iconst (v := 1) hx hb dL_law_1305 (by decide) ?_
  refine lv_iadd hx hb dL_law_1306 ?_
  refine va_sld hx hb hX hbl hbA hS hin.1 dL_law_1307 ?_
  refine lv_aload_n hx hb dL_law_1308 rfl (lv_at hl 0 rfl) ?_
  refine lv_iload hx hb dL_law_1309 (lv_at hl 4 rfl) ?_
  refine lv_iconst (v := 2) hx hb dL_law_1311 (by decide) ?_
  refine lv_iadd hx hb dL_law_1312 ?_
  refine va_sld hx hb hX hbl hbA hS hin.2.1 dL_law_1313 ?_
  refine lv_aload_n hx hb dL_law_1314 rfl (lv_at hl 0 rfl) ?_
  refine lv_iload hx hb dL_law_1315 (lv_at hl 4 rfl) ?_
  refine lv_iconst (v := 3) hx hb dL_law_1317 (by decide) ?_
  refine lv_iadd hx hb dL_law_1318 ?_
  refine va_sld hx hb hX hbl hbA hS hin.2.2.1 dL_law_1319 ?_
  refine lwi (va_runV (As := [.int (xs (i + 1).toNatClampNeg), .int (xs (i + 2).toNatClampNeg), .int (xs (i + 3).toNatClampNeg)]) (rest := [.int r]) ⟨hx, hb, hml, hown, hts⟩ (c_X13_lost g l σ1 (xs (i + 1).toNatClampNeg) (xs (i + 2).toNatClampNeg) (xs (i + 3).toNatClampNeg) r σ2 e2) (cwV 3 hts (gdV lm_L_175 lim_X13_lost lse_X13_lost ini_X13 lc_X13_lost) rfl rfl rfl (by decide +kernel) ⟨(Nat.le_of_ble_eq_true rfl), (Nat.le_of_ble_eq_true rfl)⟩) (mpV_13 hZ hT hS hW tz_64 _) rfl rfl hl.1 rfl (lv_room (Nat.le_of_ble_eq_true rfl)) dL_law_1320 hz0) hS (fun H locs hW hS => ?_)
  exact lv_icmp_eq (tgt := 1609) hx hb dL_law_1323 (by decide) (fun _ => W.widen (k := cells + 1) (n := slots + 6) (Nat.le_succ _) (Nat.le_add_right _ _) (kk σ2 H locs ls hR2 hW hS hl)) (fun h => absurd rfl h)
set_option maxHeartbeats 1000000 in
set_option maxRecDepth 100000 in
theorem lwc_38 (C : LwC p s m c b L xs g) (hin : LwI L i) (hR : RLq σ) (hW : Wd g 0 81 σ H) (hS : va_S (Ag g 0) s.heap H locs) (hl : lv_has ls 7 (lwL b g i)) (hcs : cells + 1 ≤ 601024 ∧ slots + 6 ≤ 7293034) (kk : LwK p l e s m below meth c b g i (cells + 1) (slots + 6) Q) : W p l e room_1 s m #[Value.ref b] below meth c H locs cells slots Q (F0 m 1328 ls []) := by
  obtain ⟨hx, hb, hml, hown, hts, hX, hbl, hbA, hZ, hT, hXN⟩ := C
  have hz0 : cells + 0 ≤ room_1.cells ∧ slots + 0 ≤ room_1.slots := ⟨by have := hcs.1; show cells ≤ 601024; omega, by have := hcs.2; show slots ≤ 7293034; omega⟩
  obtain ⟨r, σ1, σ2, e1, e2, hR2⟩ := rel_book σ hR (xs (i + 1).toNatClampNeg) (xs (i + 2).toNatClampNeg)
  refine lv_aload_n hx hb dL_law_1328 rfl (lv_at hl 1 rfl) ?_
  refine lv_aload_n hx hb dL_law_1329 rfl (lv_at hl 0 rfl) ?_
  refine lv_iload hx hb dL_law_1330 (lv_at hl 4 rfl) ?_
  refine lv_iconst (v := 1) hx hb dL_law_1332 (by decide) ?_
  refine lv_iadd hx hb dL_law_1333 ?_
  refine va_sld hx hb hX hbl hbA hS hin.1 dL_law_1334 ?_
  refine lv_aload_n hx hb dL_law_1335 rfl (lv_at hl 0 rfl) ?_
  refine lv_iload hx hb dL_law_1336 (lv_at hl 4 rfl) ?_
  refine lv_iconst (v := 2) hx hb dL_law_1338 (by decide) ?_
  refine lv_iadd hx hb dL_law_1339 ?_
  refine va_sld hx hb hX hbl hbA hS hin.2.1 dL_law_1340 ?_
  refine lwi (va_runV (As := [.int (xs (i + 1).toNatClampNeg), .int (xs (i + 2).toNatClampNeg)]) (rest := []) ⟨hx, hb, hml, hown, hts⟩ (c_X12_book g l σ (xs (i + 1).toNatClampNeg) (xs (i + 2).toNatClampNeg) r σ1 e1) (cwV 2 hts (gdV lm_L_176 lim_X12_book lse_X12_book ini_X12 lc_X12_book) rfl rfl rfl (by decide +kernel) ⟨(Nat.le_of_ble_eq_true rfl), (Nat.le_of_ble_eq_true rfl)⟩) (mpV_12 hZ hT hS hW tz_0 _) rfl rfl hl.1 rfl (lv_room (Nat.le_of_ble_eq_true rfl)) dL_law_1341 hz0) hS (fun H locs hW hS => ?_)
  refine lv_aload_n hx hb dL_law_1344 rfl (lv_at hl 2 rfl) ?_
  refine lv_aload_n hx hb dL_law_1345 rfl (lv_at hl 0 rfl) ?_
  refine lv_iload hx hb dL_law_1346 (lv_at hl 4 rfl) ?_
  refine lv_iconst (v := 1) hx hb dL_law_1348 (by decide) ?_
  refine lv_iadd hx hb dL_law_1349 ?_
  refine va_sld hx hb hX hbl hbA hS hin.1 dL_law_1350 ?_
  refine lv_aload_n hx hb dL_law_1351 rfl (lv_at hl 0 rfl) ?_
  refine lv_iload hx hb dL_law_1352 (lv_at hl 4 rfl) ?_
  refine lv_iconst (v := 2) hx hb dL_law_1354 (by decide) ?_
  refine lv_iadd hx hb dL_law_1355 ?_
  refine va_sld hx hb hX hbl hbA hS hin.2.1 dL_law_1356 ?_
  refine lwi (va_runV (As := [.int (xs (i + 1).toNatClampNeg), .int (xs (i + 2).toNatClampNeg)]) (rest := [.int r]) ⟨hx, hb, hml, hown, hts⟩ (c_X13_book g l σ1 (xs (i + 1).toNatClampNeg) (xs (i + 2).toNatClampNeg) r σ2 e2) (cwV 2 hts (gdV lm_L_180 lim_X13_book lse_X13_book ini_X13 lc_X13_book) rfl rfl rfl (by decide +kernel) ⟨(Nat.le_of_ble_eq_true rfl), (Nat.le_of_ble_eq_true rfl)⟩) (mpV_13 hZ hT hS hW tz_64 _) rfl rfl hl.1 rfl (lv_room (Nat.le_of_ble_eq_true rfl)) dL_law_1357 hz0) hS (fun H locs hW hS => ?_)
  exact lv_icmp_eq (tgt := 1609) hx hb dL_law_1360 (by decide) (fun _ => W.widen (k := cells + 1) (n := slots + 6) (Nat.le_succ _) (Nat.le_add_right _ _) (kk σ2 H locs ls hR2 hW hS hl)) (fun h => absurd rfl h)
set_option maxHeartbeats 1000000 in
set_option maxRecDepth 100000 in
theorem lwc_39 (C : LwC p s m c b L xs g) (hin : LwI L i) (hR : RLq σ) (hW : Wd g 0 81 σ H) (hS : va_S (Ag g 0) s.heap H locs) (hl : lv_has ls 7 (lwL b g i)) (hcs : cells + 1 ≤ 601024 ∧ slots + 6 ≤ 7293034) (kk : LwK p l e s m below meth c b g i (cells + 1) (slots + 6) Q) : W p l e room_1 s m #[Value.ref b] below meth c H locs cells slots Q (F0 m 1365 ls []) := by
  obtain ⟨hx, hb, hml, hown, hts, hX, hbl, hbA, hZ, hT, hXN⟩ := C
  have hz0 : cells + 0 ≤ room_1.cells ∧ slots + 0 ≤ room_1.slots := ⟨by have := hcs.1; show cells ≤ 601024; omega, by have := hcs.2; show slots ≤ 7293034; omega⟩
  obtain ⟨r, σ1, σ2, e1, e2, hR2⟩ := rel_callOff σ hR (xs (i + 1).toNatClampNeg)
  refine lv_aload_n hx hb dL_law_1365 rfl (lv_at hl 1 rfl) ?_
  refine lv_aload_n hx hb dL_law_1366 rfl (lv_at hl 0 rfl) ?_
  refine lv_iload hx hb dL_law_1367 (lv_at hl 4 rfl) ?_
  refine lv_iconst (v := 1) hx hb dL_law_1369 (by decide) ?_
  refine lv_iadd hx hb dL_law_1370 ?_
  refine va_sld hx hb hX hbl hbA hS hin.1 dL_law_1371 ?_
  refine lwi (va_runV (As := [.int (xs (i + 1).toNatClampNeg)]) (rest := []) ⟨hx, hb, hml, hown, hts⟩ (c_X12_callOff g l σ (xs (i + 1).toNatClampNeg) r σ1 e1) (cwV 1 hts (gdV lm_L_181 lim_X12_callOff lse_X12_callOff ini_X12 lc_X12_callOff) rfl rfl rfl (by decide +kernel) ⟨(Nat.le_of_ble_eq_true rfl), (Nat.le_of_ble_eq_true rfl)⟩) (mpV_12 hZ hT hS hW tz_0 _) rfl rfl hl.1 rfl (lv_room (Nat.le_of_ble_eq_true rfl)) dL_law_1372 hz0) hS (fun H locs hW hS => ?_)
  refine lv_aload_n hx hb dL_law_1375 rfl (lv_at hl 2 rfl) ?_
  refine lv_aload_n hx hb dL_law_1376 rfl (lv_at hl 0 rfl) ?_
  refine lv_iload hx hb dL_law_1377 (lv_at hl 4 rfl) ?_
  refine lv_iconst (v := 1) hx hb dL_law_1379 (by decide) ?_
  refine lv_iadd hx hb dL_law_1380 ?_
  refine va_sld hx hb hX hbl hbA hS hin.1 dL_law_1381 ?_
  refine lwi (va_runV (As := [.int (xs (i + 1).toNatClampNeg)]) (rest := [.int r]) ⟨hx, hb, hml, hown, hts⟩ (c_X13_callOff g l σ1 (xs (i + 1).toNatClampNeg) r σ2 e2) (cwV 1 hts (gdV lm_L_185 lim_X13_callOff lse_X13_callOff ini_X13 lc_X13_callOff) rfl rfl rfl (by decide +kernel) ⟨(Nat.le_of_ble_eq_true rfl), (Nat.le_of_ble_eq_true rfl)⟩) (mpV_13 hZ hT hS hW tz_64 _) rfl rfl hl.1 rfl (lv_room (Nat.le_of_ble_eq_true rfl)) dL_law_1382 hz0) hS (fun H locs hW hS => ?_)
  exact lv_icmp_eq (tgt := 1609) hx hb dL_law_1385 (by decide) (fun _ => W.widen (k := cells + 1) (n := slots + 6) (Nat.le_succ _) (Nat.le_add_right _ _) (kk σ2 H locs ls hR2 hW hS hl)) (fun h => absurd rfl h)
set_option maxHeartbeats 1000000 in
set_option maxRecDepth 100000 in
theorem lwc_40 (C : LwC p s m c b L xs g) (hin : LwI L i) (hR : RLq σ) (hW : Wd g 0 81 σ H) (hS : va_S (Ag g 0) s.heap H locs) (hl : lv_has ls 7 (lwL b g i)) (hcs : cells + 1 ≤ 601024 ∧ slots + 6 ≤ 7293034) (kk : LwK p l e s m below meth c b g i (cells + 1) (slots + 6) Q) : W p l e room_1 s m #[Value.ref b] below meth c H locs cells slots Q (F0 m 1390 ls []) := by
  obtain ⟨hx, hb, hml, hown, hts, hX, hbl, hbA, hZ, hT, hXN⟩ := C
  have hz0 : cells + 0 ≤ room_1.cells ∧ slots + 0 ≤ room_1.slots := ⟨by have := hcs.1; show cells ≤ 601024; omega, by have := hcs.2; show slots ≤ 7293034; omega⟩
  obtain ⟨r, σ1, σ2, e1, e2, hR2⟩ := rel_shock σ hR (xs (i + 1).toNatClampNeg) (xs (i + 2).toNatClampNeg) (xs (i + 3).toNatClampNeg)
  refine lv_aload_n hx hb dL_law_1390 rfl (lv_at hl 1 rfl) ?_
  refine lv_aload_n hx hb dL_law_1391 rfl (lv_at hl 0 rfl) ?_
  refine lv_iload hx hb dL_law_1392 (lv_at hl 4 rfl) ?_
  refine lv_iconst (v := 1) hx hb dL_law_1394 (by decide) ?_
  refine lv_iadd hx hb dL_law_1395 ?_
  refine va_sld hx hb hX hbl hbA hS hin.1 dL_law_1396 ?_
  refine lv_aload_n hx hb dL_law_1397 rfl (lv_at hl 0 rfl) ?_
  refine lv_iload hx hb dL_law_1398 (lv_at hl 4 rfl) ?_
  refine lv_iconst (v := 2) hx hb dL_law_1400 (by decide) ?_
  refine lv_iadd hx hb dL_law_1401 ?_
  refine va_sld hx hb hX hbl hbA hS hin.2.1 dL_law_1402 ?_
  refine lv_aload_n hx hb dL_law_1403 rfl (lv_at hl 0 rfl) ?_
  refine lv_iload hx hb dL_law_1404 (lv_at hl 4 rfl) ?_
  refine lv_iconst (v := 3) hx hb dL_law_1406 (by decide) ?_
  refine lv_iadd hx hb dL_law_1407 ?_
  refine va_sld hx hb hX hbl hbA hS hin.2.2.1 dL_law_1408 ?_
  refine lwi (va_runV (As := [.int (xs (i + 1).toNatClampNeg), .int (xs (i + 2).toNatClampNeg), .int (xs (i + 3).toNatClampNeg)]) (rest := []) ⟨hx, hb, hml, hown, hts⟩ (c_X12_shock g l σ (xs (i + 1).toNatClampNeg) (xs (i + 2).toNatClampNeg) (xs (i + 3).toNatClampNeg) r σ1 e1) (cwV 3 hts (gdV lm_L_186 lim_X12_shock lse_X12_shock ini_X12 lc_X12_shock) rfl rfl rfl (by decide +kernel) ⟨(Nat.le_of_ble_eq_true rfl), (Nat.le_of_ble_eq_true rfl)⟩) (mpV_12 hZ hT hS hW tz_0 _) rfl rfl hl.1 rfl (lv_room (Nat.le_of_ble_eq_true rfl)) dL_law_1409 hz0) hS (fun H locs hW hS => ?_)
  refine lv_aload_n hx hb dL_law_1412 rfl (lv_at hl 2 rfl) ?_
  refine lv_aload_n hx hb dL_law_1413 rfl (lv_at hl 0 rfl) ?_
  refine lv_iload hx hb dL_law_1414 (lv_at hl 4 rfl) ?_
  refine lv_iconst (v := 1) hx hb dL_law_1416 (by decide) ?_
  refine lv_iadd hx hb dL_law_1417 ?_
  refine va_sld hx hb hX hbl hbA hS hin.1 dL_law_1418 ?_
  refine lv_aload_n hx hb dL_law_1419 rfl (lv_at hl 0 rfl) ?_
  refine lv_iload hx hb dL_law_1420 (lv_at hl 4 rfl) ?_
  refine lv_iconst (v := 2) hx hb dL_law_1422 (by decide) ?_
  refine lv_iadd hx hb dL_law_1423 ?_
  refine va_sld hx hb hX hbl hbA hS hin.2.1 dL_law_1424 ?_
  refine lv_aload_n hx hb dL_law_1425 rfl (lv_at hl 0 rfl) ?_
  refine lv_iload hx hb dL_law_1426 (lv_at hl 4 rfl) ?_
  refine lv_iconst (v := 3) hx hb dL_law_1428 (by decide) ?_
  refine lv_iadd hx hb dL_law_1429 ?_
  refine va_sld hx hb hX hbl hbA hS hin.2.2.1 dL_law_1430 ?_
  refine lwi (va_runV (As := [.int (xs (i + 1).toNatClampNeg), .int (xs (i + 2).toNatClampNeg), .int (xs (i + 3).toNatClampNeg)]) (rest := [.int r]) ⟨hx, hb, hml, hown, hts⟩ (c_X13_shock g l σ1 (xs (i + 1).toNatClampNeg) (xs (i + 2).toNatClampNeg) (xs (i + 3).toNatClampNeg) r σ2 e2) (cwV 3 hts (gdV lm_L_190 lim_X13_shock lse_X13_shock ini_X13 lc_X13_shock) rfl rfl rfl (by decide +kernel) ⟨(Nat.le_of_ble_eq_true rfl), (Nat.le_of_ble_eq_true rfl)⟩) (mpV_13 hZ hT hS hW tz_64 _) rfl rfl hl.1 rfl (lv_room (Nat.le_of_ble_eq_true rfl)) dL_law_1431 hz0) hS (fun H locs hW hS => ?_)
  exact lv_icmp_eq (tgt := 1609) hx hb dL_law_1434 (by decide) (fun _ => W.widen (k := cells + 1) (n := slots + 6) (Nat.le_succ _) (Nat.le_add_right _ _) (kk σ2 H locs ls hR2 hW hS hl)) (fun h => absurd rfl h)
set_option maxHeartbeats 1000000 in
set_option maxRecDepth 100000 in
theorem lwc_41 (C : LwC p s m c b L xs g) (hin : LwI L i) (hR : RLq σ) (hW : Wd g 0 81 σ H) (hS : va_S (Ag g 0) s.heap H locs) (hl : lv_has ls 7 (lwL b g i)) (hcs : cells + 1 ≤ 601024 ∧ slots + 6 ≤ 7293034) (kk : LwK p l e s m below meth c b g i (cells + 1) (slots + 6) Q) : W p l e room_1 s m #[Value.ref b] below meth c H locs cells slots Q (F0 m 1439 ls []) := by
  obtain ⟨hx, hb, hml, hown, hts, hX, hbl, hbA, hZ, hT, hXN⟩ := C
  have hz0 : cells + 0 ≤ room_1.cells ∧ slots + 0 ≤ room_1.slots := ⟨by have := hcs.1; show cells ≤ 601024; omega, by have := hcs.2; show slots ≤ 7293034; omega⟩
  obtain ⟨r, σ1, σ2, e1, e2, hR2⟩ := rel_days σ hR (xs (i + 1).toNatClampNeg)
  refine lv_aload_n hx hb dL_law_1439 rfl (lv_at hl 1 rfl) ?_
  refine lv_aload_n hx hb dL_law_1440 rfl (lv_at hl 0 rfl) ?_
  refine lv_iload hx hb dL_law_1441 (lv_at hl 4 rfl) ?_
  refine lv_iconst (v := 1) hx hb dL_law_1443 (by decide) ?_
  refine lv_iadd hx hb dL_law_1444 ?_
  refine va_sld hx hb hX hbl hbA hS hin.1 dL_law_1445 ?_
  refine lwi (va_runV (As := [.int (xs (i + 1).toNatClampNeg)]) (rest := []) ⟨hx, hb, hml, hown, hts⟩ (c_X12_days g l σ (xs (i + 1).toNatClampNeg) r σ1 e1) (cwV 1 hts (gdV lm_L_191 lim_X12_days lse_X12_days ini_X12 lc_X12_days) rfl rfl rfl (by decide +kernel) ⟨(Nat.le_of_ble_eq_true rfl), (Nat.le_of_ble_eq_true rfl)⟩) (mpV_12 hZ hT hS hW tz_0 _) rfl rfl hl.1 rfl (lv_room (Nat.le_of_ble_eq_true rfl)) dL_law_1446 hz0) hS (fun H locs hW hS => ?_)
  refine lv_aload_n hx hb dL_law_1449 rfl (lv_at hl 2 rfl) ?_
  refine lv_aload_n hx hb dL_law_1450 rfl (lv_at hl 0 rfl) ?_
  refine lv_iload hx hb dL_law_1451 (lv_at hl 4 rfl) ?_
  refine lv_iconst (v := 1) hx hb dL_law_1453 (by decide) ?_
  refine lv_iadd hx hb dL_law_1454 ?_
  refine va_sld hx hb hX hbl hbA hS hin.1 dL_law_1455 ?_
  refine lwi (va_runV (As := [.int (xs (i + 1).toNatClampNeg)]) (rest := [.int r]) ⟨hx, hb, hml, hown, hts⟩ (c_X13_days g l σ1 (xs (i + 1).toNatClampNeg) r σ2 e2) (cwV 1 hts (gdV lm_L_194 lim_X13_days lse_X13_days ini_X13 lc_X13_days) rfl rfl rfl (by decide +kernel) ⟨(Nat.le_of_ble_eq_true rfl), (Nat.le_of_ble_eq_true rfl)⟩) (mpV_13 hZ hT hS hW tz_64 _) rfl rfl hl.1 rfl (lv_room (Nat.le_of_ble_eq_true rfl)) dL_law_1456 hz0) hS (fun H locs hW hS => ?_)
  exact lv_icmp_eq (tgt := 1609) hx hb dL_law_1459 (by decide) (fun _ => W.widen (k := cells + 1) (n := slots + 6) (Nat.le_succ _) (Nat.le_add_right _ _) (kk σ2 H locs ls hR2 hW hS hl)) (fun h => absurd rfl h)
set_option maxHeartbeats 1000000 in
set_option maxRecDepth 100000 in
theorem lwc_42 (C : LwC p s m c b L xs g) (hin : LwI L i) (hR : RLq σ) (hW : Wd g 0 81 σ H) (hS : va_S (Ag g 0) s.heap H locs) (hl : lv_has ls 7 (lwL b g i)) (hcs : cells + 1 ≤ 601024 ∧ slots + 6 ≤ 7293034) (kk : LwK p l e s m below meth c b g i (cells + 1) (slots + 6) Q) : W p l e room_1 s m #[Value.ref b] below meth c H locs cells slots Q (F0 m 1464 ls []) := by
  obtain ⟨hx, hb, hml, hown, hts, hX, hbl, hbA, hZ, hT, hXN⟩ := C
  have hz0 : cells + 0 ≤ room_1.cells ∧ slots + 0 ≤ room_1.slots := ⟨by have := hcs.1; show cells ≤ 601024; omega, by have := hcs.2; show slots ≤ 7293034; omega⟩
  obtain ⟨r, σ1, σ2, e1, e2, hR2⟩ := rel_undo σ hR
  refine lv_aload_n hx hb dL_law_1464 rfl (lv_at hl 1 rfl) ?_
  refine lwi (va_runV (As := []) (rest := []) ⟨hx, hb, hml, hown, hts⟩ (c_X12_undo g l σ r σ1 e1) (cwV 0 hts (gdV lm_L_195 lim_X12_undo lse_X12_undo ini_X12 lc_X12_undo) rfl rfl rfl (by decide +kernel) ⟨(Nat.le_of_ble_eq_true rfl), (Nat.le_of_ble_eq_true rfl)⟩) (mpV_12 hZ hT hS hW tz_0 _) rfl rfl hl.1 rfl (lv_room (Nat.le_of_ble_eq_true rfl)) dL_law_1465 hz0) hS (fun H locs hW hS => ?_)
  refine lv_aload_n hx hb dL_law_1468 rfl (lv_at hl 2 rfl) ?_
  refine lwi (va_runV (As := []) (rest := [.int r]) ⟨hx, hb, hml, hown, hts⟩ (c_X13_undo g l σ1 r σ2 e2) (cwV 0 hts (gdV lm_L_199 lim_X13_undo lse_X13_undo ini_X13 lc_X13_undo) rfl rfl rfl (by decide +kernel) ⟨(Nat.le_of_ble_eq_true rfl), (Nat.le_of_ble_eq_true rfl)⟩) (mpV_13 hZ hT hS hW tz_64 _) rfl rfl hl.1 rfl (lv_room (Nat.le_of_ble_eq_true rfl)) dL_law_1469 hz0) hS (fun H locs hW hS => ?_)
  exact lv_icmp_eq (tgt := 1609) hx hb dL_law_1472 (by decide) (fun _ => W.widen (k := cells + 1) (n := slots + 6) (Nat.le_succ _) (Nat.le_add_right _ _) (kk σ2 H locs ls hR2 hW hS hl)) (fun h => absurd rfl h)
set_option maxHeartbeats 1000000 in
set_option maxRecDepth 100000 in
theorem lwc_43 (C : LwC p s m c b L xs g) (hin : LwI L i) (hR : RLq σ) (hW : Wd g 0 81 σ H) (hS : va_S (Ag g 0) s.heap H locs) (hl : lv_has ls 7 (lwL b g i)) (hcs : cells + 1 ≤ 601024 ∧ slots + 6 ≤ 7293034) (kk : LwK p l e s m below meth c b g i (cells + 1) (slots + 6) Q) : W p l e room_1 s m #[Value.ref b] below meth c H locs cells slots Q (F0 m 1477 ls []) := by
  obtain ⟨hx, hb, hml, hown, hts, hX, hbl, hbA, hZ, hT, hXN⟩ := C
  have hz0 : cells + 0 ≤ room_1.cells ∧ slots + 0 ≤ room_1.slots := ⟨by have := hcs.1; show cells ≤ 601024; omega, by have := hcs.2; show slots ≤ 7293034; omega⟩
  obtain ⟨r, σ1, σ2, e1, e2, hR2⟩ := rel_image σ hR
  refine lv_aload_n hx hb dL_law_1477 rfl (lv_at hl 1 rfl) ?_
  refine lwi (va_runV (As := []) (rest := []) ⟨hx, hb, hml, hown, hts⟩ (c_X12_image g l σ r σ1 e1) (cwV 0 hts (gdV lm_L_200 lim_X12_image lse_X12_image ini_X12 lc_X12_image) rfl rfl rfl (by decide +kernel) ⟨(Nat.le_of_ble_eq_true rfl), (Nat.le_of_ble_eq_true rfl)⟩) (mpV_12 hZ hT hS hW tz_0 _) rfl rfl hl.1 rfl (lv_room (Nat.le_of_ble_eq_true rfl)) dL_law_1478 hz0) hS (fun H locs hW hS => ?_)
  refine lv_aload_n hx hb dL_law_1481 rfl (lv_at hl 2 rfl) ?_
  refine lwi (va_runV (As := []) (rest := [.int r]) ⟨hx, hb, hml, hown, hts⟩ (c_X13_image g l σ1 r σ2 e2) (cwV 0 hts (gdV lm_L_203 lim_X13_image lse_X13_image ini_X13 lc_X13_image) rfl rfl rfl (by decide +kernel) ⟨(Nat.le_of_ble_eq_true rfl), (Nat.le_of_ble_eq_true rfl)⟩) (mpV_13 hZ hT hS hW tz_64 _) rfl rfl hl.1 rfl (lv_room (Nat.le_of_ble_eq_true rfl)) dL_law_1482 hz0) hS (fun H locs hW hS => ?_)
  exact lv_icmp_eq (tgt := 1609) hx hb dL_law_1485 (by decide) (fun _ => W.widen (k := cells + 1) (n := slots + 6) (Nat.le_succ _) (Nat.le_add_right _ _) (kk σ2 H locs ls hR2 hW hS hl)) (fun h => absurd rfl h)
set_option maxHeartbeats 1000000 in
set_option maxRecDepth 100000 in
theorem lwc_44 (C : LwC p s m c b L xs g) (hin : LwI L i) (hR : RLq σ) (hW : Wd g 0 81 σ H) (hS : va_S (Ag g 0) s.heap H locs) (hl : lv_has ls 7 (lwL b g i)) (hcs : cells + 1 ≤ 601024 ∧ slots + 6 ≤ 7293034) (kk : LwK p l e s m below meth c b g i (cells + 1) (slots + 6) Q) : W p l e room_1 s m #[Value.ref b] below meth c H locs cells slots Q (F0 m 1490 ls []) := by
  obtain ⟨hx, hb, hml, hown, hts, hX, hbl, hbA, hZ, hT, hXN⟩ := C
  have hz0 : cells + 0 ≤ room_1.cells ∧ slots + 0 ≤ room_1.slots := ⟨by have := hcs.1; show cells ≤ 601024; omega, by have := hcs.2; show slots ≤ 7293034; omega⟩
  obtain ⟨r, σ1, σ2, e1, e2, hR2⟩ := rel_back σ hR (xs (i + 1).toNatClampNeg)
  refine lv_aload_n hx hb dL_law_1490 rfl (lv_at hl 1 rfl) ?_
  refine lv_aload_n hx hb dL_law_1491 rfl (lv_at hl 0 rfl) ?_
  refine lv_iload hx hb dL_law_1492 (lv_at hl 4 rfl) ?_
  refine lv_iconst (v := 1) hx hb dL_law_1494 (by decide) ?_
  refine lv_iadd hx hb dL_law_1495 ?_
  refine va_sld hx hb hX hbl hbA hS hin.1 dL_law_1496 ?_
  refine lwi (va_runV (As := [.int (xs (i + 1).toNatClampNeg)]) (rest := []) ⟨hx, hb, hml, hown, hts⟩ (c_X12_back g l σ (xs (i + 1).toNatClampNeg) r σ1 e1) (cwV 1 hts (gdV lm_L_204 lim_X12_back lse_X12_back ini_X12 lc_X12_back) rfl rfl rfl (by decide +kernel) ⟨(Nat.le_of_ble_eq_true rfl), (Nat.le_of_ble_eq_true rfl)⟩) (mpV_12 hZ hT hS hW tz_0 _) rfl rfl hl.1 rfl (lv_room (Nat.le_of_ble_eq_true rfl)) dL_law_1497 hz0) hS (fun H locs hW hS => ?_)
  refine lv_aload_n hx hb dL_law_1500 rfl (lv_at hl 2 rfl) ?_
  refine lv_aload_n hx hb dL_law_1501 rfl (lv_at hl 0 rfl) ?_
  refine lv_iload hx hb dL_law_1502 (lv_at hl 4 rfl) ?_
  refine lv_iconst (v := 1) hx hb dL_law_1504 (by decide) ?_
  refine lv_iadd hx hb dL_law_1505 ?_
  refine va_sld hx hb hX hbl hbA hS hin.1 dL_law_1506 ?_
  refine lwi (va_runV (As := [.int (xs (i + 1).toNatClampNeg)]) (rest := [.int r]) ⟨hx, hb, hml, hown, hts⟩ (c_X13_back g l σ1 (xs (i + 1).toNatClampNeg) r σ2 e2) (cwV 1 hts (gdV lm_L_207 lim_X13_back lse_X13_back ini_X13 lc_X13_back) rfl rfl rfl (by decide +kernel) ⟨(Nat.le_of_ble_eq_true rfl), (Nat.le_of_ble_eq_true rfl)⟩) (mpV_13 hZ hT hS hW tz_64 _) rfl rfl hl.1 rfl (lv_room (Nat.le_of_ble_eq_true rfl)) dL_law_1507 hz0) hS (fun H locs hW hS => ?_)
  exact lv_icmp_eq (tgt := 1609) hx hb dL_law_1510 (by decide) (fun _ => W.widen (k := cells + 1) (n := slots + 6) (Nat.le_succ _) (Nat.le_add_right _ _) (kk σ2 H locs ls hR2 hW hS hl)) (fun h => absurd rfl h)
set_option maxHeartbeats 1000000 in
set_option maxRecDepth 100000 in
theorem lwc_45 (hfl : l.stackTraces = false) (C : LwC p s m c b L xs g) (hin : LwI L i) (hR : RLq σ) (hW : Wd g 0 81 σ H) (hS : va_S (Ag g 0) s.heap H locs) (hl : lv_has ls 7 (lwL b g i)) (hcs : cells + 1 ≤ 601024 ∧ slots + 6 ≤ 7293034) (kk : LwK p l e s m below meth c b g i (cells + 1) (slots + 6) Q) : W p l e room_1 s m #[Value.ref b] below meth c H locs cells slots Q (F0 m 1515 ls []) := by
  obtain ⟨hx, hb, hml, hown, hts, hX, hbl, hbA, hZ, hT, hXN⟩ := C
  have hz0 : cells + 0 ≤ room_1.cells ∧ slots + 0 ≤ room_1.slots := ⟨by have := hcs.1; show cells ≤ 601024; omega, by have := hcs.2; show slots ≤ 7293034; omega⟩
  have hz1 : cells + 1 ≤ room_1.cells ∧ slots + 6 ≤ room_1.slots := hcs
  have hz2 : cells + 1 + 0 ≤ room_1.cells ∧ slots + 6 + 0 ≤ room_1.slots := hcs
  obtain ⟨o, e1, hno, hsm⟩ := rel_led σ hR (xs (i + 1).toNatClampNeg)
  refine lv_aload_n hx hb dL_law_1515 rfl (lv_at hl 1 rfl) ?_
  refine lv_aload_n hx hb dL_law_1516 rfl (lv_at hl 0 rfl) ?_
  refine lv_iload hx hb dL_law_1517 (lv_at hl 4 rfl) ?_
  refine lv_iconst (v := 1) hx hb dL_law_1519 (by decide) ?_
  refine lv_iadd hx hb dL_law_1520 ?_
  refine va_sld hx hb hX hbl hbA hS hin.1 dL_law_1521 ?_
  refine lv_aload_n hx hb dL_law_1522 rfl (lv_at hl 3 rfl) ?_
  refine vx_calli (vx_runSX (As := [.ref (bs g 0), .int (xs (i + 1).toNatClampNeg), .ref (bs g 80)]) (rest := []) ⟨hx, hb, hml, hown, hts⟩ (c_L_led g l hfl σ (xs (i + 1).toNatClampNeg) o e1) (vx_cwSW 3 hts (gdS lm_L_208 lst_L_led ini_L lcw_L_led) rfl rfl rfl (by decide +kernel) ⟨(Nat.le_of_ble_eq_true rfl), (Nat.le_of_ble_eq_true rfl)⟩) ⟨WX.blind g 0 81 σ _, fun U hU hw => ⟨rfl, ws_of hZ hT hS hW hU hw, hXN.warm hw⟩⟩ rfl rfl hl.1 rfl (lv_room (Nat.le_of_ble_eq_true rfl)) dL_law_1523 hz1) hS (fun _ _ h => h) (fun _ h => h) (fun _ _ h => h) (fun _ _ _ _ _ _ _ _ _ hpx _ _ _ _ _ _ _ => hpx.elim) (fun r u t H1 locs1 ht hal hp hB hzz hkk hS => ?_)
  rcases hp with ⟨hr1, ho, hu⟩ | ⟨v, hr1, ho, hu⟩
  · have hW : Wd g 0 81 σ H1 := by rw [← ht, ← hu]; exact hB.2.2
    obtain ⟨e2, hR2⟩ := hno ho
    rw [hr1]
    refine lv_istore (lv' := [(5, .int 1), (0, .ref b), (1, .ref (bs g 0)), (2, .ref (bs g 64)), (3, .ref (bs g 80)), (4, .int i)]) hx hb dL_law_1526 hl (by decide) rfl (fun ls hl => ?_)
    refine lv_aload_n hx hb dL_law_1528 rfl (lv_at hl 3 rfl) ?_
    refine lv_aload_n hx hb dL_law_1529 rfl (lv_at hl 1 rfl) ?_
    refine lv_iload hx hb dL_law_1530 (lv_at hl 5 rfl) ?_
    refine lv_iconst (v := 1) hx hb dL_law_1532 (by decide) ?_
    refine lv_iadd hx hb dL_law_1533 ?_
    refine va_sld hx hb hX hbl hbA hS hin.1 dL_law_1534 ?_
    refine lwi (va_runV (As := [.int (xs (i + 1).toNatClampNeg)]) (rest := []) ⟨hx, hb, hml, hown, hts⟩ (c_X13_led g l σ (xs (i + 1).toNatClampNeg) 0 (sI σ 64 0 1) e2) (cwV 1 hts (gdV lm_L_213 lim_X13_led lse_X13_led ini_X13 lc_X13_led) rfl rfl rfl (by decide +kernel) ⟨(Nat.le_of_ble_eq_true rfl), (Nat.le_of_ble_eq_true rfl)⟩) (mpV_13 hZ hT hS hW tz_64 _) rfl rfl hl.1 rfl (lv_room (Nat.le_of_ble_eq_true rfl)) dL_law_1535 hz2) hS (fun H locs hW hS => ?_)
    refine lv_istore (lv' := [(6, .int 0), (5, .int 1), (0, .ref b), (1, .ref (bs g 0)), (2, .ref (bs g 64)), (3, .ref (bs g 80)), (4, .int i)]) hx hb dL_law_1538 hl (by decide) rfl (fun ls hl => ?_)
    refine lv_aload_n hx hb dL_law_1540 rfl (lv_at hl 4 rfl) ?_
    refine lwi (va_runV (As := []) (rest := []) ⟨hx, hb, hml, hown, hts⟩ (c_X13_thrown g l (sI σ 64 0 1) 1 (show some ((sI σ 64 0 1).1 64 0) = some 1 from by rw [sI_1, if_pos (show 64 = 64 ∧ 0 = 0 from ⟨rfl, rfl⟩)])) (cwV 0 hts (gdV lm_L_214 lim_X13_thrown lse_X13_thrown ini_X13 lc_X13_thrown) rfl rfl rfl (by decide +kernel) ⟨(Nat.le_of_ble_eq_true rfl), (Nat.le_of_ble_eq_true rfl)⟩) (mpV_13 hZ hT hS hW tz_64 _) rfl rfl hl.1 rfl (lv_room (Nat.le_of_ble_eq_true rfl)) dL_law_1541 hz2) hS (fun H locs hW hS => ?_)
    refine lv_iload hx hb dL_law_1544 (lv_at hl 1 rfl) ?_
    refine lv_icmp_eq (tgt := 1551) hx hb dL_law_1546 (by decide) (fun _ => ?_) (fun h => absurd rfl h)
    refine lv_iload hx hb dL_law_1551 (lv_at hl 1 rfl) ?_
    refine lv_if_ne (tgt := 1568) hx hb dL_law_1553 (by decide) (fun _ => ?_) (fun h => absurd h (by decide))
    refine lv_goto (tgt := 1609) hx hb dL_law_1568 (by decide) ?_
    exact kk (sI σ 64 0 1) H locs ls hR2 hW hS (lv_sub hl [2, 3, 4, 5, 6] rfl)
  · have hW : Wd g 0 81 (sL σ 80 0 v.toInt64) H1 := by rw [← ht, ← hu]; exact hB.2.2
    obtain ⟨e2, hR2⟩ := hsm v ho
    rw [hr1]
    refine lv_istore (lv' := [(5, .int 0), (0, .ref b), (1, .ref (bs g 0)), (2, .ref (bs g 64)), (3, .ref (bs g 80)), (4, .int i)]) hx hb dL_law_1526 hl (by decide) rfl (fun ls hl => ?_)
    refine lv_aload_n hx hb dL_law_1528 rfl (lv_at hl 3 rfl) ?_
    refine lv_aload_n hx hb dL_law_1529 rfl (lv_at hl 1 rfl) ?_
    refine lv_iload hx hb dL_law_1530 (lv_at hl 5 rfl) ?_
    refine lv_iconst (v := 1) hx hb dL_law_1532 (by decide) ?_
    refine lv_iadd hx hb dL_law_1533 ?_
    refine va_sld hx hb hX hbl hbA hS hin.1 dL_law_1534 ?_
    refine lwi (va_runV (As := [.int (xs (i + 1).toNatClampNeg)]) (rest := []) ⟨hx, hb, hml, hown, hts⟩ (c_X13_led g l (sL σ 80 0 v.toInt64) (xs (i + 1).toNatClampNeg) v (sI (sL σ 80 0 v.toInt64) 64 0 0) e2) (cwV 1 hts (gdV lm_L_213 lim_X13_led lse_X13_led ini_X13 lc_X13_led) rfl rfl rfl (by decide +kernel) ⟨(Nat.le_of_ble_eq_true rfl), (Nat.le_of_ble_eq_true rfl)⟩) (mpV_13 hZ hT hS hW tz_64 _) rfl rfl hl.1 rfl (lv_room (Nat.le_of_ble_eq_true rfl)) dL_law_1535 hz2) hS (fun H locs hW hS => ?_)
    refine lv_istore (lv' := [(6, .int v), (5, .int 0), (0, .ref b), (1, .ref (bs g 0)), (2, .ref (bs g 64)), (3, .ref (bs g 80)), (4, .int i)]) hx hb dL_law_1538 hl (by decide) rfl (fun ls hl => ?_)
    refine lv_aload_n hx hb dL_law_1540 rfl (lv_at hl 4 rfl) ?_
    refine lwi (va_runV (As := []) (rest := []) ⟨hx, hb, hml, hown, hts⟩ (c_X13_thrown g l (sI (sL σ 80 0 v.toInt64) 64 0 0) 0 (show some ((sI (sL σ 80 0 v.toInt64) 64 0 0).1 64 0) = some 0 from by rw [sI_1, if_pos (show 64 = 64 ∧ 0 = 0 from ⟨rfl, rfl⟩)])) (cwV 0 hts (gdV lm_L_214 lim_X13_thrown lse_X13_thrown ini_X13 lc_X13_thrown) rfl rfl rfl (by decide +kernel) ⟨(Nat.le_of_ble_eq_true rfl), (Nat.le_of_ble_eq_true rfl)⟩) (mpV_13 hZ hT hS hW tz_64 _) rfl rfl hl.1 rfl (lv_room (Nat.le_of_ble_eq_true rfl)) dL_law_1541 hz2) hS (fun H locs hW hS => ?_)
    refine lv_iload hx hb dL_law_1544 (lv_at hl 1 rfl) ?_
    refine lv_icmp_eq (tgt := 1551) hx hb dL_law_1546 (by decide) (fun _ => ?_) (fun h => absurd rfl h)
    refine lv_iload hx hb dL_law_1551 (lv_at hl 1 rfl) ?_
    refine lv_if_ne (tgt := 1568) hx hb dL_law_1553 (by decide) (fun h => absurd rfl h) (fun _ => ?_)
    refine lv_aload_n hx hb dL_law_1556 rfl (lv_at hl 5 rfl) ?_
    refine lv_iconst (v := 0) hx hb dL_law_1557 (by decide) ?_
    refine mld_l (out := ()) (K := some ()) hx hb hZ hW tz_80 (if_neg (show ¬ ((0 : Int32) < 0 ∨ aln 80 ≤ (0 : Int32).toNatClampNeg) from by decide)) dL_law_1558 (fun _ => ?_)
    rw [show (sI (sL σ 80 0 v.toInt64) 64 0 0).2.1 80 (0 : Int32).toNatClampNeg = v.toInt64 from by rw [sI_2]; exact (sL_2 σ 80 0 v.toInt64 80 0).trans (if_pos (show 80 = 80 ∧ 0 = 0 from ⟨rfl, rfl⟩))]
    refine lv_iload hx hb dL_law_1559 (lv_at hl 0 rfl) ?_
    refine lv_i2l (v := v.toInt64) hx hb dL_law_1561 rfl ?_
    refine W.lcmp hx hb dL_law_1562 ?_
    rw [lg_same]
    refine lv_if_eq (tgt := 1568) hx hb dL_law_1563 (by decide) (fun _ => ?_) (fun h => absurd rfl h)
    refine lv_goto (tgt := 1609) hx hb dL_law_1568 (by decide) ?_
    exact kk (sI (sL σ 80 0 v.toInt64) 64 0 0) H locs ls hR2 hW hS (lv_sub hl [2, 3, 4, 5, 6] rfl)
set_option maxHeartbeats 1000000 in
set_option maxRecDepth 100000 in
theorem lwc_46 (C : LwC p s m c b L xs g) (hin : LwI L i) (hR : RLq σ) (hW : Wd g 0 81 σ H) (hS : va_S (Ag g 0) s.heap H locs) (hl : lv_has ls 7 (lwL b g i)) (hcs : cells + 1 ≤ 601024 ∧ slots + 6 ≤ 7293034) (kk : LwK p l e s m below meth c b g i (cells + 1) (slots + 6) Q) : W p l e room_1 s m #[Value.ref b] below meth c H locs cells slots Q (F0 m 1571 ls []) := by
  obtain ⟨hx, hb, hml, hown, hts, hX, hbl, hbA, hZ, hT, hXN⟩ := C
  have hz0 : cells + 0 ≤ room_1.cells ∧ slots + 0 ≤ room_1.slots := ⟨by have := hcs.1; show cells ≤ 601024; omega, by have := hcs.2; show slots ≤ 7293034; omega⟩
  obtain ⟨r, σ2, e1, e2, hR2⟩ := rel_size σ hR (xs (i + 1).toNatClampNeg)
  refine lv_aload_n hx hb dL_law_1571 rfl (lv_at hl 1 rfl) ?_
  refine lv_aload_n hx hb dL_law_1572 rfl (lv_at hl 0 rfl) ?_
  refine lv_iload hx hb dL_law_1573 (lv_at hl 4 rfl) ?_
  refine lv_iconst (v := 1) hx hb dL_law_1575 (by decide) ?_
  refine lv_iadd hx hb dL_law_1576 ?_
  refine va_sld hx hb hX hbl hbA hS hin.1 dL_law_1577 ?_
  refine lwi (va_runV (As := [.int (xs (i + 1).toNatClampNeg)]) (rest := []) ⟨hx, hb, hml, hown, hts⟩ (c_X12_size g l σ (xs (i + 1).toNatClampNeg) r e1) (cwV 1 hts (gdV lm_L_217 lim_X12_size lse_X12_size ini_X12 lc_X12_size) rfl rfl rfl (by decide +kernel) ⟨(Nat.le_of_ble_eq_true rfl), (Nat.le_of_ble_eq_true rfl)⟩) (mpV_12 hZ hT hS hW tz_0 _) rfl rfl hl.1 rfl (lv_room (Nat.le_of_ble_eq_true rfl)) dL_law_1578 hz0) hS (fun H locs hW hS => ?_)
  refine lv_aload_n hx hb dL_law_1581 rfl (lv_at hl 2 rfl) ?_
  refine lv_aload_n hx hb dL_law_1582 rfl (lv_at hl 0 rfl) ?_
  refine lv_iload hx hb dL_law_1583 (lv_at hl 4 rfl) ?_
  refine lv_iconst (v := 1) hx hb dL_law_1585 (by decide) ?_
  refine lv_iadd hx hb dL_law_1586 ?_
  refine va_sld hx hb hX hbl hbA hS hin.1 dL_law_1587 ?_
  refine lwi (va_runV (As := [.int (xs (i + 1).toNatClampNeg)]) (rest := [.int r]) ⟨hx, hb, hml, hown, hts⟩ (c_X13_size g l σ (xs (i + 1).toNatClampNeg) r σ2 e2) (cwV 1 hts (gdV lm_L_220 lim_X13_size lse_X13_size ini_X13 lc_X13_size) rfl rfl rfl (by decide +kernel) ⟨(Nat.le_of_ble_eq_true rfl), (Nat.le_of_ble_eq_true rfl)⟩) (mpV_13 hZ hT hS hW tz_64 _) rfl rfl hl.1 rfl (lv_room (Nat.le_of_ble_eq_true rfl)) dL_law_1588 hz0) hS (fun H locs hW hS => ?_)
  exact lv_icmp_eq (tgt := 1609) hx hb dL_law_1591 (by decide) (fun _ => W.widen (k := cells + 1) (n := slots + 6) (Nat.le_succ _) (Nat.le_add_right _ _) (kk σ2 H locs ls hR2 hW hS hl)) (fun h => absurd rfl h)
set_option maxHeartbeats 1000000 in
set_option maxRecDepth 100000 in
theorem lwc_47 (C : LwC p s m c b L xs g) (hin : LwI L i) (hR : RLq σ) (hW : Wd g 0 81 σ H) (hS : va_S (Ag g 0) s.heap H locs) (hl : lv_has ls 7 (lwL b g i)) (hcs : cells + 1 ≤ 601024 ∧ slots + 6 ≤ 7293034) (kk : LwK p l e s m below meth c b g i (cells + 1) (slots + 6) Q) : W p l e room_1 s m #[Value.ref b] below meth c H locs cells slots Q (F0 m 1596 ls []) := by
  obtain ⟨hx, hb, hml, hown, hts, hX, hbl, hbA, hZ, hT, hXN⟩ := C
  have hz0 : cells + 0 ≤ room_1.cells ∧ slots + 0 ≤ room_1.slots := ⟨by have := hcs.1; show cells ≤ 601024; omega, by have := hcs.2; show slots ≤ 7293034; omega⟩
  obtain ⟨r, σ2, e1, e2, hR2⟩ := rel_trouble σ hR
  refine lv_aload_n hx hb dL_law_1596 rfl (lv_at hl 1 rfl) ?_
  refine lwi (va_runV (As := []) (rest := []) ⟨hx, hb, hml, hown, hts⟩ (c_X12_trouble g l σ r e1) (cwV 0 hts (gdV lm_L_221 lim_X12_trouble lse_X12_trouble ini_X12 lc_X12_trouble) rfl rfl rfl (by decide +kernel) ⟨(Nat.le_of_ble_eq_true rfl), (Nat.le_of_ble_eq_true rfl)⟩) (mpV_12 hZ hT hS hW tz_0 _) rfl rfl hl.1 rfl (lv_room (Nat.le_of_ble_eq_true rfl)) dL_law_1597 hz0) hS (fun H locs hW hS => ?_)
  refine lv_aload_n hx hb dL_law_1600 rfl (lv_at hl 2 rfl) ?_
  refine lwi (va_runV (As := []) (rest := [.int r]) ⟨hx, hb, hml, hown, hts⟩ (c_X13_trouble g l σ r σ2 e2) (cwV 0 hts (gdV lm_L_224 lim_X13_trouble lse_X13_trouble ini_X13 lc_X13_trouble) rfl rfl rfl (by decide +kernel) ⟨(Nat.le_of_ble_eq_true rfl), (Nat.le_of_ble_eq_true rfl)⟩) (mpV_13 hZ hT hS hW tz_64 _) rfl rfl hl.1 rfl (lv_room (Nat.le_of_ble_eq_true rfl)) dL_law_1601 hz0) hS (fun H locs hW hS => ?_)
  exact lv_icmp_eq (tgt := 1609) hx hb dL_law_1604 (by decide) (fun _ => W.widen (k := cells + 1) (n := slots + 6) (Nat.le_succ _) (Nat.le_add_right _ _) (kk σ2 H locs ls hR2 hW hS hl)) (fun h => absurd rfl h)
end LWC3
