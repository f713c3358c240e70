theorem dl_1252 : decode code 1252 = .ok (.aload_n 1, 1) := by decide +kernel
theorem dl_1253 : decode code 1253 = .ok (.aload_n 0, 1) := by decide +kernel
theorem dl_1254 : decode code 1254 = .ok (.iload 4, 2) := by decide +kernel
theorem dl_1256 : decode code 1256 = .ok (.iconst 1, 1) := by decide +kernel
theorem dl_1257 : decode code 1257 = .ok (.iadd, 1) := by decide +kernel
theorem dl_1258 : decode code 1258 = .ok (.iaload, 1) := by decide +kernel
theorem dl_1259 : decode code 1259 = .ok (.aload_n 0, 1) := by decide +kernel
theorem dl_1260 : decode code 1260 = .ok (.iload 4, 2) := by decide +kernel
theorem dl_1262 : decode code 1262 = .ok (.iconst 2, 1) := by decide +kernel
theorem dl_1263 : decode code 1263 = .ok (.iadd, 1) := by decide +kernel
theorem dl_1264 : decode code 1264 = .ok (.iaload, 1) := by decide +kernel
theorem dl_1265 : decode code 1265 = .ok (.ifCond .eq 7, 3) := by decide +kernel
theorem dl_1268 : decode code 1268 = .ok (.iconst 1, 1) := by decide +kernel
theorem dl_1269 : decode code 1269 = .ok (.goto 4, 3) := by decide +kernel
theorem dl_1272 : decode code 1272 = .ok (.iconst 0, 1) := by decide +kernel
theorem dl_1273 : decode code 1273 = .ok (.aload_n 3, 1) := by decide +kernel
theorem dl_1274 : decode code 1274 = .ok (.invokestatic 152, 3) := by decide +kernel
theorem dl_1277 : decode code 1277 = .ok (.istore 5, 2) := by decide +kernel
theorem dl_1279 : decode code 1279 = .ok (.aload_n 2, 1) := by decide +kernel
theorem dl_1280 : decode code 1280 = .ok (.aload_n 0, 1) := by decide +kernel
theorem dl_1281 : decode code 1281 = .ok (.iload 4, 2) := by decide +kernel
theorem dl_1283 : decode code 1283 = .ok (.iconst 1, 1) := by decide +kernel
theorem dl_1284 : decode code 1284 = .ok (.iadd, 1) := by decide +kernel
theorem dl_1285 : decode code 1285 = .ok (.iaload, 1) := by decide +kernel
theorem dl_1286 : decode code 1286 = .ok (.aload_n 0, 1) := by decide +kernel
theorem dl_1287 : decode code 1287 = .ok (.iload 4, 2) := by decide +kernel
theorem dl_1289 : decode code 1289 = .ok (.iconst 2, 1) := by decide +kernel
theorem dl_1290 : decode code 1290 = .ok (.iadd, 1) := by decide +kernel
theorem dl_1291 : decode code 1291 = .ok (.iaload, 1) := by decide +kernel
theorem dl_1292 : decode code 1292 = .ok (.ifCond .eq 7, 3) := by decide +kernel
theorem dl_1295 : decode code 1295 = .ok (.iconst 1, 1) := by decide +kernel
theorem dl_1296 : decode code 1296 = .ok (.goto 4, 3) := by decide +kernel
theorem dl_1299 : decode code 1299 = .ok (.iconst 0, 1) := by decide +kernel
theorem dl_1300 : decode code 1300 = .ok (.invokevirtual 155, 3) := by decide +kernel
theorem dl_1303 : decode code 1303 = .ok (.lstore 6, 2) := by decide +kernel
theorem dl_1305 : decode code 1305 = .ok (.aload_n 2, 1) := by decide +kernel
theorem dl_1306 : decode code 1306 = .ok (.invokevirtual 100, 3) := by decide +kernel
theorem dl_1309 : decode code 1309 = .ok (.iload 5, 2) := by decide +kernel
theorem dl_1311 : decode code 1311 = .ok (.if_icmp .eq 5, 3) := by decide +kernel
theorem dl_1314 : decode code 1314 = .ok (.iconst 0, 1) := by decide +kernel
theorem dl_1315 : decode code 1315 = .ok (.ireturn, 1) := by decide +kernel
theorem dl_1316 : decode code 1316 = .ok (.iload 5, 2) := by decide +kernel
theorem dl_1318 : decode code 1318 = .ok (.ifCond .ne 14, 3) := by decide +kernel
theorem dl_1321 : decode code 1321 = .ok (.aload_n 3, 1) := by decide +kernel
theorem dl_1322 : decode code 1322 = .ok (.iconst 0, 1) := by decide +kernel
theorem dl_1323 : decode code 1323 = .ok (.laload, 1) := by decide +kernel
theorem dl_1324 : decode code 1324 = .ok (.lload 6, 2) := by decide +kernel
theorem dl_1326 : decode code 1326 = .ok (.lcmp, 1) := by decide +kernel
theorem dl_1327 : decode code 1327 = .ok (.ifCond .eq 5, 3) := by decide +kernel
theorem dl_1330 : decode code 1330 = .ok (.iconst 0, 1) := by decide +kernel
theorem dl_1331 : decode code 1331 = .ok (.ireturn, 1) := by decide +kernel
theorem dl_1332 : decode code 1332 = .ok (.goto 349, 3) := by decide +kernel
set_option maxHeartbeats 4000000 in
set_option maxRecDepth 100000 in
theorem lc_15 {Iv : CS → MS → Prop} (P : PP_total Iv) {p : Program} {l : Launch} {e : Env} {sv : State} {m : MethodId} {args : Array Value} {below : List Frame} {meth : Method} {c : Code} {Q : State → Prop} {b L : Nat} {xs : Nat → Int32} {g : Gx} {A : Nat → Prop} (hl0 : l.stackTraces = false) (C0 : ct_Cx R_La code 8 p sv m args meth c g A) (hX : va_X b L xs sv sv.heap) (hbl : b < sv.heap.size) (hbA : ¬ A b) {i : Int32} (hi : vp_in i L ∧ vp_in (i + 1) L ∧ vp_in (i + 2) L ∧ vp_in (i + 3) L ∧ vp_in (i + 4) L) {ws : va_W} {H : Heap} {locs : List Loc} {cells slots : Nat} {s : CS} {t : MS} {out : Nat → Int64} {ls : Array Slot} (hw : ct_Wd g A sv ws H locs) (hW : LWd g ws s t out) (hI : Iv s t) (hl : lv_has ls 8 [(4, .int i), (0, .ref b), (1, .ref (g.2.1 0)), (2, .ref (g.2.1 35)), (3, .ref (g.2.1 47))]) (hc : cells + 20 ≤ 601024) (hs : slots + 120 ≤ 7293034)
    (kk : ∀ (ws : va_W) (H : Heap) (locs : List Loc) (cells1 slots1 : Nat) (s : CS) (t : MS) (out : Nat → Int64) (ls : Array Slot), ct_Wd g A sv ws H locs → LWd g ws s t out → Iv s t → lv_has ls 8 [(4, .int i), (0, .ref b), (1, .ref (g.2.1 0)), (2, .ref (g.2.1 35)), (3, .ref (g.2.1 47))] → cells1 ≤ cells + 20 → slots1 ≤ slots + 120 → W p l e room_1 sv m args below meth c H locs cells1 slots1 Q (F0 m 1681 ls [])) : W p l e room_1 sv m args below meth c H locs cells slots Q (F0 m 1252 ls []) := by
  have hx := C0.1
  have hb := C0.2.1
  refine lv_aload_n hx hb dl_1252 rfl (lv_at hl 2 rfl) ?_
  refine lv_aload_n hx hb dl_1253 rfl (lv_at hl 1 rfl) ?_
  refine lv_iload hx hb dl_1254 (lv_at hl 0 rfl) ?_
  refine lv_iconst (v := 1) hx hb dl_1256 (by decide) ?_
  refine lv_iadd hx hb dl_1257 ?_
  refine va_sld hx hb hX hbl hbA hw.2.2 hi.2.1 dl_1258 ?_
  refine lv_aload_n hx hb dl_1259 rfl (lv_at hl 1 rfl) ?_
  refine lv_iload hx hb dl_1260 (lv_at hl 0 rfl) ?_
  refine lv_iconst (v := 2) hx hb dl_1262 (by decide) ?_
  refine lv_iadd hx hb dl_1263 ?_
  refine va_sld hx hb hX hbl hbA hw.2.2 hi.2.2.1 dl_1264 ?_
  refine lw_bz (L := 1272) (M := 1273) hx hb dl_1265 (by decide) dl_1268 dl_1269 (by decide) dl_1272 rfl ?_
  refine lv_aload_n hx hb dl_1273 rfl (lv_at hl 4 rfl) ?_
  obtain ⟨o9, r9, t9, e1, e2, hk, hth, hI, hv⟩ := P s t hI (xs (i + 1).toNatClampNeg) (bz (xs (i + 2).toNatClampNeg)) (bz_01 _)
  refine ct_callW (hh := hh_La_total) C0 hw hl.1 wd_627 wd_628 wd_0 wd_629 (fun sz => w_La_total l g ws sz hW.cs hW.2.2 hl0 e1 hk) (nA := 4) (rm := rm_La_total) (by decide +kernel) rfl ⟨rfl, rfl⟩ (by decide) ⟨by show cells + 2 ≤ 601024; omega, by show slots + 12 ≤ 7293034; omega⟩ (As := [.ref (g.2.1 0), .int (xs (i + 1).toNatClampNeg), .int (bz (xs (i + 2).toNatClampNeg)), .ref (g.2.1 47)]) (rest := []) rfl (Nat.le_of_ble_eq_true rfl) dl_1274 (fun ws H locs hw hp => ?_)
  have hW := hW.wr hp
  clear hp
  refine lv_istore (lv' := [(5, .int (wr_code o9)), (4, .int i), (0, .ref b), (1, .ref (g.2.1 0)), (2, .ref (g.2.1 35)), (3, .ref (g.2.1 47))]) hx hb dl_1277 hl (by decide) rfl (fun ls hl => ?_)
  refine lv_aload_n hx hb dl_1279 rfl (lv_at hl 4 rfl) ?_
  refine lv_aload_n hx hb dl_1280 rfl (lv_at hl 2 rfl) ?_
  refine lv_iload hx hb dl_1281 (lv_at hl 1 rfl) ?_
  refine lv_iconst (v := 1) hx hb dl_1283 (by decide) ?_
  refine lv_iadd hx hb dl_1284 ?_
  refine va_sld hx hb hX hbl hbA hw.2.2 hi.2.1 dl_1285 ?_
  refine lv_aload_n hx hb dl_1286 rfl (lv_at hl 2 rfl) ?_
  refine lv_iload hx hb dl_1287 (lv_at hl 1 rfl) ?_
  refine lv_iconst (v := 2) hx hb dl_1289 (by decide) ?_
  refine lv_iadd hx hb dl_1290 ?_
  refine va_sld hx hb hX hbl hbA hw.2.2 hi.2.2.1 dl_1291 ?_
  refine lw_bz (L := 1299) (M := 1300) hx hb dl_1292 (by decide) dl_1295 dl_1296 (by decide) dl_1299 rfl ?_
  refine ct_callVl C0 hw hl.1 (q0 := 35) (hW.2.1 35 (by decide) (by decide)) rfl (ct_giV wd_964 wd_965 wd_966 wd_7 wd_967) (fun sz => s_Mo_total l g ws sz hW.ms e2) (nA := 2) (rm := rm_Mo_total) (by decide +kernel) rfl ⟨rfl, rfl⟩ (by decide) ⟨by show cells + 2 + 0 ≤ 601024; omega, by show slots + 12 + 0 ≤ 7293034; omega⟩ (As := [.int (xs (i + 1).toNatClampNeg), .int (bz (xs (i + 2).toNatClampNeg))]) (rest := []) rfl (Nat.le_of_ble_eq_true rfl) dl_1300 (fun ws1 H locs hw hp => ?_)
  have hW := hW.mo hp
  clear hp
  generalize ws1 = ws at hw hW
  refine lv_lstore (lv' := [(6, .long r9), (5, .int (wr_code o9)), (4, .int i), (0, .ref b), (1, .ref (g.2.1 0)), (2, .ref (g.2.1 35)), (3, .ref (g.2.1 47))]) hx hb dl_1303 hl (by decide) rfl (fun ls hl => ?_)
  refine lv_aload_n hx hb dl_1305 rfl (lv_at hl 5 rfl) ?_
  refine ct_callVi C0 hw hl.1 (q0 := 35) (hW.2.1 35 (by decide) (by decide)) rfl (ct_giV wd_790 wd_791 wd_792 wd_7 wd_793) (fun sz => s_Mo_thrown l g ws sz hW.ms (show fn_Mo_thrown t9 = some (ms_I t9 0) from rfl)) (nA := 0) (rm := rm_Mo_thrown) (by decide +kernel) rfl ⟨rfl, rfl⟩ (by decide) ⟨by show cells + 2 + 0 ≤ 601024; omega, by show slots + 12 + 0 ≤ 7293034; omega⟩ (As := []) (rest := []) rfl (Nat.le_of_ble_eq_true rfl) dl_1306 (fun ws1 H locs hw hp => ?_)
  rw [hp] at hw
  clear hp
  refine lv_iload hx hb dl_1309 (lv_at hl 1 rfl) ?_
  refine lv_icmp_eq hx hb (tgt := 1316) dl_1311 (by decide) (fun _ => ?_) (fun hc9 => absurd hth hc9)
  refine lv_iload hx hb dl_1316 (lv_at hl 1 rfl) ?_
  have hE : W p l e room_1 sv m args below meth c H locs (cells + 2 + 0) (slots + 12 + 0) Q (F0 m 1332 ls []) := by
    refine lv_goto hx hb (tgt := 1681) dl_1332 (by decide) ?_
    exact kk ws H locs _ _ _ _ _ ls hw hW hI (lv_sub hl [2, 3, 4, 5, 6] rfl) (by omega) (by omega)
  refine lv_if_ne hx hb (tgt := 1332) dl_1318 (by decide) (fun _ => hE) (fun hz => ?_)
  refine lv_aload_n hx hb dl_1321 rfl (lv_at hl 6 rfl) ?_
  refine lv_iconst (v := 0) hx hb dl_1322 (by decide) ?_
  refine va_lald hx hb C0.2.2.2.2.2.1.1 hw.1 47 2 hW.2.2 rfl (ct_inR_vp (by decide)) dl_1323 ?_
  refine lv_lload hx hb dl_1324 (lv_at hl 0 rfl) ?_
  refine W.lcmp hx hb dl_1326 ?_
  refine lv_if_eq hx hb (tgt := 1332) dl_1327 (by decide) (fun _ => hE) (fun hz2 => absurd ((lg_cmp_eq _ _).mpr (wr_eqL hz hv)) hz2)
theorem dl_1335 : decode code 1335 = .ok (.aload_n 1, 1) := by decide +kernel
theorem dl_1336 : decode code 1336 = .ok (.aload_n 0, 1) := by decide +kernel
theorem dl_1337 : decode code 1337 = .ok (.iload 4, 2) := by decide +kernel
theorem dl_1339 : decode code 1339 = .ok (.iconst 1, 1) := by decide +kernel
theorem dl_1340 : decode code 1340 = .ok (.iadd, 1) := by decide +kernel
theorem dl_1341 : decode code 1341 = .ok (.iaload, 1) := by decide +kernel
theorem dl_1342 : decode code 1342 = .ok (.aload_n 3, 1) := by decide +kernel
theorem dl_1343 : decode code 1343 = .ok (.invokestatic 156, 3) := by decide +kernel
theorem dl_1346 : decode code 1346 = .ok (.istore 5, 2) := by decide +kernel
theorem dl_1348 : decode code 1348 = .ok (.aload_n 2, 1) := by decide +kernel
theorem dl_1349 : decode code 1349 = .ok (.aload_n 0, 1) := by decide +kernel
theorem dl_1350 : decode code 1350 = .ok (.iload 4, 2) := by decide +kernel
theorem dl_1352 : decode code 1352 = .ok (.iconst 1, 1) := by decide +kernel
theorem dl_1353 : decode code 1353 = .ok (.iadd, 1) := by decide +kernel
theorem dl_1354 : decode code 1354 = .ok (.iaload, 1) := by decide +kernel
theorem dl_1355 : decode code 1355 = .ok (.invokevirtual 158, 3) := by decide +kernel
theorem dl_1358 : decode code 1358 = .ok (.istore 6, 2) := by decide +kernel
theorem dl_1360 : decode code 1360 = .ok (.aload_n 2, 1) := by decide +kernel
theorem dl_1361 : decode code 1361 = .ok (.invokevirtual 100, 3) := by decide +kernel
theorem dl_1364 : decode code 1364 = .ok (.iload 5, 2) := by decide +kernel
theorem dl_1366 : decode code 1366 = .ok (.if_icmp .eq 5, 3) := by decide +kernel
theorem dl_1369 : decode code 1369 = .ok (.iconst 0, 1) := by decide +kernel
theorem dl_1370 : decode code 1370 = .ok (.ireturn, 1) := by decide +kernel
theorem dl_1371 : decode code 1371 = .ok (.iload 5, 2) := by decide +kernel
theorem dl_1373 : decode code 1373 = .ok (.ifCond .ne 15, 3) := by decide +kernel
theorem dl_1376 : decode code 1376 = .ok (.aload_n 3, 1) := by decide +kernel
theorem dl_1377 : decode code 1377 = .ok (.iconst 0, 1) := by decide +kernel
theorem dl_1378 : decode code 1378 = .ok (.laload, 1) := by decide +kernel
theorem dl_1379 : decode code 1379 = .ok (.iload 6, 2) := by decide +kernel
theorem dl_1381 : decode code 1381 = .ok (.i2l, 1) := by decide +kernel
theorem dl_1382 : decode code 1382 = .ok (.lcmp, 1) := by decide +kernel
theorem dl_1383 : decode code 1383 = .ok (.ifCond .eq 5, 3) := by decide +kernel
theorem dl_1386 : decode code 1386 = .ok (.iconst 0, 1) := by decide +kernel
theorem dl_1387 : decode code 1387 = .ok (.ireturn, 1) := by decide +kernel
theorem dl_1388 : decode code 1388 = .ok (.goto 293, 3) := by decide +kernel
set_option maxHeartbeats 4000000 in
set_option maxRecDepth 100000 in
theorem lc_16 {Iv : CS → MS → Prop} (P : PP_marks Iv) {p : Program} {l : Launch} {e : Env} {sv : State} {m : MethodId} {args : Array Value} {below : List Frame} {meth : Method} {c : Code} {Q : State → Prop} {b L : Nat} {xs : Nat → Int32} {g : Gx} {A : Nat → Prop} (hl0 : l.stackTraces = false) (C0 : ct_Cx R_La code 8 p sv m args meth c g A) (hX : va_X b L xs sv sv.heap) (hbl : b < sv.heap.size) (hbA : ¬ A b) {i : Int32} (hi : vp_in i L ∧ vp_in (i + 1) L ∧ vp_in (i + 2) L ∧ vp_in (i + 3) L ∧ vp_in (i + 4) L) {ws : va_W} {H : Heap} {locs : List Loc} {cells slots : Nat} {s : CS} {t : MS} {out : Nat → Int64} {ls : Array Slot} (hw : ct_Wd g A sv ws H locs) (hW : LWd g ws s t out) (hI : Iv s t) (hl : lv_has ls 8 [(4, .int i), (0, .ref b), (1, .ref (g.2.1 0)), (2, .ref (g.2.1 35)), (3, .ref (g.2.1 47))]) (hc : cells + 20 ≤ 601024) (hs : slots + 120 ≤ 7293034)
    (kk : ∀ (ws : va_W) (H : Heap) (locs : List Loc) (cells1 slots1 : Nat) (s : CS) (t : MS) (out : Nat → Int64) (ls : Array Slot), ct_Wd g A sv ws H locs → LWd g ws s t out → Iv s t → lv_has ls 8 [(4, .int i), (0, .ref b), (1, .ref (g.2.1 0)), (2, .ref (g.2.1 35)), (3, .ref (g.2.1 47))] → cells1 ≤ cells + 20 → slots1 ≤ slots + 120 → W p l e room_1 sv m args below meth c H locs cells1 slots1 Q (F0 m 1681 ls [])) : W p l e room_1 sv m args below meth c H locs cells slots Q (F0 m 1335 ls []) := by
  have hx := C0.1
  have hb := C0.2.1
  refine lv_aload_n hx hb dl_1335 rfl (lv_at hl 2 rfl) ?_
  refine lv_aload_n hx hb dl_1336 rfl (lv_at hl 1 rfl) ?_
  refine lv_iload hx hb dl_1337 (lv_at hl 0 rfl) ?_
  refine lv_iconst (v := 1) hx hb dl_1339 (by decide) ?_
  refine lv_iadd hx hb dl_1340 ?_
  refine va_sld hx hb hX hbl hbA hw.2.2 hi.2.1 dl_1341 ?_
  refine lv_aload_n hx hb dl_1342 rfl (lv_at hl 4 rfl) ?_
  obtain ⟨o9, r9, t9, e1, e2, hk, hth, hI, hv⟩ := P s t hI (xs (i + 1).toNatClampNeg)
  refine ct_callW (hh := hh_La_marks) C0 hw hl.1 wd_639 wd_640 wd_0 wd_641 (fun sz => w_La_marks l g ws sz hW.cs hW.2.2 hl0 e1 hk) (nA := 3) (rm := rm_La_marks) (by decide +kernel) rfl ⟨rfl, rfl⟩ (by decide) ⟨by show cells + 1 ≤ 601024; omega, by show slots + 6 ≤ 7293034; omega⟩ (As := [.ref (g.2.1 0), .int (xs (i + 1).toNatClampNeg), .ref (g.2.1 47)]) (rest := []) rfl (Nat.le_of_ble_eq_true rfl) dl_1343 (fun ws H locs hw hp => ?_)
  have hW := hW.wr hp
  clear hp
  refine lv_istore (lv' := [(5, .int (wr_code o9)), (4, .int i), (0, .ref b), (1, .ref (g.2.1 0)), (2, .ref (g.2.1 35)), (3, .ref (g.2.1 47))]) hx hb dl_1346 hl (by decide) rfl (fun ls hl => ?_)
  refine lv_aload_n hx hb dl_1348 rfl (lv_at hl 4 rfl) ?_
  refine lv_aload_n hx hb dl_1349 rfl (lv_at hl 2 rfl) ?_
  refine lv_iload hx hb dl_1350 (lv_at hl 1 rfl) ?_
  refine lv_iconst (v := 1) hx hb dl_1352 (by decide) ?_
  refine lv_iadd hx hb dl_1353 ?_
  refine va_sld hx hb hX hbl hbA hw.2.2 hi.2.1 dl_1354 ?_
  refine ct_callVi C0 hw hl.1 (q0 := 35) (hW.2.1 35 (by decide) (by decide)) rfl (ct_giV wd_968 wd_969 wd_970 wd_7 wd_971) (fun sz => s_Mo_marks l g ws sz hW.ms e2) (nA := 1) (rm := rm_Mo_marks) (by decide +kernel) rfl ⟨rfl, rfl⟩ (by decide) ⟨by show cells + 1 + 0 ≤ 601024; omega, by show slots + 6 + 0 ≤ 7293034; omega⟩ (As := [.int (xs (i + 1).toNatClampNeg)]) (rest := []) rfl (Nat.le_of_ble_eq_true rfl) dl_1355 (fun ws1 H locs hw hp => ?_)
  have hW := hW.mo hp
  clear hp
  generalize ws1 = ws at hw hW
  refine lv_istore (lv' := [(6, .int r9), (5, .int (wr_code o9)), (4, .int i), (0, .ref b), (1, .ref (g.2.1 0)), (2, .ref (g.2.1 35)), (3, .ref (g.2.1 47))]) hx hb dl_1358 hl (by decide) rfl (fun ls hl => ?_)
  refine lv_aload_n hx hb dl_1360 rfl (lv_at hl 5 rfl) ?_
  refine ct_callVi C0 hw hl.1 (q0 := 35) (hW.2.1 35 (by decide) (by decide)) rfl (ct_giV wd_790 wd_791 wd_792 wd_7 wd_793) (fun sz => s_Mo_thrown l g ws sz hW.ms (show fn_Mo_thrown t9 = some (ms_I t9 0) from rfl)) (nA := 0) (rm := rm_Mo_thrown) (by decide +kernel) rfl ⟨rfl, rfl⟩ (by decide) ⟨by show cells + 1 + 0 ≤ 601024; omega, by show slots + 6 + 0 ≤ 7293034; omega⟩ (As := []) (rest := []) rfl (Nat.le_of_ble_eq_true rfl) dl_1361 (fun ws1 H locs hw hp => ?_)
  rw [hp] at hw
  clear hp
  refine lv_iload hx hb dl_1364 (lv_at hl 1 rfl) ?_
  refine lv_icmp_eq hx hb (tgt := 1371) dl_1366 (by decide) (fun _ => ?_) (fun hc9 => absurd hth hc9)
  refine lv_iload hx hb dl_1371 (lv_at hl 1 rfl) ?_
  have hE : W p l e room_1 sv m args below meth c H locs (cells + 1 + 0) (slots + 6 + 0) Q (F0 m 1388 ls []) := by
    refine lv_goto hx hb (tgt := 1681) dl_1388 (by decide) ?_
    exact kk ws H locs _ _ _ _ _ ls hw hW hI (lv_sub hl [2, 3, 4, 5, 6] rfl) (by omega) (by omega)
  refine lv_if_ne hx hb (tgt := 1388) dl_1373 (by decide) (fun _ => hE) (fun hz => ?_)
  refine lv_aload_n hx hb dl_1376 rfl (lv_at hl 6 rfl) ?_
  refine lv_iconst (v := 0) hx hb dl_1377 (by decide) ?_
  refine va_lald hx hb C0.2.2.2.2.2.1.1 hw.1 47 2 hW.2.2 rfl (ct_inR_vp (by decide)) dl_1378 ?_
  refine lv_iload hx hb dl_1379 (lv_at hl 0 rfl) ?_
  refine lv_i2l hx hb dl_1381 rfl ?_
  refine W.lcmp hx hb dl_1382 ?_
  refine lv_if_eq hx hb (tgt := 1388) dl_1383 (by decide) (fun _ => hE) (fun hz2 => absurd ((lg_cmp_eq _ _).mpr (wr_eqI hz hv)) hz2)
theorem dl_1391 : decode code 1391 = .ok (.aload_n 1, 1) := by decide +kernel
theorem dl_1392 : decode code 1392 = .ok (.aload_n 0, 1) := by decide +kernel
theorem dl_1393 : decode code 1393 = .ok (.iload 4, 2) := by decide +kernel
theorem dl_1395 : decode code 1395 = .ok (.iconst 1, 1) := by decide +kernel
theorem dl_1396 : decode code 1396 = .ok (.iadd, 1) := by decide +kernel
theorem dl_1397 : decode code 1397 = .ok (.iaload, 1) := by decide +kernel
theorem dl_1398 : decode code 1398 = .ok (.aload_n 0, 1) := by decide +kernel
theorem dl_1399 : decode code 1399 = .ok (.iload 4, 2) := by decide +kernel
theorem dl_1401 : decode code 1401 = .ok (.iconst 2, 1) := by decide +kernel
theorem dl_1402 : decode code 1402 = .ok (.iadd, 1) := by decide +kernel
theorem dl_1403 : decode code 1403 = .ok (.iaload, 1) := by decide +kernel
theorem dl_1404 : decode code 1404 = .ok (.ifCond .eq 7, 3) := by decide +kernel
theorem dl_1407 : decode code 1407 = .ok (.iconst 1, 1) := by decide +kernel
theorem dl_1408 : decode code 1408 = .ok (.goto 4, 3) := by decide +kernel
theorem dl_1411 : decode code 1411 = .ok (.iconst 0, 1) := by decide +kernel
theorem dl_1412 : decode code 1412 = .ok (.aload_n 3, 1) := by decide +kernel
theorem dl_1413 : decode code 1413 = .ok (.invokestatic 159, 3) := by decide +kernel
theorem dl_1416 : decode code 1416 = .ok (.istore 5, 2) := by decide +kernel
theorem dl_1418 : decode code 1418 = .ok (.aload_n 2, 1) := by decide +kernel
theorem dl_1419 : decode code 1419 = .ok (.aload_n 0, 1) := by decide +kernel
theorem dl_1420 : decode code 1420 = .ok (.iload 4, 2) := by decide +kernel
theorem dl_1422 : decode code 1422 = .ok (.iconst 1, 1) := by decide +kernel
theorem dl_1423 : decode code 1423 = .ok (.iadd, 1) := by decide +kernel
theorem dl_1424 : decode code 1424 = .ok (.iaload, 1) := by decide +kernel
theorem dl_1425 : decode code 1425 = .ok (.aload_n 0, 1) := by decide +kernel
theorem dl_1426 : decode code 1426 = .ok (.iload 4, 2) := by decide +kernel
theorem dl_1428 : decode code 1428 = .ok (.iconst 2, 1) := by decide +kernel
theorem dl_1429 : decode code 1429 = .ok (.iadd, 1) := by decide +kernel
theorem dl_1430 : decode code 1430 = .ok (.iaload, 1) := by decide +kernel
theorem dl_1431 : decode code 1431 = .ok (.ifCond .eq 7, 3) := by decide +kernel
theorem dl_1434 : decode code 1434 = .ok (.iconst 1, 1) := by decide +kernel
theorem dl_1435 : decode code 1435 = .ok (.goto 4, 3) := by decide +kernel
theorem dl_1438 : decode code 1438 = .ok (.iconst 0, 1) := by decide +kernel
theorem dl_1439 : decode code 1439 = .ok (.invokevirtual 161, 3) := by decide +kernel
theorem dl_1442 : decode code 1442 = .ok (.lstore 6, 2) := by decide +kernel
theorem dl_1444 : decode code 1444 = .ok (.aload_n 2, 1) := by decide +kernel
theorem dl_1445 : decode code 1445 = .ok (.invokevirtual 100, 3) := by decide +kernel
theorem dl_1448 : decode code 1448 = .ok (.iload 5, 2) := by decide +kernel
theorem dl_1450 : decode code 1450 = .ok (.if_icmp .eq 5, 3) := by decide +kernel
theorem dl_1453 : decode code 1453 = .ok (.iconst 0, 1) := by decide +kernel
theorem dl_1454 : decode code 1454 = .ok (.ireturn, 1) := by decide +kernel
theorem dl_1455 : decode code 1455 = .ok (.iload 5, 2) := by decide +kernel
theorem dl_1457 : decode code 1457 = .ok (.ifCond .ne 14, 3) := by decide +kernel
theorem dl_1460 : decode code 1460 = .ok (.aload_n 3, 1) := by decide +kernel
theorem dl_1461 : decode code 1461 = .ok (.iconst 0, 1) := by decide +kernel
theorem dl_1462 : decode code 1462 = .ok (.laload, 1) := by decide +kernel
theorem dl_1463 : decode code 1463 = .ok (.lload 6, 2) := by decide +kernel
theorem dl_1465 : decode code 1465 = .ok (.lcmp, 1) := by decide +kernel
theorem dl_1466 : decode code 1466 = .ok (.ifCond .eq 5, 3) := by decide +kernel
theorem dl_1469 : decode code 1469 = .ok (.iconst 0, 1) := by decide +kernel
theorem dl_1470 : decode code 1470 = .ok (.ireturn, 1) := by decide +kernel
theorem dl_1471 : decode code 1471 = .ok (.goto 210, 3) := by decide +kernel
set_option maxHeartbeats 4000000 in
set_option maxRecDepth 100000 in
theorem lc_17 {Iv : CS → MS → Prop} (P : PP_deviation Iv) {p : Program} {l : Launch} {e : Env} {sv : State} {m : MethodId} {args : Array Value} {below : List Frame} {meth : Method} {c : Code} {Q : State → Prop} {b L : Nat} {xs : Nat → Int32} {g : Gx} {A : Nat → Prop} (hl0 : l.stackTraces = false) (C0 : ct_Cx R_La code 8 p sv m args meth c g A) (hX : va_X b L xs sv sv.heap) (hbl : b < sv.heap.size) (hbA : ¬ A b) {i : Int32} (hi : vp_in i L ∧ vp_in (i + 1) L ∧ vp_in (i + 2) L ∧ vp_in (i + 3) L ∧ vp_in (i + 4) L) {ws : va_W} {H : Heap} {locs : List Loc} {cells slots : Nat} {s : CS} {t : MS} {out : Nat → Int64} {ls : Array Slot} (hw : ct_Wd g A sv ws H locs) (hW : LWd g ws s t out) (hI : Iv s t) (hl : lv_has ls 8 [(4, .int i), (0, .ref b), (1, .ref (g.2.1 0)), (2, .ref (g.2.1 35)), (3, .ref (g.2.1 47))]) (hc : cells + 20 ≤ 601024) (hs : slots + 120 ≤ 7293034)
    (kk : ∀ (ws : va_W) (H : Heap) (locs : List Loc) (cells1 slots1 : Nat) (s : CS) (t : MS) (out : Nat → Int64) (ls : Array Slot), ct_Wd g A sv ws H locs → LWd g ws s t out → Iv s t → lv_has ls 8 [(4, .int i), (0, .ref b), (1, .ref (g.2.1 0)), (2, .ref (g.2.1 35)), (3, .ref (g.2.1 47))] → cells1 ≤ cells + 20 → slots1 ≤ slots + 120 → W p l e room_1 sv m args below meth c H locs cells1 slots1 Q (F0 m 1681 ls [])) : W p l e room_1 sv m args below meth c H locs cells slots Q (F0 m 1391 ls []) := by
  have hx := C0.1
  have hb := C0.2.1
  refine lv_aload_n hx hb dl_1391 rfl (lv_at hl 2 rfl) ?_
  refine lv_aload_n hx hb dl_1392 rfl (lv_at hl 1 rfl) ?_
  refine lv_iload hx hb dl_1393 (lv_at hl 0 rfl) ?_
  refine lv_iconst (v := 1) hx hb dl_1395 (by decide) ?_
  refine lv_iadd hx hb dl_1396 ?_
  refine va_sld hx hb hX hbl hbA hw.2.2 hi.2.1 dl_1397 ?_
  refine lv_aload_n hx hb dl_1398 rfl (lv_at hl 1 rfl) ?_
  refine lv_iload hx hb dl_1399 (lv_at hl 0 rfl) ?_
  refine lv_iconst (v := 2) hx hb dl_1401 (by decide) ?_
  refine lv_iadd hx hb dl_1402 ?_
  refine va_sld hx hb hX hbl hbA hw.2.2 hi.2.2.1 dl_1403 ?_
  refine lw_bz (L := 1411) (M := 1412) hx hb dl_1404 (by decide) dl_1407 dl_1408 (by decide) dl_1411 rfl ?_
  refine lv_aload_n hx hb dl_1412 rfl (lv_at hl 4 rfl) ?_
  obtain ⟨o9, r9, t9, e1, e2, hk, hth, hI, hv⟩ := P s t hI (xs (i + 1).toNatClampNeg) (bz (xs (i + 2).toNatClampNeg)) (bz_01 _)
  refine ct_callW (hh := hh_La_deviation) C0 hw hl.1 wd_650 wd_651 wd_0 wd_652 (fun sz => w_La_deviation l g ws sz hW.cs hW.2.2 hl0 e1 hk) (nA := 4) (rm := rm_La_deviation) (by decide +kernel) rfl ⟨rfl, rfl⟩ (by decide) ⟨by show cells + 2 ≤ 601024; omega, by show slots + 12 ≤ 7293034; omega⟩ (As := [.ref (g.2.1 0), .int (xs (i + 1).toNatClampNeg), .int (bz (xs (i + 2).toNatClampNeg)), .ref (g.2.1 47)]) (rest := []) rfl (Nat.le_of_ble_eq_true rfl) dl_1413 (fun ws H locs hw hp => ?_)
  have hW := hW.wr hp
  clear hp
  refine lv_istore (lv' := [(5, .int (wr_code o9)), (4, .int i), (0, .ref b), (1, .ref (g.2.1 0)), (2, .ref (g.2.1 35)), (3, .ref (g.2.1 47))]) hx hb dl_1416 hl (by decide) rfl (fun ls hl => ?_)
  refine lv_aload_n hx hb dl_1418 rfl (lv_at hl 4 rfl) ?_
  refine lv_aload_n hx hb dl_1419 rfl (lv_at hl 2 rfl) ?_
  refine lv_iload hx hb dl_1420 (lv_at hl 1 rfl) ?_
  refine lv_iconst (v := 1) hx hb dl_1422 (by decide) ?_
  refine lv_iadd hx hb dl_1423 ?_
  refine va_sld hx hb hX hbl hbA hw.2.2 hi.2.1 dl_1424 ?_
  refine lv_aload_n hx hb dl_1425 rfl (lv_at hl 2 rfl) ?_
  refine lv_iload hx hb dl_1426 (lv_at hl 1 rfl) ?_
  refine lv_iconst (v := 2) hx hb dl_1428 (by decide) ?_
  refine lv_iadd hx hb dl_1429 ?_
  refine va_sld hx hb hX hbl hbA hw.2.2 hi.2.2.1 dl_1430 ?_
  refine lw_bz (L := 1438) (M := 1439) hx hb dl_1431 (by decide) dl_1434 dl_1435 (by decide) dl_1438 rfl ?_
  refine ct_callVl C0 hw hl.1 (q0 := 35) (hW.2.1 35 (by decide) (by decide)) rfl (ct_giV wd_972 wd_973 wd_974 wd_7 wd_975) (fun sz => s_Mo_deviation l g ws sz hW.ms e2) (nA := 2) (rm := rm_Mo_deviation) (by decide +kernel) rfl ⟨rfl, rfl⟩ (by decide) ⟨by show cells + 2 + 0 ≤ 601024; omega, by show slots + 12 + 0 ≤ 7293034; omega⟩ (As := [.int (xs (i + 1).toNatClampNeg), .int (bz (xs (i + 2).toNatClampNeg))]) (rest := []) rfl (Nat.le_of_ble_eq_true rfl) dl_1439 (fun ws1 H locs hw hp => ?_)
  have hW := hW.mo hp
  clear hp
  generalize ws1 = ws at hw hW
  refine lv_lstore (lv' := [(6, .long r9), (5, .int (wr_code o9)), (4, .int i), (0, .ref b), (1, .ref (g.2.1 0)), (2, .ref (g.2.1 35)), (3, .ref (g.2.1 47))]) hx hb dl_1442 hl (by decide) rfl (fun ls hl => ?_)
  refine lv_aload_n hx hb dl_1444 rfl (lv_at hl 5 rfl) ?_
  refine ct_callVi C0 hw hl.1 (q0 := 35) (hW.2.1 35 (by decide) (by decide)) rfl (ct_giV wd_790 wd_791 wd_792 wd_7 wd_793) (fun sz => s_Mo_thrown l g ws sz hW.ms (show fn_Mo_thrown t9 = some (ms_I t9 0) from rfl)) (nA := 0) (rm := rm_Mo_thrown) (by decide +kernel) rfl ⟨rfl, rfl⟩ (by decide) ⟨by show cells + 2 + 0 ≤ 601024; omega, by show slots + 12 + 0 ≤ 7293034; omega⟩ (As := []) (rest := []) rfl (Nat.le_of_ble_eq_true rfl) dl_1445 (fun ws1 H locs hw hp => ?_)
  rw [hp] at hw
  clear hp
  refine lv_iload hx hb dl_1448 (lv_at hl 1 rfl) ?_
  refine lv_icmp_eq hx hb (tgt := 1455) dl_1450 (by decide) (fun _ => ?_) (fun hc9 => absurd hth hc9)
  refine lv_iload hx hb dl_1455 (lv_at hl 1 rfl) ?_
  have hE : W p l e room_1 sv m args below meth c H locs (cells + 2 + 0) (slots + 12 + 0) Q (F0 m 1471 ls []) := by
    refine lv_goto hx hb (tgt := 1681) dl_1471 (by decide) ?_
    exact kk ws H locs _ _ _ _ _ ls hw hW hI (lv_sub hl [2, 3, 4, 5, 6] rfl) (by omega) (by omega)
  refine lv_if_ne hx hb (tgt := 1471) dl_1457 (by decide) (fun _ => hE) (fun hz => ?_)
  refine lv_aload_n hx hb dl_1460 rfl (lv_at hl 6 rfl) ?_
  refine lv_iconst (v := 0) hx hb dl_1461 (by decide) ?_
  refine va_lald hx hb C0.2.2.2.2.2.1.1 hw.1 47 2 hW.2.2 rfl (ct_inR_vp (by decide)) dl_1462 ?_
  refine lv_lload hx hb dl_1463 (lv_at hl 0 rfl) ?_
  refine W.lcmp hx hb dl_1465 ?_
  refine lv_if_eq hx hb (tgt := 1471) dl_1466 (by decide) (fun _ => hE) (fun hz2 => absurd ((lg_cmp_eq _ _).mpr (wr_eqL hz hv)) hz2)
theorem dl_1474 : decode code 1474 = .ok (.aload_n 1, 1) := by decide +kernel
theorem dl_1475 : decode code 1475 = .ok (.aload_n 0, 1) := by decide +kernel
theorem dl_1476 : decode code 1476 = .ok (.iload 4, 2) := by decide +kernel
theorem dl_1478 : decode code 1478 = .ok (.iconst 1, 1) := by decide +kernel
theorem dl_1479 : decode code 1479 = .ok (.iadd, 1) := by decide +kernel
theorem dl_1480 : decode code 1480 = .ok (.iaload, 1) := by decide +kernel
theorem dl_1481 : decode code 1481 = .ok (.aload_n 0, 1) := by decide +kernel
theorem dl_1482 : decode code 1482 = .ok (.iload 4, 2) := by decide +kernel
theorem dl_1484 : decode code 1484 = .ok (.iconst 2, 1) := by decide +kernel
theorem dl_1485 : decode code 1485 = .ok (.iadd, 1) := by decide +kernel
theorem dl_1486 : decode code 1486 = .ok (.iaload, 1) := by decide +kernel
theorem dl_1487 : decode code 1487 = .ok (.aload_n 0, 1) := by decide +kernel
theorem dl_1488 : decode code 1488 = .ok (.iload 4, 2) := by decide +kernel
theorem dl_1490 : decode code 1490 = .ok (.iconst 3, 1) := by decide +kernel
theorem dl_1491 : decode code 1491 = .ok (.iadd, 1) := by decide +kernel
theorem dl_1492 : decode code 1492 = .ok (.iaload, 1) := by decide +kernel
theorem dl_1493 : decode code 1493 = .ok (.ifCond .eq 7, 3) := by decide +kernel
theorem dl_1496 : decode code 1496 = .ok (.iconst 1, 1) := by decide +kernel
theorem dl_1497 : decode code 1497 = .ok (.goto 4, 3) := by decide +kernel
theorem dl_1500 : decode code 1500 = .ok (.iconst 0, 1) := by decide +kernel
theorem dl_1501 : decode code 1501 = .ok (.aload_n 3, 1) := by decide +kernel
theorem dl_1502 : decode code 1502 = .ok (.invokestatic 162, 3) := by decide +kernel
theorem dl_1505 : decode code 1505 = .ok (.istore 5, 2) := by decide +kernel
theorem dl_1507 : decode code 1507 = .ok (.aload_n 2, 1) := by decide +kernel
theorem dl_1508 : decode code 1508 = .ok (.aload_n 0, 1) := by decide +kernel
theorem dl_1509 : decode code 1509 = .ok (.iload 4, 2) := by decide +kernel
theorem dl_1511 : decode code 1511 = .ok (.iconst 1, 1) := by decide +kernel
theorem dl_1512 : decode code 1512 = .ok (.iadd, 1) := by decide +kernel
theorem dl_1513 : decode code 1513 = .ok (.iaload, 1) := by decide +kernel
theorem dl_1514 : decode code 1514 = .ok (.aload_n 0, 1) := by decide +kernel
theorem dl_1515 : decode code 1515 = .ok (.iload 4, 2) := by decide +kernel
theorem dl_1517 : decode code 1517 = .ok (.iconst 2, 1) := by decide +kernel
theorem dl_1518 : decode code 1518 = .ok (.iadd, 1) := by decide +kernel
theorem dl_1519 : decode code 1519 = .ok (.iaload, 1) := by decide +kernel
theorem dl_1520 : decode code 1520 = .ok (.aload_n 0, 1) := by decide +kernel
theorem dl_1521 : decode code 1521 = .ok (.iload 4, 2) := by decide +kernel
theorem dl_1523 : decode code 1523 = .ok (.iconst 3, 1) := by decide +kernel
theorem dl_1524 : decode code 1524 = .ok (.iadd, 1) := by decide +kernel
theorem dl_1525 : decode code 1525 = .ok (.iaload, 1) := by decide +kernel
theorem dl_1526 : decode code 1526 = .ok (.ifCond .eq 7, 3) := by decide +kernel
theorem dl_1529 : decode code 1529 = .ok (.iconst 1, 1) := by decide +kernel
theorem dl_1530 : decode code 1530 = .ok (.goto 4, 3) := by decide +kernel
theorem dl_1533 : decode code 1533 = .ok (.iconst 0, 1) := by decide +kernel
theorem dl_1534 : decode code 1534 = .ok (.invokevirtual 164, 3) := by decide +kernel
theorem dl_1537 : decode code 1537 = .ok (.lstore 6, 2) := by decide +kernel
theorem dl_1539 : decode code 1539 = .ok (.aload_n 2, 1) := by decide +kernel
theorem dl_1540 : decode code 1540 = .ok (.invokevirtual 100, 3) := by decide +kernel
theorem dl_1543 : decode code 1543 = .ok (.iload 5, 2) := by decide +kernel
theorem dl_1545 : decode code 1545 = .ok (.if_icmp .eq 5, 3) := by decide +kernel
theorem dl_1548 : decode code 1548 = .ok (.iconst 0, 1) := by decide +kernel
theorem dl_1549 : decode code 1549 = .ok (.ireturn, 1) := by decide +kernel
theorem dl_1550 : decode code 1550 = .ok (.iload 5, 2) := by decide +kernel
theorem dl_1552 : decode code 1552 = .ok (.ifCond .ne 14, 3) := by decide +kernel
theorem dl_1555 : decode code 1555 = .ok (.aload_n 3, 1) := by decide +kernel
theorem dl_1556 : decode code 1556 = .ok (.iconst 0, 1) := by decide +kernel
theorem dl_1557 : decode code 1557 = .ok (.laload, 1) := by decide +kernel
theorem dl_1558 : decode code 1558 = .ok (.lload 6, 2) := by decide +kernel
theorem dl_1560 : decode code 1560 = .ok (.lcmp, 1) := by decide +kernel
theorem dl_1561 : decode code 1561 = .ok (.ifCond .eq 5, 3) := by decide +kernel
theorem dl_1564 : decode code 1564 = .ok (.iconst 0, 1) := by decide +kernel
theorem dl_1565 : decode code 1565 = .ok (.ireturn, 1) := by decide +kernel
theorem dl_1566 : decode code 1566 = .ok (.goto 115, 3) := by decide +kernel
set_option maxHeartbeats 4000000 in
set_option maxRecDepth 100000 in
theorem lc_18 {Iv : CS → MS → Prop} (P : PP_error Iv) {p : Program} {l : Launch} {e : Env} {sv : State} {m : MethodId} {args : Array Value} {below : List Frame} {meth : Method} {c : Code} {Q : State → Prop} {b L : Nat} {xs : Nat → Int32} {g : Gx} {A : Nat → Prop} (hl0 : l.stackTraces = false) (C0 : ct_Cx R_La code 8 p sv m args meth c g A) (hX : va_X b L xs sv sv.heap) (hbl : b < sv.heap.size) (hbA : ¬ A b) {i : Int32} (hi : vp_in i L ∧ vp_in (i + 1) L ∧ vp_in (i + 2) L ∧ vp_in (i + 3) L ∧ vp_in (i + 4) L) {ws : va_W} {H : Heap} {locs : List Loc} {cells slots : Nat} {s : CS} {t : MS} {out : Nat → Int64} {ls : Array Slot} (hw : ct_Wd g A sv ws H locs) (hW : LWd g ws s t out) (hI : Iv s t) (hl : lv_has ls 8 [(4, .int i), (0, .ref b), (1, .ref (g.2.1 0)), (2, .ref (g.2.1 35)), (3, .ref (g.2.1 47))]) (hc : cells + 20 ≤ 601024) (hs : slots + 120 ≤ 7293034)
    (kk : ∀ (ws : va_W) (H : Heap) (locs : List Loc) (cells1 slots1 : Nat) (s : CS) (t : MS) (out : Nat → Int64) (ls : Array Slot), ct_Wd g A sv ws H locs → LWd g ws s t out → Iv s t → lv_has ls 8 [(4, .int i), (0, .ref b), (1, .ref (g.2.1 0)), (2, .ref (g.2.1 35)), (3, .ref (g.2.1 47))] → cells1 ≤ cells + 20 → slots1 ≤ slots + 120 → W p l e room_1 sv m args below meth c H locs cells1 slots1 Q (F0 m 1681 ls [])) : W p l e room_1 sv m args below meth c H locs cells slots Q (F0 m 1474 ls []) := by
  have hx := C0.1
  have hb := C0.2.1
  refine lv_aload_n hx hb dl_1474 rfl (lv_at hl 2 rfl) ?_
  refine lv_aload_n hx hb dl_1475 rfl (lv_at hl 1 rfl) ?_
  refine lv_iload hx hb dl_1476 (lv_at hl 0 rfl) ?_
  refine lv_iconst (v := 1) hx hb dl_1478 (by decide) ?_
  refine lv_iadd hx hb dl_1479 ?_
  refine va_sld hx hb hX hbl hbA hw.2.2 hi.2.1 dl_1480 ?_
  refine lv_aload_n hx hb dl_1481 rfl (lv_at hl 1 rfl) ?_
  refine lv_iload hx hb dl_1482 (lv_at hl 0 rfl) ?_
  refine lv_iconst (v := 2) hx hb dl_1484 (by decide) ?_
  refine lv_iadd hx hb dl_1485 ?_
  refine va_sld hx hb hX hbl hbA hw.2.2 hi.2.2.1 dl_1486 ?_
  refine lv_aload_n hx hb dl_1487 rfl (lv_at hl 1 rfl) ?_
  refine lv_iload hx hb dl_1488 (lv_at hl 0 rfl) ?_
  refine lv_iconst (v := 3) hx hb dl_1490 (by decide) ?_
  refine lv_iadd hx hb dl_1491 ?_
  refine va_sld hx hb hX hbl hbA hw.2.2 hi.2.2.2.1 dl_1492 ?_
  refine lw_bz (L := 1500) (M := 1501) hx hb dl_1493 (by decide) dl_1496 dl_1497 (by decide) dl_1500 rfl ?_
  refine lv_aload_n hx hb dl_1501 rfl (lv_at hl 4 rfl) ?_
  obtain ⟨o9, r9, t9, e1, e2, hk, hth, hI, hv⟩ := P s t hI (xs (i + 1).toNatClampNeg) (xs (i + 2).toNatClampNeg) (bz (xs (i + 3).toNatClampNeg)) (bz_01 _)
  refine ct_callW (hh := hh_La_error) C0 hw hl.1 wd_666 wd_667 wd_0 wd_668 (fun sz => w_La_error l g ws sz hW.cs hW.2.2 hl0 e1 hk) (nA := 5) (rm := rm_La_error) (by decide +kernel) rfl ⟨rfl, rfl⟩ (by decide) ⟨by show cells + 2 ≤ 601024; omega, by show slots + 12 ≤ 7293034; omega⟩ (As := [.ref (g.2.1 0), .int (xs (i + 1).toNatClampNeg), .int (xs (i + 2).toNatClampNeg), .int (bz (xs (i + 3).toNatClampNeg)), .ref (g.2.1 47)]) (rest := []) rfl (Nat.le_of_ble_eq_true rfl) dl_1502 (fun ws H locs hw hp => ?_)
  have hW := hW.wr hp
  clear hp
  refine lv_istore (lv' := [(5, .int (wr_code o9)), (4, .int i), (0, .ref b), (1, .ref (g.2.1 0)), (2, .ref (g.2.1 35)), (3, .ref (g.2.1 47))]) hx hb dl_1505 hl (by decide) rfl (fun ls hl => ?_)
  refine lv_aload_n hx hb dl_1507 rfl (lv_at hl 4 rfl) ?_
  refine lv_aload_n hx hb dl_1508 rfl (lv_at hl 2 rfl) ?_
  refine lv_iload hx hb dl_1509 (lv_at hl 1 rfl) ?_
  refine lv_iconst (v := 1) hx hb dl_1511 (by decide) ?_
  refine lv_iadd hx hb dl_1512 ?_
  refine va_sld hx hb hX hbl hbA hw.2.2 hi.2.1 dl_1513 ?_
  refine lv_aload_n hx hb dl_1514 rfl (lv_at hl 2 rfl) ?_
  refine lv_iload hx hb dl_1515 (lv_at hl 1 rfl) ?_
  refine lv_iconst (v := 2) hx hb dl_1517 (by decide) ?_
  refine lv_iadd hx hb dl_1518 ?_
  refine va_sld hx hb hX hbl hbA hw.2.2 hi.2.2.1 dl_1519 ?_
  refine lv_aload_n hx hb dl_1520 rfl (lv_at hl 2 rfl) ?_
  refine lv_iload hx hb dl_1521 (lv_at hl 1 rfl) ?_
  refine lv_iconst (v := 3) hx hb dl_1523 (by decide) ?_
  refine lv_iadd hx hb dl_1524 ?_
  refine va_sld hx hb hX hbl hbA hw.2.2 hi.2.2.2.1 dl_1525 ?_
  refine lw_bz (L := 1533) (M := 1534) hx hb dl_1526 (by decide) dl_1529 dl_1530 (by decide) dl_1533 rfl ?_
  refine ct_callVl C0 hw hl.1 (q0 := 35) (hW.2.1 35 (by decide) (by decide)) rfl (ct_giV wd_977 wd_978 wd_979 wd_7 wd_980) (fun sz => s_Mo_error l g ws sz hW.ms e2) (nA := 3) (rm := rm_Mo_error) (by decide +kernel) rfl ⟨rfl, rfl⟩ (by decide) ⟨by show cells + 2 + 0 ≤ 601024; omega, by show slots + 12 + 0 ≤ 7293034; omega⟩ (As := [.int (xs (i + 1).toNatClampNeg), .int (xs (i + 2).toNatClampNeg), .int (bz (xs (i + 3).toNatClampNeg))]) (rest := []) rfl (Nat.le_of_ble_eq_true rfl) dl_1534 (fun ws1 H locs hw hp => ?_)
  have hW := hW.mo hp
  clear hp
  generalize ws1 = ws at hw hW
  refine lv_lstore (lv' := [(6, .long r9), (5, .int (wr_code o9)), (4, .int i), (0, .ref b), (1, .ref (g.2.1 0)), (2, .ref (g.2.1 35)), (3, .ref (g.2.1 47))]) hx hb dl_1537 hl (by decide) rfl (fun ls hl => ?_)
  refine lv_aload_n hx hb dl_1539 rfl (lv_at hl 5 rfl) ?_
  refine ct_callVi C0 hw hl.1 (q0 := 35) (hW.2.1 35 (by decide) (by decide)) rfl (ct_giV wd_790 wd_791 wd_792 wd_7 wd_793) (fun sz => s_Mo_thrown l g ws sz hW.ms (show fn_Mo_thrown t9 = some (ms_I t9 0) from rfl)) (nA := 0) (rm := rm_Mo_thrown) (by decide +kernel) rfl ⟨rfl, rfl⟩ (by decide) ⟨by show cells + 2 + 0 ≤ 601024; omega, by show slots + 12 + 0 ≤ 7293034; omega⟩ (As := []) (rest := []) rfl (Nat.le_of_ble_eq_true rfl) dl_1540 (fun ws1 H locs hw hp => ?_)
  rw [hp] at hw
  clear hp
  refine lv_iload hx hb dl_1543 (lv_at hl 1 rfl) ?_
  refine lv_icmp_eq hx hb (tgt := 1550) dl_1545 (by decide) (fun _ => ?_) (fun hc9 => absurd hth hc9)
  refine lv_iload hx hb dl_1550 (lv_at hl 1 rfl) ?_
  have hE : W p l e room_1 sv m args below meth c H locs (cells + 2 + 0) (slots + 12 + 0) Q (F0 m 1566 ls []) := by
    refine lv_goto hx hb (tgt := 1681) dl_1566 (by decide) ?_
    exact kk ws H locs _ _ _ _ _ ls hw hW hI (lv_sub hl [2, 3, 4, 5, 6] rfl) (by omega) (by omega)
  refine lv_if_ne hx hb (tgt := 1566) dl_1552 (by decide) (fun _ => hE) (fun hz => ?_)
  refine lv_aload_n hx hb dl_1555 rfl (lv_at hl 6 rfl) ?_
  refine lv_iconst (v := 0) hx hb dl_1556 (by decide) ?_
  refine va_lald hx hb C0.2.2.2.2.2.1.1 hw.1 47 2 hW.2.2 rfl (ct_inR_vp (by decide)) dl_1557 ?_
  refine lv_lload hx hb dl_1558 (lv_at hl 0 rfl) ?_
  refine W.lcmp hx hb dl_1560 ?_
  refine lv_if_eq hx hb (tgt := 1566) dl_1561 (by decide) (fun _ => hE) (fun hz2 => absurd ((lg_cmp_eq _ _).mpr (wr_eqL hz hv)) hz2)
