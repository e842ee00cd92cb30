set_option maxHeartbeats 40000000 in
set_option maxRecDepth 100000 in
theorem zq_law_1284 {p : Program} {l : Launch} {e : Env} {s : State} {m : MethodId} {args : Array Value} {below : List Frame} {meth : Method} {c : Code} {Q : State → Prop} {G : va_G} {cI cL : ClassId} {A : Nat → Prop} {b L : Nat} {xs : Nat → Int32} {cells slots : Nat} (hlt : l.stackTraces = false) (adO qO3 qO4 qO5 qO6 adP0 qP00 qP01 qP02 qP03 qP04 adP1 qP10 qP11 qP12 qP13 qP14 adP2 qP20 qP21 qP22 qP23 qP24 adN qN0 qN1 qN2 qN3 qN4 qN5 adT qT0 qT1 qT2 qT3 qT4 qT5 qT6 qT7 adF0 qF00 qF01 qF02 qF03 adF1 qF10 qF11 qF12 qF13 adF2 qF20 qF21 qF22 qF23 adM qM1 qM2 qM3 qM4 qM5 qM6 qM7 qM8 qM12 qM13 qM15 qM16 qM17 qM18 qM19 qM20 qM21 qout : Nat) (C : zv_C p s m args c cL_law 7 RL lw_tbl G cI A) (hB : zx_B A s) (hKL : va_K G vwCl [(cL, .long)] s) (hN : zl_B s) (hX : va_X b L xs s s.heap) (hbl : b < s.heap.size) (hbA : ¬ A b) (hc : cells + 1 ≤ room_1.cells) (hs : slots + 6 ≤ room_1.slots) (O : zMem) (P0 : zMem) (P1 : zMem) (P2 : zMem) (N : zMem) (T : zMem) (F0 : zMem) (F1 : zMem) (F2 : zMem) (M : zMem) (out : zRowL) (i : Int32) (K : zMem → zMem → zMem → zMem → zMem → zMem → zMem → zMem → zMem → zMem → zRowL → Prop) (hK : ∀ (O : zMem) (P0 : zMem) (P1 : zMem) (P2 : zMem) (N : zMem) (T : zMem) (F0 : zMem) (F1 : zMem) (F2 : zMem) (M : zMem) (out : zRowL), K O P0 P1 P2 N T F0 F1 F2 M out → zv_V p l e room_1 s m args below meth c Q G A 7 (cells + 1) (slots + 6) (zd_L_law cI cL adO qO3 qO4 qO5 qO6 adP0 qP00 qP01 qP02 qP03 qP04 adP1 qP10 qP11 qP12 qP13 qP14 adP2 qP20 qP21 qP22 qP23 qP24 adN qN0 qN1 qN2 qN3 qN4 qN5 adT qT0 qT1 qT2 qT3 qT4 qT5 qT6 qT7 adF0 qF00 qF01 qF02 qF03 adF1 qF10 qF11 qF12 qF13 adF2 qF20 qF21 qF22 qF23 adM qM1 qM2 qM3 qM4 qM5 qM6 qM7 qM8 qM12 qM13 qM15 qM16 qM17 qM18 qM19 qM20 qM21 qout O P0 P1 P2 N T F0 F1 F2 M out) 1485 [(4, .int i), (0, .ref b), (1, .ref adO), (2, .ref adM), (3, .ref qout)] []) (hF : zw_law_1284 L xs O P0 P1 P2 N T F0 F1 F2 M out i K) : zv_V p l e room_1 s m args below meth c Q G A 7 cells slots (zd_L_law cI cL adO qO3 qO4 qO5 qO6 adP0 qP00 qP01 qP02 qP03 qP04 adP1 qP10 qP11 qP12 qP13 qP14 adP2 qP20 qP21 qP22 qP23 qP24 adN qN0 qN1 qN2 qN3 qN4 qN5 adT qT0 qT1 qT2 qT3 qT4 qT5 qT6 qT7 adF0 qF00 qF01 qF02 qF03 adF1 qF10 qF11 qF12 qF13 adF2 qF20 qF21 qF22 qF23 adM qM1 qM2 qM3 qM4 qM5 qM6 qM7 qM8 qM12 qM13 qM15 qM16 qM17 qM18 qM19 qM20 qM21 qout O P0 P1 P2 N T F0 F1 F2 M out) 1284 [(4, .int i), (0, .ref b), (1, .ref adO), (2, .ref adM), (3, .ref qout)] [] := by
  refine zv_aload_n (pc := 1284) C rfl 2 rfl dL_law_1284 ?_
  refine zv_aload_n (pc := 1285) C rfl 1 rfl dL_law_1285 ?_
  refine zv_iload (pc := 1286) C 0 rfl dL_law_1286 ?_
  refine zv_iconst (pc := 1288) (v := 1) C (by decide) dL_law_1288 ?_
  refine zv_iadd (pc := 1289) C  dL_law_1289 ?_
  obtain ⟨h_1, hF⟩ := hF
  refine zl_sld (pc := 1290) C hX hbl hbA h_1 dL_law_1290 ?_
  refine zv_aload_n (pc := 1291) C rfl 1 rfl dL_law_1291 ?_
  refine zv_iload (pc := 1292) C 0 rfl dL_law_1292 ?_
  refine zv_iconst (pc := 1294) (v := 2) C (by decide) dL_law_1294 ?_
  refine zv_iadd (pc := 1295) C  dL_law_1295 ?_
  obtain ⟨h_2, hF⟩ := hF
  refine zl_sld (pc := 1296) C hX hbl hbA h_2 dL_law_1296 ?_
  refine zv_aload_n (pc := 1297) C rfl 1 rfl dL_law_1297 ?_
  refine zv_iload (pc := 1298) C 0 rfl dL_law_1298 ?_
  refine zv_iconst (pc := 1300) (v := 3) C (by decide) dL_law_1300 ?_
  refine zv_iadd (pc := 1301) C  dL_law_1301 ?_
  obtain ⟨h_3, hF⟩ := hF
  refine zl_sld (pc := 1302) C hX hbl hbA h_3 dL_law_1302 ?_
  refine zv_aload_n (pc := 1303) C rfl 1 rfl dL_law_1303 ?_
  refine zv_iload (pc := 1304) C 0 rfl dL_law_1304 ?_
  refine zv_iconst (pc := 1306) (v := 4) C (by decide) dL_law_1306 ?_
  refine zv_iadd (pc := 1307) C  dL_law_1307 ?_
  obtain ⟨h_4, hF⟩ := hF
  refine zl_sld (pc := 1308) C hX hbl hbA h_4 dL_law_1308 ?_
  refine zv_aload_n (pc := 1309) C rfl 4 rfl dL_law_1309 ?_
  refine zm_ci (pc := 1310) (ws' := (fun uz : zMem × zRowL => (zd_L_law cI cL adO qO3 qO4 qO5 qO6 adP0 qP00 qP01 qP02 qP03 qP04 adP1 qP10 qP11 qP12 qP13 qP14 adP2 qP20 qP21 qP22 qP23 qP24 adN qN0 qN1 qN2 qN3 qN4 qN5 adT qT0 qT1 qT2 qT3 qT4 qT5 qT6 qT7 adF0 qF00 qF01 qF02 qF03 adF1 qF10 qF11 qF12 qF13 adF2 qF20 qF21 qF22 qF23 adM qM1 qM2 qM3 qM4 qM5 qM6 qM7 qM8 qM12 qM13 qM15 qM16 qM17 qM18 qM19 qM20 qM21 qout O P0 P1 P2 uz.1 T F0 F1 F2 M uz.2))) C (zm_runW (As := [.ref adO, .int (xs (Int32.toNatClampNeg (i + (1 : Int32)))), .int (xs (Int32.toNatClampNeg (i + (2 : Int32)))), .int (xs (Int32.toNatClampNeg (i + (3 : Int32)))), .int (xs (Int32.toNatClampNeg (i + (4 : Int32)))), .ref qout]) (rest := []) C hB hKL hN (zc_L_pane l hlt G cI cL adO qO3 qO4 qO5 qO6 adN qN0 qN1 qN2 qN3 qN4 qN5 qout adP0 adP1 adP2 adT adF0 adF1 adF2 O N out (xs (Int32.toNatClampNeg (i + (1 : Int32)))) (xs (Int32.toNatClampNeg (i + (2 : Int32)))) (xs (Int32.toNatClampNeg (i + (3 : Int32)))) (xs (Int32.toNatClampNeg (i + (4 : Int32)))) _ hF) (vx_cwSW 6 C.2.2.2.2.1 lwc_L_pane rfl rfl rfl zy_L_pane ⟨(Nat.le_of_ble_eq_true rfl), (Nat.le_of_ble_eq_true rfl)⟩) rfl rfl (Nat.le_of_ble_eq_true rfl) ⟨hc, hs⟩ dL_law_1310) [0, 1, 2, 3, 4, 23, 24, 25, 26, 27, 28, 29, 72] [5, 6, 7, 8, 9, 10, 11, 12, 13, 14, 15, 16, 17, 18, 19, 20, 21, 22, 30, 31, 32, 33, 34, 35, 36, 37, 38, 39, 40, 41, 42, 43, 44, 45, 46, 47, 48, 49, 50, 51, 52, 53, 54, 55, 56, 57, 58, 59, 60, 61, 62, 63, 64, 65, 66, 67, 68, 69, 70, 71] rfl rfl rfl rfl rfl (fun _ => rfl) (fun _ => rfl) (fun _ => rfl) (fun v_7 uz hF => ?_)
  obtain ⟨T_5, r_6⟩ := uz
  refine zv_istore (pc := 1313) (lv' := [(5, .int v_7), (4, .int i), (0, .ref b), (1, .ref adO), (2, .ref adM), (3, .ref qout)]) C (by decide) rfl dL_law_1313 ?_
  refine zv_aload_n (pc := 1315) C rfl 4 rfl dL_law_1315 ?_
  refine zv_aload_n (pc := 1316) C rfl 2 rfl dL_law_1316 ?_
  refine zv_iload (pc := 1317) C 1 rfl dL_law_1317 ?_
  refine zv_iconst (pc := 1319) (v := 1) C (by decide) dL_law_1319 ?_
  refine zv_iadd (pc := 1320) C  dL_law_1320 ?_
  obtain ⟨h_8, hF⟩ := hF
  refine zl_sld (pc := 1321) C hX hbl hbA h_8 dL_law_1321 ?_
  refine zv_aload_n (pc := 1322) C rfl 2 rfl dL_law_1322 ?_
  refine zv_iload (pc := 1323) C 1 rfl dL_law_1323 ?_
  refine zv_iconst (pc := 1325) (v := 2) C (by decide) dL_law_1325 ?_
  refine zv_iadd (pc := 1326) C  dL_law_1326 ?_
  obtain ⟨h_9, hF⟩ := hF
  refine zl_sld (pc := 1327) C hX hbl hbA h_9 dL_law_1327 ?_
  refine zv_aload_n (pc := 1328) C rfl 2 rfl dL_law_1328 ?_
  refine zv_iload (pc := 1329) C 1 rfl dL_law_1329 ?_
  refine zv_iconst (pc := 1331) (v := 3) C (by decide) dL_law_1331 ?_
  refine zv_iadd (pc := 1332) C  dL_law_1332 ?_
  obtain ⟨h_10, hF⟩ := hF
  refine zl_sld (pc := 1333) C hX hbl hbA h_10 dL_law_1333 ?_
  refine zv_aload_n (pc := 1334) C rfl 2 rfl dL_law_1334 ?_
  refine zv_iload (pc := 1335) C 1 rfl dL_law_1335 ?_
  refine zv_iconst (pc := 1337) (v := 4) C (by decide) dL_law_1337 ?_
  refine zv_iadd (pc := 1338) C  dL_law_1338 ?_
  obtain ⟨h_11, hF⟩ := hF
  refine zl_sld (pc := 1339) C hX hbl hbA h_11 dL_law_1339 ?_
  refine zv_ci0 (pc := 1340) (ws' := (fun uz : zMem => (zd_L_law cI cL adO qO3 qO4 qO5 qO6 adP0 qP00 qP01 qP02 qP03 qP04 adP1 qP10 qP11 qP12 qP13 qP14 adP2 qP20 qP21 qP22 qP23 qP24 adN qN0 qN1 qN2 qN3 qN4 qN5 adT qT0 qT1 qT2 qT3 qT4 qT5 qT6 qT7 adF0 qF00 qF01 qF02 qF03 adF1 qF10 qF11 qF12 qF13 adF2 qF20 qF21 qF22 qF23 adM qM1 qM2 qM3 qM4 qM5 qM6 qM7 qM8 qM12 qM13 qM15 qM16 qM17 qM18 qM19 qM20 qM21 qout O P0 P1 P2 T_5 T F0 F1 F2 uz r_6))) C (zv_runV (As := [.int (xs (Int32.toNatClampNeg (i + (1 : Int32)))), .int (xs (Int32.toNatClampNeg (i + (2 : Int32)))), .int (xs (Int32.toNatClampNeg (i + (3 : Int32)))), .int (xs (Int32.toNatClampNeg (i + (4 : Int32))))]) (b := adM) (rest := []) (ci := 5) (q0 := 54) C (zc_X6_pane l G cI adM qM1 qM2 qM3 qM4 qM5 qM6 qM7 qM8 qM12 qM13 qM15 qM16 qM17 qM18 qM19 qM20 qM21 M (xs (Int32.toNatClampNeg (i + (1 : Int32)))) (xs (Int32.toNatClampNeg (i + (2 : Int32)))) (xs (Int32.toNatClampNeg (i + (3 : Int32)))) (xs (Int32.toNatClampNeg (i + (4 : Int32)))) _ hF) (cwV 4 C.2.2.2.2.1 lwc_X6_pane rfl rfl rfl zy_X6_pane ⟨(Nat.le_of_ble_eq_true rfl), (Nat.le_of_ble_eq_true rfl)⟩) rfl rfl rfl rfl rfl (Nat.le_of_ble_eq_true rfl) ⟨hc, hs⟩ dL_law_1340) [54, 55, 56, 57, 58, 59, 60, 61, 62, 63, 64, 65, 66, 67, 68, 69, 70, 71] [0, 1, 2, 3, 4, 5, 6, 7, 8, 9, 10, 11, 12, 13, 14, 15, 16, 17, 18, 19, 20, 21, 22, 23, 24, 25, 26, 27, 28, 29, 30, 31, 32, 33, 34, 35, 36, 37, 38, 39, 40, 41, 42, 43, 44, 45, 46, 47, 48, 49, 50, 51, 52, 53, 72] rfl rfl rfl rfl rfl (fun _ => rfl) (fun _ => rfl) (fun _ => rfl) (fun v_13 uz hF => ?_)
  obtain ⟨T_12, hE⟩ : ∃ z, z = uz := ⟨_, rfl⟩; subst hE
  refine zv_istore (pc := 1343) (lv' := [(6, .int v_13), (5, .int v_7), (4, .int i), (0, .ref b), (1, .ref adO), (2, .ref adM), (3, .ref qout)]) C (by decide) rfl dL_law_1343 ?_
  refine zv_aload_n (pc := 1345) C rfl 5 rfl dL_law_1345 ?_
  refine zv_ci0 (pc := 1346) (ws' := (fun uz : Unit => (zd_L_law cI cL adO qO3 qO4 qO5 qO6 adP0 qP00 qP01 qP02 qP03 qP04 adP1 qP10 qP11 qP12 qP13 qP14 adP2 qP20 qP21 qP22 qP23 qP24 adN qN0 qN1 qN2 qN3 qN4 qN5 adT qT0 qT1 qT2 qT3 qT4 qT5 qT6 qT7 adF0 qF00 qF01 qF02 qF03 adF1 qF10 qF11 qF12 qF13 adF2 qF20 qF21 qF22 qF23 adM qM1 qM2 qM3 qM4 qM5 qM6 qM7 qM8 qM12 qM13 qM15 qM16 qM17 qM18 qM19 qM20 qM21 qout O P0 P1 P2 T_5 T F0 F1 F2 T_12 r_6))) C (zv_runV (As := []) (b := adM) (rest := []) (ci := 5) (q0 := 54) C (zc_X6_thrown l G cI adM qM1 qM2 qM3 qM4 qM5 qM6 qM7 qM8 qM12 qM13 qM15 qM16 qM17 qM18 qM19 qM20 qM21 T_12 _ hF) (cwV 0 C.2.2.2.2.1 lwc_X6_thrown rfl rfl rfl zy_X6_thrown ⟨(Nat.le_of_ble_eq_true rfl), (Nat.le_of_ble_eq_true rfl)⟩) rfl rfl rfl rfl rfl (Nat.le_of_ble_eq_true rfl) ⟨hc, hs⟩ dL_law_1346) [54, 55, 56, 57, 58, 59, 60, 61, 62, 63, 64, 65, 66, 67, 68, 69, 70, 71] [0, 1, 2, 3, 4, 5, 6, 7, 8, 9, 10, 11, 12, 13, 14, 15, 16, 17, 18, 19, 20, 21, 22, 23, 24, 25, 26, 27, 28, 29, 30, 31, 32, 33, 34, 35, 36, 37, 38, 39, 40, 41, 42, 43, 44, 45, 46, 47, 48, 49, 50, 51, 52, 53, 72] rfl rfl rfl rfl rfl (fun _ => rfl) (fun _ => rfl) (fun _ => rfl) (fun v_14 uz hF => ?_)
  refine zv_iload (pc := 1349) C 1 rfl dL_law_1349 ?_
  refine zv_icmp_eq (pc := 1351) (tgt := 1356) C dL_law_1351 (by decide) (fun c_15 => ?_) (fun c_15 => ?_)
  · replace hF := And.left hF c_15
    refine zv_iload (pc := 1356) C 1 rfl dL_law_1356 ?_
    refine zv_if_ne (pc := 1358) (tgt := 1373) C dL_law_1358 (by decide) (fun c_16 => ?_) (fun c_16 => ?_)
    · replace hF := And.left hF c_16
      refine zv_goto (pc := 1373) (tgt := 1485) C dL_law_1373 (by decide) ?_
      exact zv_lvs [2, 3, 4, 5, 6] rfl (hK O P0 P1 P2 T_5 T F0 F1 F2 T_12 r_6 hF)
    · replace hF := And.right hF c_16
      refine zv_aload_n (pc := 1361) C rfl 6 rfl dL_law_1361 ?_
      refine zv_iconst (pc := 1362) (v := 0) C (by decide) dL_law_1362 ?_
      refine zl_lald (pc := 1363) (n := 1) (f := r_6) C hKL 72 (vp_in_iff.mpr (by decide)) rfl dL_law_1363 ?_
      refine zv_iload (pc := 1364) C 0 rfl dL_law_1364 ?_
      refine zv_i2l (pc := 1366) C  dL_law_1366 ?_
      refine zv_lcmp (pc := 1367) C  dL_law_1367 ?_
      refine zv_if_eq (pc := 1368) (tgt := 1373) C dL_law_1368 (by decide) (fun c_17 => ?_) (fun c_17 => ?_)
      · replace hF := And.left hF c_17
        refine zv_goto (pc := 1373) (tgt := 1485) C dL_law_1373 (by decide) ?_
        exact zv_lvs [2, 3, 4, 5, 6] rfl (hK O P0 P1 P2 T_5 T F0 F1 F2 T_12 r_6 hF)
      · replace hF := And.right hF c_17
        refine zv_iconst (pc := 1371) (v := 0) C (by decide) dL_law_1371 ?_
        exact (show False from hF).elim
  · replace hF := And.right hF c_15
    refine zv_iconst (pc := 1354) (v := 0) C (by decide) dL_law_1354 ?_
    exact (show False from hF).elim
