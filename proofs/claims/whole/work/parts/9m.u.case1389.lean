set_option maxHeartbeats 40000000 in
set_option maxRecDepth 100000 in
theorem zq_law_1389 {p : Program} {l : Launch} {e : Env} {s : State} {m : MethodId} {args : Array Value} {below : List Frame} {meth : Method} {c : Code} {Q : State → Prop} {G : va_G} {cI cL : ClassId} {A : Nat → Prop} {b L : Nat} {xs : Nat → Int32} {cells slots : Nat} (hlt : l.stackTraces = false) (adO qO3 qO4 qO5 qO6 adP0 qP00 qP01 qP02 qP03 qP04 adP1 qP10 qP11 qP12 qP13 qP14 adP2 qP20 qP21 qP22 qP23 qP24 adN qN0 qN1 qN2 qN3 qN4 qN5 adT qT0 qT1 qT2 qT3 qT4 qT5 qT6 qT7 adF0 qF00 qF01 qF02 qF03 adF1 qF10 qF11 qF12 qF13 adF2 qF20 qF21 qF22 qF23 adM qM1 qM2 qM3 qM4 qM5 qM6 qM7 qM8 qM12 qM13 qM15 qM16 qM17 qM18 qM19 qM20 qM21 qout : Nat) (C : zv_C p s m args c cL_law 7 RL lw_tbl G cI A) (hB : zx_B A s) (hKL : va_K G vwCl [(cL, .long)] s) (hN : zl_B s) (hX : va_X b L xs s s.heap) (hbl : b < s.heap.size) (hbA : ¬ A b) (hc : cells + 1 ≤ room_1.cells) (hs : slots + 6 ≤ room_1.slots) (O : zMem) (P0 : zMem) (P1 : zMem) (P2 : zMem) (N : zMem) (T : zMem) (F0 : zMem) (F1 : zMem) (F2 : zMem) (M : zMem) (out : zRowL) (i : Int32) (K : zMem → zMem → zMem → zMem → zMem → zMem → zMem → zMem → zMem → zMem → zRowL → Prop) (hK : ∀ (O : zMem) (P0 : zMem) (P1 : zMem) (P2 : zMem) (N : zMem) (T : zMem) (F0 : zMem) (F1 : zMem) (F2 : zMem) (M : zMem) (out : zRowL), K O P0 P1 P2 N T F0 F1 F2 M out → zv_V p l e room_1 s m args below meth c Q G A 7 (cells + 1) (slots + 6) (zd_L_law cI cL adO qO3 qO4 qO5 qO6 adP0 qP00 qP01 qP02 qP03 qP04 adP1 qP10 qP11 qP12 qP13 qP14 adP2 qP20 qP21 qP22 qP23 qP24 adN qN0 qN1 qN2 qN3 qN4 qN5 adT qT0 qT1 qT2 qT3 qT4 qT5 qT6 qT7 adF0 qF00 qF01 qF02 qF03 adF1 qF10 qF11 qF12 qF13 adF2 qF20 qF21 qF22 qF23 adM qM1 qM2 qM3 qM4 qM5 qM6 qM7 qM8 qM12 qM13 qM15 qM16 qM17 qM18 qM19 qM20 qM21 qout O P0 P1 P2 N T F0 F1 F2 M out) 1485 [(4, .int i), (0, .ref b), (1, .ref adO), (2, .ref adM), (3, .ref qout)] []) (hF : zw_law_1389 L xs O P0 P1 P2 N T F0 F1 F2 M out i K) : zv_V p l e room_1 s m args below meth c Q G A 7 cells slots (zd_L_law cI cL adO qO3 qO4 qO5 qO6 adP0 qP00 qP01 qP02 qP03 qP04 adP1 qP10 qP11 qP12 qP13 qP14 adP2 qP20 qP21 qP22 qP23 qP24 adN qN0 qN1 qN2 qN3 qN4 qN5 adT qT0 qT1 qT2 qT3 qT4 qT5 qT6 qT7 adF0 qF00 qF01 qF02 qF03 adF1 qF10 qF11 qF12 qF13 adF2 qF20 qF21 qF22 qF23 adM qM1 qM2 qM3 qM4 qM5 qM6 qM7 qM8 qM12 qM13 qM15 qM16 qM17 qM18 qM19 qM20 qM21 qout O P0 P1 P2 N T F0 F1 F2 M out) 1389 [(4, .int i), (0, .ref b), (1, .ref adO), (2, .ref adM), (3, .ref qout)] [] := by
  refine zv_aload_n (pc := 1389) C rfl 2 rfl dL_law_1389 ?_
  refine zv_aload_n (pc := 1390) C rfl 1 rfl dL_law_1390 ?_
  refine zv_iload (pc := 1391) C 0 rfl dL_law_1391 ?_
  refine zv_iconst (pc := 1393) (v := 1) C (by decide) dL_law_1393 ?_
  refine zv_iadd (pc := 1394) C  dL_law_1394 ?_
  obtain ⟨h_1, hF⟩ := hF
  refine zl_sld (pc := 1395) C hX hbl hbA h_1 dL_law_1395 ?_
  refine zv_aload_n (pc := 1396) C rfl 1 rfl dL_law_1396 ?_
  refine zv_iload (pc := 1397) C 0 rfl dL_law_1397 ?_
  refine zv_iconst (pc := 1399) (v := 2) C (by decide) dL_law_1399 ?_
  refine zv_iadd (pc := 1400) C  dL_law_1400 ?_
  obtain ⟨h_2, hF⟩ := hF
  refine zl_sld (pc := 1401) C hX hbl hbA h_2 dL_law_1401 ?_
  refine zv_if_eq (pc := 1402) (tgt := 1409) C dL_law_1402 (by decide) (fun c_3 => ?_) (fun c_3 => ?_)
  · replace hF := And.left hF c_3
    refine zv_iconst (pc := 1409) (v := 0) C (by decide) dL_law_1409 ?_
    refine zv_aload_n (pc := 1410) C rfl 1 rfl dL_law_1410 ?_
    refine zv_iload (pc := 1411) C 0 rfl dL_law_1411 ?_
    refine zv_iconst (pc := 1413) (v := 3) C (by decide) dL_law_1413 ?_
    refine zv_iadd (pc := 1414) C  dL_law_1414 ?_
    obtain ⟨h_4, hF⟩ := hF
    refine zl_sld (pc := 1415) C hX hbl hbA h_4 dL_law_1415 ?_
    refine zv_aload_n (pc := 1416) C rfl 4 rfl dL_law_1416 ?_
    refine zm_ci (pc := 1417) (ws' := (fun uz : zMem × zMem × zRowL => (zd_L_law cI cL adO qO3 qO4 qO5 qO6 adP0 qP00 qP01 qP02 qP03 qP04 adP1 qP10 qP11 qP12 qP13 qP14 adP2 qP20 qP21 qP22 qP23 qP24 adN qN0 qN1 qN2 qN3 qN4 qN5 adT qT0 qT1 qT2 qT3 qT4 qT5 qT6 qT7 adF0 qF00 qF01 qF02 qF03 adF1 qF10 qF11 qF12 qF13 adF2 qF20 qF21 qF22 qF23 adM qM1 qM2 qM3 qM4 qM5 qM6 qM7 qM8 qM12 qM13 qM15 qM16 qM17 qM18 qM19 qM20 qM21 qout O P0 P1 P2 uz.1 T uz.2.1 F1 F2 M uz.2.2))) C (zm_runW (As := [.ref adO, .int (xs (Int32.toNatClampNeg (i + (1 : Int32)))), .int (0 : Int32), .int (xs (Int32.toNatClampNeg (i + (3 : Int32)))), .ref qout]) (rest := []) C hB hKL hN (zc_L_share l hlt G cI cL adO qO3 qO4 qO5 qO6 adN qN0 qN1 qN2 qN3 qN4 qN5 adF0 qF00 qF01 qF02 qF03 qout adP0 adP1 adP2 adT adF1 adF2 O N F0 out (xs (Int32.toNatClampNeg (i + (1 : Int32)))) (0 : Int32) (xs (Int32.toNatClampNeg (i + (3 : Int32)))) _ hF) (vx_cwSW 5 C.2.2.2.2.1 lwc_L_share rfl rfl rfl zy_L_share ⟨(Nat.le_of_ble_eq_true rfl), (Nat.le_of_ble_eq_true rfl)⟩) rfl rfl (Nat.le_of_ble_eq_true rfl) ⟨hc, hs⟩ dL_law_1417) [0, 1, 2, 3, 4, 23, 24, 25, 26, 27, 28, 29, 39, 40, 41, 42, 43, 72] [5, 6, 7, 8, 9, 10, 11, 12, 13, 14, 15, 16, 17, 18, 19, 20, 21, 22, 30, 31, 32, 33, 34, 35, 36, 37, 38, 44, 45, 46, 47, 48, 49, 50, 51, 52, 53, 54, 55, 56, 57, 58, 59, 60, 61, 62, 63, 64, 65, 66, 67, 68, 69, 70, 71] rfl rfl rfl rfl rfl (fun _ => rfl) (fun _ => rfl) (fun _ => rfl) (fun v_8 uz hF => ?_)
    obtain ⟨T_5, T_6, r_7⟩ := uz
    refine zv_istore (pc := 1420) (lv' := [(5, .int v_8), (4, .int i), (0, .ref b), (1, .ref adO), (2, .ref adM), (3, .ref qout)]) C (by decide) rfl dL_law_1420 ?_
    refine zv_aload_n (pc := 1422) C rfl 4 rfl dL_law_1422 ?_
    refine zv_aload_n (pc := 1423) C rfl 2 rfl dL_law_1423 ?_
    refine zv_iload (pc := 1424) C 1 rfl dL_law_1424 ?_
    refine zv_iconst (pc := 1426) (v := 1) C (by decide) dL_law_1426 ?_
    refine zv_iadd (pc := 1427) C  dL_law_1427 ?_
    obtain ⟨h_9, hF⟩ := hF
    refine zl_sld (pc := 1428) C hX hbl hbA h_9 dL_law_1428 ?_
    refine zv_aload_n (pc := 1429) C rfl 2 rfl dL_law_1429 ?_
    refine zv_iload (pc := 1430) C 1 rfl dL_law_1430 ?_
    refine zv_iconst (pc := 1432) (v := 2) C (by decide) dL_law_1432 ?_
    refine zv_iadd (pc := 1433) C  dL_law_1433 ?_
    obtain ⟨h_10, hF⟩ := hF
    refine zl_sld (pc := 1434) C hX hbl hbA h_10 dL_law_1434 ?_
    refine zv_if_eq (pc := 1435) (tgt := 1442) C dL_law_1435 (by decide) (fun c_11 => ?_) (fun c_11 => ?_)
    · replace hF := And.left hF c_11
      refine zv_iconst (pc := 1442) (v := 0) C (by decide) dL_law_1442 ?_
      refine zv_aload_n (pc := 1443) C rfl 2 rfl dL_law_1443 ?_
      refine zv_iload (pc := 1444) C 1 rfl dL_law_1444 ?_
      refine zv_iconst (pc := 1446) (v := 3) C (by decide) dL_law_1446 ?_
      refine zv_iadd (pc := 1447) C  dL_law_1447 ?_
      obtain ⟨h_12, hF⟩ := hF
      refine zl_sld (pc := 1448) C hX hbl hbA h_12 dL_law_1448 ?_
      refine zv_ci0 (pc := 1449) (ws' := (fun uz : zMem => (zd_L_law cI cL adO qO3 qO4 qO5 qO6 adP0 qP00 qP01 qP02 qP03 qP04 adP1 qP10 qP11 qP12 qP13 qP14 adP2 qP20 qP21 qP22 qP23 qP24 adN qN0 qN1 qN2 qN3 qN4 qN5 adT qT0 qT1 qT2 qT3 qT4 qT5 qT6 qT7 adF0 qF00 qF01 qF02 qF03 adF1 qF10 qF11 qF12 qF13 adF2 qF20 qF21 qF22 qF23 adM qM1 qM2 qM3 qM4 qM5 qM6 qM7 qM8 qM12 qM13 qM15 qM16 qM17 qM18 qM19 qM20 qM21 qout O P0 P1 P2 T_5 T T_6 F1 F2 uz r_7))) C (zv_runV (As := [.int (xs (Int32.toNatClampNeg (i + (1 : Int32)))), .int (0 : Int32), .int (xs (Int32.toNatClampNeg (i + (3 : Int32))))]) (b := adM) (rest := []) (ci := 5) (q0 := 54) C (zc_X6_share l G cI adM qM1 qM2 qM3 qM4 qM5 qM6 qM7 qM8 qM12 qM13 qM15 qM16 qM17 qM18 qM19 qM20 qM21 M (xs (Int32.toNatClampNeg (i + (1 : Int32)))) (0 : Int32) (xs (Int32.toNatClampNeg (i + (3 : Int32)))) _ hF) (cwV 3 C.2.2.2.2.1 lwc_X6_share rfl rfl rfl zy_X6_share ⟨(Nat.le_of_ble_eq_true rfl), (Nat.le_of_ble_eq_true rfl)⟩) rfl rfl rfl rfl rfl (Nat.le_of_ble_eq_true rfl) ⟨hc, hs⟩ dL_law_1449) [54, 55, 56, 57, 58, 59, 60, 61, 62, 63, 64, 65, 66, 67, 68, 69, 70, 71] [0, 1, 2, 3, 4, 5, 6, 7, 8, 9, 10, 11, 12, 13, 14, 15, 16, 17, 18, 19, 20, 21, 22, 23, 24, 25, 26, 27, 28, 29, 30, 31, 32, 33, 34, 35, 36, 37, 38, 39, 40, 41, 42, 43, 44, 45, 46, 47, 48, 49, 50, 51, 52, 53, 72] rfl rfl rfl rfl rfl (fun _ => rfl) (fun _ => rfl) (fun _ => rfl) (fun v_14 uz hF => ?_)
      obtain ⟨T_13, hE⟩ : ∃ z, z = uz := ⟨_, rfl⟩; subst hE
      refine zv_istore (pc := 1452) (lv' := [(6, .int v_14), (5, .int v_8), (4, .int i), (0, .ref b), (1, .ref adO), (2, .ref adM), (3, .ref qout)]) C (by decide) rfl dL_law_1452 ?_
      refine zv_aload_n (pc := 1454) C rfl 5 rfl dL_law_1454 ?_
      refine zv_ci0 (pc := 1455) (ws' := (fun uz : Unit => (zd_L_law cI cL adO qO3 qO4 qO5 qO6 adP0 qP00 qP01 qP02 qP03 qP04 adP1 qP10 qP11 qP12 qP13 qP14 adP2 qP20 qP21 qP22 qP23 qP24 adN qN0 qN1 qN2 qN3 qN4 qN5 adT qT0 qT1 qT2 qT3 qT4 qT5 qT6 qT7 adF0 qF00 qF01 qF02 qF03 adF1 qF10 qF11 qF12 qF13 adF2 qF20 qF21 qF22 qF23 adM qM1 qM2 qM3 qM4 qM5 qM6 qM7 qM8 qM12 qM13 qM15 qM16 qM17 qM18 qM19 qM20 qM21 qout O P0 P1 P2 T_5 T T_6 F1 F2 T_13 r_7))) C (zv_runV (As := []) (b := adM) (rest := []) (ci := 5) (q0 := 54) C (zc_X6_thrown l G cI adM qM1 qM2 qM3 qM4 qM5 qM6 qM7 qM8 qM12 qM13 qM15 qM16 qM17 qM18 qM19 qM20 qM21 T_13 _ hF) (cwV 0 C.2.2.2.2.1 lwc_X6_thrown rfl rfl rfl zy_X6_thrown ⟨(Nat.le_of_ble_eq_true rfl), (Nat.le_of_ble_eq_true rfl)⟩) rfl rfl rfl rfl rfl (Nat.le_of_ble_eq_true rfl) ⟨hc, hs⟩ dL_law_1455) [54, 55, 56, 57, 58, 59, 60, 61, 62, 63, 64, 65, 66, 67, 68, 69, 70, 71] [0, 1, 2, 3, 4, 5, 6, 7, 8, 9, 10, 11, 12, 13, 14, 15, 16, 17, 18, 19, 20, 21, 22, 23, 24, 25, 26, 27, 28, 29, 30, 31, 32, 33, 34, 35, 36, 37, 38, 39, 40, 41, 42, 43, 44, 45, 46, 47, 48, 49, 50, 51, 52, 53, 72] rfl rfl rfl rfl rfl (fun _ => rfl) (fun _ => rfl) (fun _ => rfl) (fun v_15 uz hF => ?_)
      refine zv_iload (pc := 1458) C 1 rfl dL_law_1458 ?_
      refine zv_icmp_eq (pc := 1460) (tgt := 1465) C dL_law_1460 (by decide) (fun c_16 => ?_) (fun c_16 => ?_)
      · replace hF := And.left hF c_16
        refine zv_iload (pc := 1465) C 1 rfl dL_law_1465 ?_
        refine zv_if_ne (pc := 1467) (tgt := 1482) C dL_law_1467 (by decide) (fun c_17 => ?_) (fun c_17 => ?_)
        · replace hF := And.left hF c_17
          refine zv_goto (pc := 1482) (tgt := 1485) C dL_law_1482 (by decide) ?_
          exact zv_lvs [2, 3, 4, 5, 6] rfl (hK O P0 P1 P2 T_5 T T_6 F1 F2 T_13 r_7 hF)
        · replace hF := And.right hF c_17
          refine zv_aload_n (pc := 1470) C rfl 6 rfl dL_law_1470 ?_
          refine zv_iconst (pc := 1471) (v := 0) C (by decide) dL_law_1471 ?_
          refine zl_lald (pc := 1472) (n := 1) (f := r_7) C hKL 72 (vp_in_iff.mpr (by decide)) rfl dL_law_1472 ?_
          refine zv_iload (pc := 1473) C 0 rfl dL_law_1473 ?_
          refine zv_i2l (pc := 1475) C  dL_law_1475 ?_
          refine zv_lcmp (pc := 1476) C  dL_law_1476 ?_
          refine zv_if_eq (pc := 1477) (tgt := 1482) C dL_law_1477 (by decide) (fun c_18 => ?_) (fun c_18 => ?_)
          · replace hF := And.left hF c_18
            refine zv_goto (pc := 1482) (tgt := 1485) C dL_law_1482 (by decide) ?_
            exact zv_lvs [2, 3, 4, 5, 6] rfl (hK O P0 P1 P2 T_5 T T_6 F1 F2 T_13 r_7 hF)
          · replace hF := And.right hF c_18
            refine zv_iconst (pc := 1480) (v := 0) C (by decide) dL_law_1480 ?_
            exact (show False from hF).elim
      · replace hF := And.right hF c_16
        refine zv_iconst (pc := 1463) (v := 0) C (by decide) dL_law_1463 ?_
        exact (show False from hF).elim
    · replace hF := And.right hF c_11
      refine zv_iconst (pc := 1438) (v := 1) C (by decide) dL_law_1438 ?_
      refine zv_goto (pc := 1439) (tgt := 1443) C dL_law_1439 (by decide) ?_
      refine zv_aload_n (pc := 1443) C rfl 2 rfl dL_law_1443 ?_
      refine zv_iload (pc := 1444) C 1 rfl dL_law_1444 ?_
      refine zv_iconst (pc := 1446) (v := 3) C (by decide) dL_law_1446 ?_
      refine zv_iadd (pc := 1447) C  dL_law_1447 ?_
      obtain ⟨h_19, hF⟩ := hF
      refine zl_sld (pc := 1448) C hX hbl hbA h_19 dL_law_1448 ?_
      refine zv_ci0 (pc := 1449) (ws' := (fun uz : zMem => (zd_L_law cI cL adO qO3 qO4 qO5 qO6 adP0 qP00 qP01 qP02 qP03 qP04 adP1 qP10 qP11 qP12 qP13 qP14 adP2 qP20 qP21 qP22 qP23 qP24 adN qN0 qN1 qN2 qN3 qN4 qN5 adT qT0 qT1 qT2 qT3 qT4 qT5 qT6 qT7 adF0 qF00 qF01 qF02 qF03 adF1 qF10 qF11 qF12 qF13 adF2 qF20 qF21 qF22 qF23 adM qM1 qM2 qM3 qM4 qM5 qM6 qM7 qM8 qM12 qM13 qM15 qM16 qM17 qM18 qM19 qM20 qM21 qout O P0 P1 P2 T_5 T T_6 F1 F2 uz r_7))) C (zv_runV (As := [.int (xs (Int32.toNatClampNeg (i + (1 : Int32)))), .int (1 : Int32), .int (xs (Int32.toNatClampNeg (i + (3 : Int32))))]) (b := adM) (rest := []) (ci := 5) (q0 := 54) C (zc_X6_share l G cI adM qM1 qM2 qM3 qM4 qM5 qM6 qM7 qM8 qM12 qM13 qM15 qM16 qM17 qM18 qM19 qM20 qM21 M (xs (Int32.toNatClampNeg (i + (1 : Int32)))) (1 : Int32) (xs (Int32.toNatClampNeg (i + (3 : Int32)))) _ hF) (cwV 3 C.2.2.2.2.1 lwc_X6_share rfl rfl rfl zy_X6_share ⟨(Nat.le_of_ble_eq_true rfl), (Nat.le_of_ble_eq_true rfl)⟩) rfl rfl rfl rfl rfl (Nat.le_of_ble_eq_true rfl) ⟨hc, hs⟩ dL_law_1449) [54, 55, 56, 57, 58, 59, 60, 61, 62, 63, 64, 65, 66, 67, 68, 69, 70, 71] [0, 1, 2, 3, 4, 5, 6, 7, 8, 9, 10, 11, 12, 13, 14, 15, 16, 17, 18, 19, 20, 21, 22, 23, 24, 25, 26, 27, 28, 29, 30, 31, 32, 33, 34, 35, 36, 37, 38, 39, 40, 41, 42, 43, 44, 45, 46, 47, 48, 49, 50, 51, 52, 53, 72] rfl rfl rfl rfl rfl (fun _ => rfl) (fun _ => rfl) (fun _ => rfl) (fun v_21 uz hF => ?_)
      obtain ⟨T_20, hE⟩ : ∃ z, z = uz := ⟨_, rfl⟩; subst hE
      refine zv_istore (pc := 1452) (lv' := [(6, .int v_21), (5, .int v_8), (4, .int i), (0, .ref b), (1, .ref adO), (2, .ref adM), (3, .ref qout)]) C (by decide) rfl dL_law_1452 ?_
      refine zv_aload_n (pc := 1454) C rfl 5 rfl dL_law_1454 ?_
      refine zv_ci0 (pc := 1455) (ws' := (fun uz : Unit => (zd_L_law cI cL adO qO3 qO4 qO5 qO6 adP0 qP00 qP01 qP02 qP03 qP04 adP1 qP10 qP11 qP12 qP13 qP14 adP2 qP20 qP21 qP22 qP23 qP24 adN qN0 qN1 qN2 qN3 qN4 qN5 adT qT0 qT1 qT2 qT3 qT4 qT5 qT6 qT7 adF0 qF00 qF01 qF02 qF03 adF1 qF10 qF11 qF12 qF13 adF2 qF20 qF21 qF22 qF23 adM qM1 qM2 qM3 qM4 qM5 qM6 qM7 qM8 qM12 qM13 qM15 qM16 qM17 qM18 qM19 qM20 qM21 qout O P0 P1 P2 T_5 T T_6 F1 F2 T_20 r_7))) C (zv_runV (As := []) (b := adM) (rest := []) (ci := 5) (q0 := 54) C (zc_X6_thrown l G cI adM qM1 qM2 qM3 qM4 qM5 qM6 qM7 qM8 qM12 qM13 qM15 qM16 qM17 qM18 qM19 qM20 qM21 T_20 _ hF) (cwV 0 C.2.2.2.2.1 lwc_X6_thrown rfl rfl rfl zy_X6_thrown ⟨(Nat.le_of_ble_eq_true rfl), (Nat.le_of_ble_eq_true rfl)⟩) rfl rfl rfl rfl rfl (Nat.le_of_ble_eq_true rfl) ⟨hc, hs⟩ dL_law_1455) [54, 55, 56, 57, 58, 59, 60, 61, 62, 63, 64, 65, 66, 67, 68, 69, 70, 71] [0, 1, 2, 3, 4, 5, 6, 7, 8, 9, 10, 11, 12, 13, 14, 15, 16, 17, 18, 19, 20, 21, 22, 23, 24, 25, 26, 27, 28, 29, 30, 31, 32, 33, 34, 35, 36, 37, 38, 39, 40, 41, 42, 43, 44, 45, 46, 47, 48, 49, 50, 51, 52, 53, 72] rfl rfl rfl rfl rfl (fun _ => rfl) (fun _ => rfl) (fun _ => rfl) (fun v_22 uz hF => ?_)
      refine zv_iload (pc := 1458) C 1 rfl dL_law_1458 ?_
      refine zv_icmp_eq (pc := 1460) (tgt := 1465) C dL_law_1460 (by decide) (fun c_23 => ?_) (fun c_23 => ?_)
      · replace hF := And.left hF c_23
        refine zv_iload (pc := 1465) C 1 rfl dL_law_1465 ?_
        refine zv_if_ne (pc := 1467) (tgt := 1482) C dL_law_1467 (by decide) (fun c_24 => ?_) (fun c_24 => ?_)
        · replace hF := And.left hF c_24
          refine zv_goto (pc := 1482) (tgt := 1485) C dL_law_1482 (by decide) ?_
          exact zv_lvs [2, 3, 4, 5, 6] rfl (hK O P0 P1 P2 T_5 T T_6 F1 F2 T_20 r_7 hF)
        · replace hF := And.right hF c_24
          refine zv_aload_n (pc := 1470) C rfl 6 rfl dL_law_1470 ?_
          refine zv_iconst (pc := 1471) (v := 0) C (by decide) dL_law_1471 ?_
          refine zl_lald (pc := 1472) (n := 1) (f := r_7) C hKL 72 (vp_in_iff.mpr (by decide)) rfl dL_law_1472 ?_
          refine zv_iload (pc := 1473) C 0 rfl dL_law_1473 ?_
          refine zv_i2l (pc := 1475) C  dL_law_1475 ?_
          refine zv_lcmp (pc := 1476) C  dL_law_1476 ?_
          refine zv_if_eq (pc := 1477) (tgt := 1482) C dL_law_1477 (by decide) (fun c_25 => ?_) (fun c_25 => ?_)
          · replace hF := And.left hF c_25
            refine zv_goto (pc := 1482) (tgt := 1485) C dL_law_1482 (by decide) ?_
            exact zv_lvs [2, 3, 4, 5, 6] rfl (hK O P0 P1 P2 T_5 T T_6 F1 F2 T_20 r_7 hF)
          · replace hF := And.right hF c_25
            refine zv_iconst (pc := 1480) (v := 0) C (by decide) dL_law_1480 ?_
            exact (show False from hF).elim
      · replace hF := And.right hF c_23
        refine zv_iconst (pc := 1463) (v := 0) C (by decide) dL_law_1463 ?_
        exact (show False from hF).elim
  · replace hF := And.right hF c_3
    refine zv_iconst (pc := 1405) (v := 1) C (by decide) dL_law_1405 ?_
    refine zv_goto (pc := 1406) (tgt := 1410) C dL_law_1406 (by decide) ?_
    refine zv_aload_n (pc := 1410) C rfl 1 rfl dL_law_1410 ?_
    refine zv_iload (pc := 1411) C 0 rfl dL_law_1411 ?_
    refine zv_iconst (pc := 1413) (v := 3) C (by decide) dL_law_1413 ?_
    refine zv_iadd (pc := 1414) C  dL_law_1414 ?_
    obtain ⟨h_26, hF⟩ := hF
    refine zl_sld (pc := 1415) C hX hbl hbA h_26 dL_law_1415 ?_
    refine zv_aload_n (pc := 1416) C rfl 4 rfl dL_law_1416 ?_
    refine zm_ci (pc := 1417) (ws' := (fun uz : zMem × zMem × zRowL => (zd_L_law cI cL adO qO3 qO4 qO5 qO6 adP0 qP00 qP01 qP02 qP03 qP04 adP1 qP10 qP11 qP12 qP13 qP14 adP2 qP20 qP21 qP22 qP23 qP24 adN qN0 qN1 qN2 qN3 qN4 qN5 adT qT0 qT1 qT2 qT3 qT4 qT5 qT6 qT7 adF0 qF00 qF01 qF02 qF03 adF1 qF10 qF11 qF12 qF13 adF2 qF20 qF21 qF22 qF23 adM qM1 qM2 qM3 qM4 qM5 qM6 qM7 qM8 qM12 qM13 qM15 qM16 qM17 qM18 qM19 qM20 qM21 qout O P0 P1 P2 uz.1 T uz.2.1 F1 F2 M uz.2.2))) C (zm_runW (As := [.ref adO, .int (xs (Int32.toNatClampNeg (i + (1 : Int32)))), .int (1 : Int32), .int (xs (Int32.toNatClampNeg (i + (3 : Int32)))), .ref qout]) (rest := []) C hB hKL hN (zc_L_share l hlt G cI cL adO qO3 qO4 qO5 qO6 adN qN0 qN1 qN2 qN3 qN4 qN5 adF0 qF00 qF01 qF02 qF03 qout adP0 adP1 adP2 adT adF1 adF2 O N F0 out (xs (Int32.toNatClampNeg (i + (1 : Int32)))) (1 : Int32) (xs (Int32.toNatClampNeg (i + (3 : Int32)))) _ hF) (vx_cwSW 5 C.2.2.2.2.1 lwc_L_share rfl rfl rfl zy_L_share ⟨(Nat.le_of_ble_eq_true rfl), (Nat.le_of_ble_eq_true rfl)⟩) rfl rfl (Nat.le_of_ble_eq_true rfl) ⟨hc, hs⟩ dL_law_1417) [0, 1, 2, 3, 4, 23, 24, 25, 26, 27, 28, 29, 39, 40, 41, 42, 43, 72] [5, 6, 7, 8, 9, 10, 11, 12, 13, 14, 15, 16, 17, 18, 19, 20, 21, 22, 30, 31, 32, 33, 34, 35, 36, 37, 38, 44, 45, 46, 47, 48, 49, 50, 51, 52, 53, 54, 55, 56, 57, 58, 59, 60, 61, 62, 63, 64, 65, 66, 67, 68, 69, 70, 71] rfl rfl rfl rfl rfl (fun _ => rfl) (fun _ => rfl) (fun _ => rfl) (fun v_30 uz hF => ?_)
    obtain ⟨T_27, T_28, r_29⟩ := uz
    refine zv_istore (pc := 1420) (lv' := [(5, .int v_30), (4, .int i), (0, .ref b), (1, .ref adO), (2, .ref adM), (3, .ref qout)]) C (by decide) rfl dL_law_1420 ?_
    refine zv_aload_n (pc := 1422) C rfl 4 rfl dL_law_1422 ?_
    refine zv_aload_n (pc := 1423) C rfl 2 rfl dL_law_1423 ?_
    refine zv_iload (pc := 1424) C 1 rfl dL_law_1424 ?_
    refine zv_iconst (pc := 1426) (v := 1) C (by decide) dL_law_1426 ?_
    refine zv_iadd (pc := 1427) C  dL_law_1427 ?_
    obtain ⟨h_31, hF⟩ := hF
    refine zl_sld (pc := 1428) C hX hbl hbA h_31 dL_law_1428 ?_
    refine zv_aload_n (pc := 1429) C rfl 2 rfl dL_law_1429 ?_
    refine zv_iload (pc := 1430) C 1 rfl dL_law_1430 ?_
    refine zv_iconst (pc := 1432) (v := 2) C (by decide) dL_law_1432 ?_
    refine zv_iadd (pc := 1433) C  dL_law_1433 ?_
    obtain ⟨h_32, hF⟩ := hF
    refine zl_sld (pc := 1434) C hX hbl hbA h_32 dL_law_1434 ?_
    refine zv_if_eq (pc := 1435) (tgt := 1442) C dL_law_1435 (by decide) (fun c_33 => ?_) (fun c_33 => ?_)
    · replace hF := And.left hF c_33
      refine zv_iconst (pc := 1442) (v := 0) C (by decide) dL_law_1442 ?_
      refine zv_aload_n (pc := 1443) C rfl 2 rfl dL_law_1443 ?_
      refine zv_iload (pc := 1444) C 1 rfl dL_law_1444 ?_
      refine zv_iconst (pc := 1446) (v := 3) C (by decide) dL_law_1446 ?_
      refine zv_iadd (pc := 1447) C  dL_law_1447 ?_
      obtain ⟨h_34, hF⟩ := hF
      refine zl_sld (pc := 1448) C hX hbl hbA h_34 dL_law_1448 ?_
      refine zv_ci0 (pc := 1449) (ws' := (fun uz : zMem => (zd_L_law cI cL adO qO3 qO4 qO5 qO6 adP0 qP00 qP01 qP02 qP03 qP04 adP1 qP10 qP11 qP12 qP13 qP14 adP2 qP20 qP21 qP22 qP23 qP24 adN qN0 qN1 qN2 qN3 qN4 qN5 adT qT0 qT1 qT2 qT3 qT4 qT5 qT6 qT7 adF0 qF00 qF01 qF02 qF03 adF1 qF10 qF11 qF12 qF13 adF2 qF20 qF21 qF22 qF23 adM qM1 qM2 qM3 qM4 qM5 qM6 qM7 qM8 qM12 qM13 qM15 qM16 qM17 qM18 qM19 qM20 qM21 qout O P0 P1 P2 T_27 T T_28 F1 F2 uz r_29))) C (zv_runV (As := [.int (xs (Int32.toNatClampNeg (i + (1 : Int32)))), .int (0 : Int32), .int (xs (Int32.toNatClampNeg (i + (3 : Int32))))]) (b := adM) (rest := []) (ci := 5) (q0 := 54) C (zc_X6_share l G cI adM qM1 qM2 qM3 qM4 qM5 qM6 qM7 qM8 qM12 qM13 qM15 qM16 qM17 qM18 qM19 qM20 qM21 M (xs (Int32.toNatClampNeg (i + (1 : Int32)))) (0 : Int32) (xs (Int32.toNatClampNeg (i + (3 : Int32)))) _ hF) (cwV 3 C.2.2.2.2.1 lwc_X6_share rfl rfl rfl zy_X6_share ⟨(Nat.le_of_ble_eq_true rfl), (Nat.le_of_ble_eq_true rfl)⟩) rfl rfl rfl rfl rfl (Nat.le_of_ble_eq_true rfl) ⟨hc, hs⟩ dL_law_1449) [54, 55, 56, 57, 58, 59, 60, 61, 62, 63, 64, 65, 66, 67, 68, 69, 70, 71] [0, 1, 2, 3, 4, 5, 6, 7, 8, 9, 10, 11, 12, 13, 14, 15, 16, 17, 18, 19, 20, 21, 22, 23, 24, 25, 26, 27, 28, 29, 30, 31, 32, 33, 34, 35, 36, 37, 38, 39, 40, 41, 42, 43, 44, 45, 46, 47, 48, 49, 50, 51, 52, 53, 72] rfl rfl rfl rfl rfl (fun _ => rfl) (fun _ => rfl) (fun _ => rfl) (fun v_36 uz hF => ?_)
      obtain ⟨T_35, hE⟩ : ∃ z, z = uz := ⟨_, rfl⟩; subst hE
      refine zv_istore (pc := 1452) (lv' := [(6, .int v_36), (5, .int v_30), (4, .int i), (0, .ref b), (1, .ref adO), (2, .ref adM), (3, .ref qout)]) C (by decide) rfl dL_law_1452 ?_
      refine zv_aload_n (pc := 1454) C rfl 5 rfl dL_law_1454 ?_
      refine zv_ci0 (pc := 1455) (ws' := (fun uz : Unit => (zd_L_law cI cL adO qO3 qO4 qO5 qO6 adP0 qP00 qP01 qP02 qP03 qP04 adP1 qP10 qP11 qP12 qP13 qP14 adP2 qP20 qP21 qP22 qP23 qP24 adN qN0 qN1 qN2 qN3 qN4 qN5 adT qT0 qT1 qT2 qT3 qT4 qT5 qT6 qT7 adF0 qF00 qF01 qF02 qF03 adF1 qF10 qF11 qF12 qF13 adF2 qF20 qF21 qF22 qF23 adM qM1 qM2 qM3 qM4 qM5 qM6 qM7 qM8 qM12 qM13 qM15 qM16 qM17 qM18 qM19 qM20 qM21 qout O P0 P1 P2 T_27 T T_28 F1 F2 T_35 r_29))) C (zv_runV (As := []) (b := adM) (rest := []) (ci := 5) (q0 := 54) C (zc_X6_thrown l G cI adM qM1 qM2 qM3 qM4 qM5 qM6 qM7 qM8 qM12 qM13 qM15 qM16 qM17 qM18 qM19 qM20 qM21 T_35 _ hF) (cwV 0 C.2.2.2.2.1 lwc_X6_thrown rfl rfl rfl zy_X6_thrown ⟨(Nat.le_of_ble_eq_true rfl), (Nat.le_of_ble_eq_true rfl)⟩) rfl rfl rfl rfl rfl (Nat.le_of_ble_eq_true rfl) ⟨hc, hs⟩ dL_law_1455) [54, 55, 56, 57, 58, 59, 60, 61, 62, 63, 64, 65, 66, 67, 68, 69, 70, 71] [0, 1, 2, 3, 4, 5, 6, 7, 8, 9, 10, 11, 12, 13, 14, 15, 16, 17, 18, 19, 20, 21, 22, 23, 24, 25, 26, 27, 28, 29, 30, 31, 32, 33, 34, 35, 36, 37, 38, 39, 40, 41, 42, 43, 44, 45, 46, 47, 48, 49, 50, 51, 52, 53, 72] rfl rfl rfl rfl rfl (fun _ => rfl) (fun _ => rfl) (fun _ => rfl) (fun v_37 uz hF => ?_)
      refine zv_iload (pc := 1458) C 1 rfl dL_law_1458 ?_
      refine zv_icmp_eq (pc := 1460) (tgt := 1465) C dL_law_1460 (by decide) (fun c_38 => ?_) (fun c_38 => ?_)
      · replace hF := And.left hF c_38
        refine zv_iload (pc := 1465) C 1 rfl dL_law_1465 ?_
        refine zv_if_ne (pc := 1467) (tgt := 1482) C dL_law_1467 (by decide) (fun c_39 => ?_) (fun c_39 => ?_)
        · replace hF := And.left hF c_39
          refine zv_goto (pc := 1482) (tgt := 1485) C dL_law_1482 (by decide) ?_
          exact zv_lvs [2, 3, 4, 5, 6] rfl (hK O P0 P1 P2 T_27 T T_28 F1 F2 T_35 r_29 hF)
        · replace hF := And.right hF c_39
          refine zv_aload_n (pc := 1470) C rfl 6 rfl dL_law_1470 ?_
          refine zv_iconst (pc := 1471) (v := 0) C (by decide) dL_law_1471 ?_
          refine zl_lald (pc := 1472) (n := 1) (f := r_29) C hKL 72 (vp_in_iff.mpr (by decide)) rfl dL_law_1472 ?_
          refine zv_iload (pc := 1473) C 0 rfl dL_law_1473 ?_
          refine zv_i2l (pc := 1475) C  dL_law_1475 ?_
          refine zv_lcmp (pc := 1476) C  dL_law_1476 ?_
          refine zv_if_eq (pc := 1477) (tgt := 1482) C dL_law_1477 (by decide) (fun c_40 => ?_) (fun c_40 => ?_)
          · replace hF := And.left hF c_40
            refine zv_goto (pc := 1482) (tgt := 1485) C dL_law_1482 (by decide) ?_
            exact zv_lvs [2, 3, 4, 5, 6] rfl (hK O P0 P1 P2 T_27 T T_28 F1 F2 T_35 r_29 hF)
          · replace hF := And.right hF c_40
            refine zv_iconst (pc := 1480) (v := 0) C (by decide) dL_law_1480 ?_
            exact (show False from hF).elim
      · replace hF := And.right hF c_38
        refine zv_iconst (pc := 1463) (v := 0) C (by decide) dL_law_1463 ?_
        exact (show False from hF).elim
    · replace hF := And.right hF c_33
      refine zv_iconst (pc := 1438) (v := 1) C (by decide) dL_law_1438 ?_
      refine zv_goto (pc := 1439) (tgt := 1443) C dL_law_1439 (by decide) ?_
      refine zv_aload_n (pc := 1443) C rfl 2 rfl dL_law_1443 ?_
      refine zv_iload (pc := 1444) C 1 rfl dL_law_1444 ?_
      refine zv_iconst (pc := 1446) (v := 3) C (by decide) dL_law_1446 ?_
      refine zv_iadd (pc := 1447) C  dL_law_1447 ?_
      obtain ⟨h_41, hF⟩ := hF
      refine zl_sld (pc := 1448) C hX hbl hbA h_41 dL_law_1448 ?_
      refine zv_ci0 (pc := 1449) (ws' := (fun uz : zMem => (zd_L_law cI cL adO qO3 qO4 qO5 qO6 adP0 qP00 qP01 qP02 qP03 qP04 adP1 qP10 qP11 qP12 qP13 qP14 adP2 qP20 qP21 qP22 qP23 qP24 adN qN0 qN1 qN2 qN3 qN4 qN5 adT qT0 qT1 qT2 qT3 qT4 qT5 qT6 qT7 adF0 qF00 qF01 qF02 qF03 adF1 qF10 qF11 qF12 qF13 adF2 qF20 qF21 qF22 qF23 adM qM1 qM2 qM3 qM4 qM5 qM6 qM7 qM8 qM12 qM13 qM15 qM16 qM17 qM18 qM19 qM20 qM21 qout O P0 P1 P2 T_27 T T_28 F1 F2 uz r_29))) C (zv_runV (As := [.int (xs (Int32.toNatClampNeg (i + (1 : Int32)))), .int (1 : Int32), .int (xs (Int32.toNatClampNeg (i + (3 : Int32))))]) (b := adM) (rest := []) (ci := 5) (q0 := 54) C (zc_X6_share l G cI adM qM1 qM2 qM3 qM4 qM5 qM6 qM7 qM8 qM12 qM13 qM15 qM16 qM17 qM18 qM19 qM20 qM21 M (xs (Int32.toNatClampNeg (i + (1 : Int32)))) (1 : Int32) (xs (Int32.toNatClampNeg (i + (3 : Int32)))) _ hF) (cwV 3 C.2.2.2.2.1 lwc_X6_share rfl rfl rfl zy_X6_share ⟨(Nat.le_of_ble_eq_true rfl), (Nat.le_of_ble_eq_true rfl)⟩) rfl rfl rfl rfl rfl (Nat.le_of_ble_eq_true rfl) ⟨hc, hs⟩ dL_law_1449) [54, 55, 56, 57, 58, 59, 60, 61, 62, 63, 64, 65, 66, 67, 68, 69, 70, 71] [0, 1, 2, 3, 4, 5, 6, 7, 8, 9, 10, 11, 12, 13, 14, 15, 16, 17, 18, 19, 20, 21, 22, 23, 24, 25, 26, 27, 28, 29, 30, 31, 32, 33, 34, 35, 36, 37, 38, 39, 40, 41, 42, 43, 44, 45, 46, 47, 48, 49, 50, 51, 52, 53, 72] rfl rfl rfl rfl rfl (fun _ => rfl) (fun _ => rfl) (fun _ => rfl) (fun v_43 uz hF => ?_)
      obtain ⟨T_42, hE⟩ : ∃ z, z = uz := ⟨_, rfl⟩; subst hE
      refine zv_istore (pc := 1452) (lv' := [(6, .int v_43), (5, .int v_30), (4, .int i), (0, .ref b), (1, .ref adO), (2, .ref adM), (3, .ref qout)]) C (by decide) rfl dL_law_1452 ?_
      refine zv_aload_n (pc := 1454) C rfl 5 rfl dL_law_1454 ?_
      refine zv_ci0 (pc := 1455) (ws' := (fun uz : Unit => (zd_L_law cI cL adO qO3 qO4 qO5 qO6 adP0 qP00 qP01 qP02 qP03 qP04 adP1 qP10 qP11 qP12 qP13 qP14 adP2 qP20 qP21 qP22 qP23 qP24 adN qN0 qN1 qN2 qN3 qN4 qN5 adT qT0 qT1 qT2 qT3 qT4 qT5 qT6 qT7 adF0 qF00 qF01 qF02 qF03 adF1 qF10 qF11 qF12 qF13 adF2 qF20 qF21 qF22 qF23 adM qM1 qM2 qM3 qM4 qM5 qM6 qM7 qM8 qM12 qM13 qM15 qM16 qM17 qM18 qM19 qM20 qM21 qout O P0 P1 P2 T_27 T T_28 F1 F2 T_42 r_29))) C (zv_runV (As := []) (b := adM) (rest := []) (ci := 5) (q0 := 54) C (zc_X6_thrown l G cI adM qM1 qM2 qM3 qM4 qM5 qM6 qM7 qM8 qM12 qM13 qM15 qM16 qM17 qM18 qM19 qM20 qM21 T_42 _ hF) (cwV 0 C.2.2.2.2.1 lwc_X6_thrown rfl rfl rfl zy_X6_thrown ⟨(Nat.le_of_ble_eq_true rfl), (Nat.le_of_ble_eq_true rfl)⟩) rfl rfl rfl rfl rfl (Nat.le_of_ble_eq_true rfl) ⟨hc, hs⟩ dL_law_1455) [54, 55, 56, 57, 58, 59, 60, 61, 62, 63, 64, 65, 66, 67, 68, 69, 70, 71] [0, 1, 2, 3, 4, 5, 6, 7, 8, 9, 10, 11, 12, 13, 14, 15, 16, 17, 18, 19, 20, 21, 22, 23, 24, 25, 26, 27, 28, 29, 30, 31, 32, 33, 34, 35, 36, 37, 38, 39, 40, 41, 42, 43, 44, 45, 46, 47, 48, 49, 50, 51, 52, 53, 72] rfl rfl rfl rfl rfl (fun _ => rfl) (fun _ => rfl) (fun _ => rfl) (fun v_44 uz hF => ?_)
      refine zv_iload (pc := 1458) C 1 rfl dL_law_1458 ?_
      refine zv_icmp_eq (pc := 1460) (tgt := 1465) C dL_law_1460 (by decide) (fun c_45 => ?_) (fun c_45 => ?_)
      · replace hF := And.left hF c_45
        refine zv_iload (pc := 1465) C 1 rfl dL_law_1465 ?_
        refine zv_if_ne (pc := 1467) (tgt := 1482) C dL_law_1467 (by decide) (fun c_46 => ?_) (fun c_46 => ?_)
        · replace hF := And.left hF c_46
          refine zv_goto (pc := 1482) (tgt := 1485) C dL_law_1482 (by decide) ?_
          exact zv_lvs [2, 3, 4, 5, 6] rfl (hK O P0 P1 P2 T_27 T T_28 F1 F2 T_42 r_29 hF)
        · replace hF := And.right hF c_46
          refine zv_aload_n (pc := 1470) C rfl 6 rfl dL_law_1470 ?_
          refine zv_iconst (pc := 1471) (v := 0) C (by decide) dL_law_1471 ?_
          refine zl_lald (pc := 1472) (n := 1) (f := r_29) C hKL 72 (vp_in_iff.mpr (by decide)) rfl dL_law_1472 ?_
          refine zv_iload (pc := 1473) C 0 rfl dL_law_1473 ?_
          refine zv_i2l (pc := 1475) C  dL_law_1475 ?_
          refine zv_lcmp (pc := 1476) C  dL_law_1476 ?_
          refine zv_if_eq (pc := 1477) (tgt := 1482) C dL_law_1477 (by decide) (fun c_47 => ?_) (fun c_47 => ?_)
          · replace hF := And.left hF c_47
            refine zv_goto (pc := 1482) (tgt := 1485) C dL_law_1482 (by decide) ?_
            exact zv_lvs [2, 3, 4, 5, 6] rfl (hK O P0 P1 P2 T_27 T T_28 F1 F2 T_42 r_29 hF)
          · replace hF := And.right hF c_47
            refine zv_iconst (pc := 1480) (v := 0) C (by decide) dL_law_1480 ?_
            exact (show False from hF).elim
      · replace hF := And.right hF c_45
        refine zv_iconst (pc := 1463) (v := 0) C (by decide) dL_law_1463 ?_
        exact (show False from hF).elim
