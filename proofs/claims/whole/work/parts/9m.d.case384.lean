set_option maxHeartbeats 4000000 in
set_option maxRecDepth 100000 in
theorem zq_law_384 {p : Program} {l : Launch} {e : Env} {s : State} {m : MethodId} {args : Array Value} {below : List Frame} {meth : Method} {c : Code} {Q : State → Prop} {G : va_G} {cI cL : ClassId} {A : Nat → Prop} {b L : Nat} {xs : Nat → Int32} {cells slots : Nat} (hlt : l.stackTraces = false) (adO qO3 qO4 qO5 qO6 adP0 qP00 qP01 qP02 qP03 qP04 adP1 qP10 qP11 qP12 qP13 qP14 adP2 qP20 qP21 qP22 qP23 qP24 adN qN0 qN1 qN2 qN3 qN4 qN5 adT qT0 qT1 qT2 qT3 qT4 qT5 qT6 qT7 adF0 qF00 qF01 qF02 qF03 adF1 qF10 qF11 qF12 qF13 adF2 qF20 qF21 qF22 qF23 adM qM1 qM2 qM3 qM4 qM5 qM6 qM7 qM8 qM12 qM13 qM15 qM16 qM17 qM18 qM19 qM20 qM21 qout : Nat) (C : zv_C p s m args c cL_law 7 RL lw_tbl G cI A) (hB : zx_B A s) (hKL : va_K G vwCl [(cL, .long)] s) (hN : zl_B s) (hX : va_X b L xs s s.heap) (hbl : b < s.heap.size) (hbA : ¬ A b) (hc : cells + 1 ≤ room_1.cells) (hs : slots + 6 ≤ room_1.slots) (O : zMem) (P0 : zMem) (P1 : zMem) (P2 : zMem) (N : zMem) (T : zMem) (F0 : zMem) (F1 : zMem) (F2 : zMem) (M : zMem) (out : zRowL) (i : Int32) (K : zMem → zMem → zMem → zMem → zMem → zMem → zMem → zMem → zMem → zMem → zRowL → Prop) (hK : ∀ (O : zMem) (P0 : zMem) (P1 : zMem) (P2 : zMem) (N : zMem) (T : zMem) (F0 : zMem) (F1 : zMem) (F2 : zMem) (M : zMem) (out : zRowL), K O P0 P1 P2 N T F0 F1 F2 M out → zv_V p l e room_1 s m args below meth c Q G A 7 (cells + 1) (slots + 6) (zd_L_law cI cL adO qO3 qO4 qO5 qO6 adP0 qP00 qP01 qP02 qP03 qP04 adP1 qP10 qP11 qP12 qP13 qP14 adP2 qP20 qP21 qP22 qP23 qP24 adN qN0 qN1 qN2 qN3 qN4 qN5 adT qT0 qT1 qT2 qT3 qT4 qT5 qT6 qT7 adF0 qF00 qF01 qF02 qF03 adF1 qF10 qF11 qF12 qF13 adF2 qF20 qF21 qF22 qF23 adM qM1 qM2 qM3 qM4 qM5 qM6 qM7 qM8 qM12 qM13 qM15 qM16 qM17 qM18 qM19 qM20 qM21 qout O P0 P1 P2 N T F0 F1 F2 M out) 1485 [(4, .int i), (0, .ref b), (1, .ref adO), (2, .ref adM), (3, .ref qout)] []) (hF : zw_law_384 L xs O P0 P1 P2 N T F0 F1 F2 M out i K) : zv_V p l e room_1 s m args below meth c Q G A 7 cells slots (zd_L_law cI cL adO qO3 qO4 qO5 qO6 adP0 qP00 qP01 qP02 qP03 qP04 adP1 qP10 qP11 qP12 qP13 qP14 adP2 qP20 qP21 qP22 qP23 qP24 adN qN0 qN1 qN2 qN3 qN4 qN5 adT qT0 qT1 qT2 qT3 qT4 qT5 qT6 qT7 adF0 qF00 qF01 qF02 qF03 adF1 qF10 qF11 qF12 qF13 adF2 qF20 qF21 qF22 qF23 adM qM1 qM2 qM3 qM4 qM5 qM6 qM7 qM8 qM12 qM13 qM15 qM16 qM17 qM18 qM19 qM20 qM21 qout O P0 P1 P2 N T F0 F1 F2 M out) 384 [(4, .int i), (0, .ref b), (1, .ref adO), (2, .ref adM), (3, .ref qout)] [] := by
  refine zv_aload_n (pc := 384) C rfl 2 rfl dL_law_384 ?_
  refine zv_aload_n (pc := 385) C rfl 1 rfl dL_law_385 ?_
  refine zv_iload (pc := 386) C 0 rfl dL_law_386 ?_
  refine zv_iconst (pc := 388) (v := 1) C (by decide) dL_law_388 ?_
  refine zv_iadd (pc := 389) C  dL_law_389 ?_
  obtain ⟨h_1, hF⟩ := hF
  refine zl_sld (pc := 390) C hX hbl hbA h_1 dL_law_390 ?_
  refine zv_aload_n (pc := 391) C rfl 1 rfl dL_law_391 ?_
  refine zv_iload (pc := 392) C 0 rfl dL_law_392 ?_
  refine zv_iconst (pc := 394) (v := 2) C (by decide) dL_law_394 ?_
  refine zv_iadd (pc := 395) C  dL_law_395 ?_
  obtain ⟨h_2, hF⟩ := hF
  refine zl_sld (pc := 396) C hX hbl hbA h_2 dL_law_396 ?_
  refine zv_aload_n (pc := 397) C rfl 1 rfl dL_law_397 ?_
  refine zv_iload (pc := 398) C 0 rfl dL_law_398 ?_
  refine zv_iconst (pc := 400) (v := 3) C (by decide) dL_law_400 ?_
  refine zv_iadd (pc := 401) C  dL_law_401 ?_
  obtain ⟨h_3, hF⟩ := hF
  refine zl_sld (pc := 402) C hX hbl hbA h_3 dL_law_402 ?_
  refine zv_aload_n (pc := 403) C rfl 4 rfl dL_law_403 ?_
  refine zm_ci (pc := 404) (ws' := (fun uz : zRowL => (zd_L_law cI cL adO qO3 qO4 qO5 qO6 adP0 qP00 qP01 qP02 qP03 qP04 adP1 qP10 qP11 qP12 qP13 qP14 adP2 qP20 qP21 qP22 qP23 qP24 adN qN0 qN1 qN2 qN3 qN4 qN5 adT qT0 qT1 qT2 qT3 qT4 qT5 qT6 qT7 adF0 qF00 qF01 qF02 qF03 adF1 qF10 qF11 qF12 qF13 adF2 qF20 qF21 qF22 qF23 adM qM1 qM2 qM3 qM4 qM5 qM6 qM7 qM8 qM12 qM13 qM15 qM16 qM17 qM18 qM19 qM20 qM21 qout O P0 P1 P2 N T F0 F1 F2 M uz))) C (zm_runW (As := [.ref adO, .int (xs (Int32.toNatClampNeg (i + (1 : Int32)))), .int (xs (Int32.toNatClampNeg (i + (2 : Int32)))), .int (xs (Int32.toNatClampNeg (i + (3 : Int32)))), .ref qout]) (rest := []) C hB hKL hN (zc_L_about l hlt G cI cL adO qO3 qO4 qO5 qO6 adP0 qP00 qP01 qP02 qP03 qP04 adP1 qP10 qP11 qP12 qP13 qP14 qout adP2 adN adT adF0 adF1 adF2 O P0 P1 out (xs (Int32.toNatClampNeg (i + (1 : Int32)))) (xs (Int32.toNatClampNeg (i + (2 : Int32)))) (xs (Int32.toNatClampNeg (i + (3 : Int32)))) _ hF) (vx_cwSW 5 C.2.2.2.2.1 lwc_L_about rfl rfl rfl zy_L_about ⟨(Nat.le_of_ble_eq_true rfl), (Nat.le_of_ble_eq_true rfl)⟩) rfl rfl (Nat.le_of_ble_eq_true rfl) ⟨hc, hs⟩ dL_law_404) [0, 1, 2, 3, 4, 5, 6, 7, 8, 9, 10, 11, 12, 13, 14, 15, 16, 72] [17, 18, 19, 20, 21, 22, 23, 24, 25, 26, 27, 28, 29, 30, 31, 32, 33, 34, 35, 36, 37, 38, 39, 40, 41, 42, 43, 44, 45, 46, 47, 48, 49, 50, 51, 52, 53, 54, 55, 56, 57, 58, 59, 60, 61, 62, 63, 64, 65, 66, 67, 68, 69, 70, 71] rfl rfl rfl rfl rfl (fun _ => rfl) (fun _ => rfl) (fun _ => rfl) (fun v_5 uz hF => ?_)
  obtain ⟨r_4, hE⟩ : ∃ z, z = uz := ⟨_, rfl⟩; subst hE
  refine zv_istore (pc := 407) (lv' := [(5, .int v_5), (4, .int i), (0, .ref b), (1, .ref adO), (2, .ref adM), (3, .ref qout)]) C (by decide) rfl dL_law_407 ?_
  refine zv_aload_n (pc := 409) C rfl 4 rfl dL_law_409 ?_
  refine zv_aload_n (pc := 410) C rfl 2 rfl dL_law_410 ?_
  refine zv_iload (pc := 411) C 1 rfl dL_law_411 ?_
  refine zv_iconst (pc := 413) (v := 1) C (by decide) dL_law_413 ?_
  refine zv_iadd (pc := 414) C  dL_law_414 ?_
  obtain ⟨h_6, hF⟩ := hF
  refine zl_sld (pc := 415) C hX hbl hbA h_6 dL_law_415 ?_
  refine zv_aload_n (pc := 416) C rfl 2 rfl dL_law_416 ?_
  refine zv_iload (pc := 417) C 1 rfl dL_law_417 ?_
  refine zv_iconst (pc := 419) (v := 2) C (by decide) dL_law_419 ?_
  refine zv_iadd (pc := 420) C  dL_law_420 ?_
  obtain ⟨h_7, hF⟩ := hF
  refine zl_sld (pc := 421) C hX hbl hbA h_7 dL_law_421 ?_
  refine zv_aload_n (pc := 422) C rfl 2 rfl dL_law_422 ?_
  refine zv_iload (pc := 423) C 1 rfl dL_law_423 ?_
  refine zv_iconst (pc := 425) (v := 3) C (by decide) dL_law_425 ?_
  refine zv_iadd (pc := 426) C  dL_law_426 ?_
  obtain ⟨h_8, hF⟩ := hF
  refine zl_sld (pc := 427) C hX hbl hbA h_8 dL_law_427 ?_
  refine zv_ci0 (pc := 428) (ws' := (fun uz : zMem => (zd_L_law cI cL adO qO3 qO4 qO5 qO6 adP0 qP00 qP01 qP02 qP03 qP04 adP1 qP10 qP11 qP12 qP13 qP14 adP2 qP20 qP21 qP22 qP23 qP24 adN qN0 qN1 qN2 qN3 qN4 qN5 adT qT0 qT1 qT2 qT3 qT4 qT5 qT6 qT7 adF0 qF00 qF01 qF02 qF03 adF1 qF10 qF11 qF12 qF13 adF2 qF20 qF21 qF22 qF23 adM qM1 qM2 qM3 qM4 qM5 qM6 qM7 qM8 qM12 qM13 qM15 qM16 qM17 qM18 qM19 qM20 qM21 qout O P0 P1 P2 N T F0 F1 F2 uz r_4))) C (zv_runV (As := [.int (xs (Int32.toNatClampNeg (i + (1 : Int32)))), .int (xs (Int32.toNatClampNeg (i + (2 : Int32)))), .int (xs (Int32.toNatClampNeg (i + (3 : Int32))))]) (b := adM) (rest := []) (ci := 5) (q0 := 54) C (zc_X6_about l G cI adM qM1 qM2 qM3 qM4 qM5 qM6 qM7 qM8 qM12 qM13 qM15 qM16 qM17 qM18 qM19 qM20 qM21 M (xs (Int32.toNatClampNeg (i + (1 : Int32)))) (xs (Int32.toNatClampNeg (i + (2 : Int32)))) (xs (Int32.toNatClampNeg (i + (3 : Int32)))) _ hF) (cwV 3 C.2.2.2.2.1 lwc_X6_about rfl rfl rfl zy_X6_about ⟨(Nat.le_of_ble_eq_true rfl), (Nat.le_of_ble_eq_true rfl)⟩) rfl rfl rfl rfl rfl (Nat.le_of_ble_eq_true rfl) ⟨hc, hs⟩ dL_law_428) [54, 55, 56, 57, 58, 59, 60, 61, 62, 63, 64, 65, 66, 67, 68, 69, 70, 71] [0, 1, 2, 3, 4, 5, 6, 7, 8, 9, 10, 11, 12, 13, 14, 15, 16, 17, 18, 19, 20, 21, 22, 23, 24, 25, 26, 27, 28, 29, 30, 31, 32, 33, 34, 35, 36, 37, 38, 39, 40, 41, 42, 43, 44, 45, 46, 47, 48, 49, 50, 51, 52, 53, 72] rfl rfl rfl rfl rfl (fun _ => rfl) (fun _ => rfl) (fun _ => rfl) (fun v_10 uz hF => ?_)
  obtain ⟨T_9, hE⟩ : ∃ z, z = uz := ⟨_, rfl⟩; subst hE
  refine zv_istore (pc := 431) (lv' := [(6, .int v_10), (5, .int v_5), (4, .int i), (0, .ref b), (1, .ref adO), (2, .ref adM), (3, .ref qout)]) C (by decide) rfl dL_law_431 ?_
  refine zv_aload_n (pc := 433) C rfl 5 rfl dL_law_433 ?_
  refine zv_ci0 (pc := 434) (ws' := (fun uz : Unit => (zd_L_law cI cL adO qO3 qO4 qO5 qO6 adP0 qP00 qP01 qP02 qP03 qP04 adP1 qP10 qP11 qP12 qP13 qP14 adP2 qP20 qP21 qP22 qP23 qP24 adN qN0 qN1 qN2 qN3 qN4 qN5 adT qT0 qT1 qT2 qT3 qT4 qT5 qT6 qT7 adF0 qF00 qF01 qF02 qF03 adF1 qF10 qF11 qF12 qF13 adF2 qF20 qF21 qF22 qF23 adM qM1 qM2 qM3 qM4 qM5 qM6 qM7 qM8 qM12 qM13 qM15 qM16 qM17 qM18 qM19 qM20 qM21 qout O P0 P1 P2 N T F0 F1 F2 T_9 r_4))) C (zv_runV (As := []) (b := adM) (rest := []) (ci := 5) (q0 := 54) C (zc_X6_thrown l G cI adM qM1 qM2 qM3 qM4 qM5 qM6 qM7 qM8 qM12 qM13 qM15 qM16 qM17 qM18 qM19 qM20 qM21 T_9 _ hF) (cwV 0 C.2.2.2.2.1 lwc_X6_thrown rfl rfl rfl zy_X6_thrown ⟨(Nat.le_of_ble_eq_true rfl), (Nat.le_of_ble_eq_true rfl)⟩) rfl rfl rfl rfl rfl (Nat.le_of_ble_eq_true rfl) ⟨hc, hs⟩ dL_law_434) [54, 55, 56, 57, 58, 59, 60, 61, 62, 63, 64, 65, 66, 67, 68, 69, 70, 71] [0, 1, 2, 3, 4, 5, 6, 7, 8, 9, 10, 11, 12, 13, 14, 15, 16, 17, 18, 19, 20, 21, 22, 23, 24, 25, 26, 27, 28, 29, 30, 31, 32, 33, 34, 35, 36, 37, 38, 39, 40, 41, 42, 43, 44, 45, 46, 47, 48, 49, 50, 51, 52, 53, 72] rfl rfl rfl rfl rfl (fun _ => rfl) (fun _ => rfl) (fun _ => rfl) (fun v_11 uz hF => ?_)
  refine zv_iload (pc := 437) C 1 rfl dL_law_437 ?_
  refine zv_icmp_eq (pc := 439) (tgt := 444) C dL_law_439 (by decide) (fun c_12 => ?_) (fun c_12 => ?_)
  · replace hF := And.left hF c_12
    refine zv_iload (pc := 444) C 1 rfl dL_law_444 ?_
    refine zv_if_ne (pc := 446) (tgt := 461) C dL_law_446 (by decide) (fun c_13 => ?_) (fun c_13 => ?_)
    · replace hF := And.left hF c_13
      refine zv_goto (pc := 461) (tgt := 1485) C dL_law_461 (by decide) ?_
      exact zv_lvs [2, 3, 4, 5, 6] rfl (hK O P0 P1 P2 N T F0 F1 F2 T_9 r_4 hF)
    · replace hF := And.right hF c_13
      refine zv_aload_n (pc := 449) C rfl 6 rfl dL_law_449 ?_
      refine zv_iconst (pc := 450) (v := 0) C (by decide) dL_law_450 ?_
      refine zl_lald (pc := 451) (n := 1) (f := r_4) C hKL 72 (vp_in_iff.mpr (by decide)) rfl dL_law_451 ?_
      refine zv_iload (pc := 452) C 0 rfl dL_law_452 ?_
      refine zv_i2l (pc := 454) C  dL_law_454 ?_
      refine zv_lcmp (pc := 455) C  dL_law_455 ?_
      refine zv_if_eq (pc := 456) (tgt := 461) C dL_law_456 (by decide) (fun c_14 => ?_) (fun c_14 => ?_)
      · replace hF := And.left hF c_14
        refine zv_goto (pc := 461) (tgt := 1485) C dL_law_461 (by decide) ?_
        exact zv_lvs [2, 3, 4, 5, 6] rfl (hK O P0 P1 P2 N T F0 F1 F2 T_9 r_4 hF)
      · replace hF := And.right hF c_14
        refine zv_iconst (pc := 459) (v := 0) C (by decide) dL_law_459 ?_
        exact (show False from hF).elim
  · replace hF := And.right hF c_12
    refine zv_iconst (pc := 442) (v := 0) C (by decide) dL_law_442 ?_
    exact (show False from hF).elim
