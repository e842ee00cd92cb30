set_option maxHeartbeats 4000000 in
set_option maxRecDepth 100000 in
theorem zq_law_316 {p : Program} {l : Launch} {e : Env} {s : State} {m : MethodId} {args : Array Value} {below : List Frame} {meth : Method} {c : Code} {Q : State → Prop} {G : va_G} {cI cL : ClassId} {A : Nat → Prop} {b L : Nat} {xs : Nat → Int32} {cells slots : Nat} (hlt : l.stackTraces = false) (adO qO3 qO4 qO5 qO6 adP0 qP00 qP01 qP02 qP03 qP04 adP1 qP10 qP11 qP12 qP13 qP14 adP2 qP20 qP21 qP22 qP23 qP24 adN qN0 qN1 qN2 qN3 qN4 qN5 adT qT0 qT1 qT2 qT3 qT4 qT5 qT6 qT7 adF0 qF00 qF01 qF02 qF03 adF1 qF10 qF11 qF12 qF13 adF2 qF20 qF21 qF22 qF23 adM qM1 qM2 qM3 qM4 qM5 qM6 qM7 qM8 qM12 qM13 qM15 qM16 qM17 qM18 qM19 qM20 qM21 qout : Nat) (C : zv_C p s m args c cL_law 7 RL lw_tbl G cI A) (hB : zx_B A s) (hKL : va_K G vwCl [(cL, .long)] s) (hN : zl_B s) (hX : va_X b L xs s s.heap) (hbl : b < s.heap.size) (hbA : ¬ A b) (hc : cells + 1 ≤ room_1.cells) (hs : slots + 6 ≤ room_1.slots) (O : zMem) (P0 : zMem) (P1 : zMem) (P2 : zMem) (N : zMem) (T : zMem) (F0 : zMem) (F1 : zMem) (F2 : zMem) (M : zMem) (out : zRowL) (i : Int32) (K : zMem → zMem → zMem → zMem → zMem → zMem → zMem → zMem → zMem → zMem → zRowL → Prop) (hK : ∀ (O : zMem) (P0 : zMem) (P1 : zMem) (P2 : zMem) (N : zMem) (T : zMem) (F0 : zMem) (F1 : zMem) (F2 : zMem) (M : zMem) (out : zRowL), K O P0 P1 P2 N T F0 F1 F2 M out → zv_V p l e room_1 s m args below meth c Q G A 7 (cells + 1) (slots + 6) (zd_L_law cI cL adO qO3 qO4 qO5 qO6 adP0 qP00 qP01 qP02 qP03 qP04 adP1 qP10 qP11 qP12 qP13 qP14 adP2 qP20 qP21 qP22 qP23 qP24 adN qN0 qN1 qN2 qN3 qN4 qN5 adT qT0 qT1 qT2 qT3 qT4 qT5 qT6 qT7 adF0 qF00 qF01 qF02 qF03 adF1 qF10 qF11 qF12 qF13 adF2 qF20 qF21 qF22 qF23 adM qM1 qM2 qM3 qM4 qM5 qM6 qM7 qM8 qM12 qM13 qM15 qM16 qM17 qM18 qM19 qM20 qM21 qout O P0 P1 P2 N T F0 F1 F2 M out) 1485 [(4, .int i), (0, .ref b), (1, .ref adO), (2, .ref adM), (3, .ref qout)] []) (hF : zw_law_316 L xs O P0 P1 P2 N T F0 F1 F2 M out i K) : zv_V p l e room_1 s m args below meth c Q G A 7 cells slots (zd_L_law cI cL adO qO3 qO4 qO5 qO6 adP0 qP00 qP01 qP02 qP03 qP04 adP1 qP10 qP11 qP12 qP13 qP14 adP2 qP20 qP21 qP22 qP23 qP24 adN qN0 qN1 qN2 qN3 qN4 qN5 adT qT0 qT1 qT2 qT3 qT4 qT5 qT6 qT7 adF0 qF00 qF01 qF02 qF03 adF1 qF10 qF11 qF12 qF13 adF2 qF20 qF21 qF22 qF23 adM qM1 qM2 qM3 qM4 qM5 qM6 qM7 qM8 qM12 qM13 qM15 qM16 qM17 qM18 qM19 qM20 qM21 qout O P0 P1 P2 N T F0 F1 F2 M out) 316 [(4, .int i), (0, .ref b), (1, .ref adO), (2, .ref adM), (3, .ref qout)] [] := by
  refine zv_aload_n (pc := 316) C rfl 2 rfl dL_law_316 ?_
  refine zv_aload_n (pc := 317) C rfl 1 rfl dL_law_317 ?_
  refine zv_iload (pc := 318) C 0 rfl dL_law_318 ?_
  refine zv_iconst (pc := 320) (v := 1) C (by decide) dL_law_320 ?_
  refine zv_iadd (pc := 321) C  dL_law_321 ?_
  obtain ⟨h_1, hF⟩ := hF
  refine zl_sld (pc := 322) C hX hbl hbA h_1 dL_law_322 ?_
  refine zv_aload_n (pc := 323) C rfl 1 rfl dL_law_323 ?_
  refine zv_iload (pc := 324) C 0 rfl dL_law_324 ?_
  refine zv_iconst (pc := 326) (v := 2) C (by decide) dL_law_326 ?_
  refine zv_iadd (pc := 327) C  dL_law_327 ?_
  obtain ⟨h_2, hF⟩ := hF
  refine zl_sld (pc := 328) C hX hbl hbA h_2 dL_law_328 ?_
  refine zv_aload_n (pc := 329) C rfl 4 rfl dL_law_329 ?_
  refine zm_ci (pc := 330) (ws' := (fun uz : zMem × zMem × zRowL => (zd_L_law cI cL adO qO3 qO4 qO5 qO6 adP0 qP00 qP01 qP02 qP03 qP04 adP1 qP10 qP11 qP12 qP13 qP14 adP2 qP20 qP21 qP22 qP23 qP24 adN qN0 qN1 qN2 qN3 qN4 qN5 adT qT0 qT1 qT2 qT3 qT4 qT5 qT6 qT7 adF0 qF00 qF01 qF02 qF03 adF1 qF10 qF11 qF12 qF13 adF2 qF20 qF21 qF22 qF23 adM qM1 qM2 qM3 qM4 qM5 qM6 qM7 qM8 qM12 qM13 qM15 qM16 qM17 qM18 qM19 qM20 qM21 qout O uz.1 uz.2.1 P2 N T F0 F1 F2 M uz.2.2))) C (zm_runW (As := [.ref adO, .int (xs (Int32.toNatClampNeg (i + (1 : Int32)))), .int (xs (Int32.toNatClampNeg (i + (2 : Int32)))), .ref qout]) (rest := []) C hB hKL hN (zc_L_drop l hlt G cI cL adO qO3 qO4 qO5 qO6 adP0 qP00 qP01 qP02 qP03 qP04 adP1 qP10 qP11 qP12 qP13 qP14 qout adP2 adN adT adF0 adF1 adF2 O P0 P1 out (xs (Int32.toNatClampNeg (i + (1 : Int32)))) (xs (Int32.toNatClampNeg (i + (2 : Int32)))) _ hF) (vx_cwSW 4 C.2.2.2.2.1 lwc_L_drop rfl rfl rfl zy_L_drop ⟨(Nat.le_of_ble_eq_true rfl), (Nat.le_of_ble_eq_true rfl)⟩) rfl rfl (Nat.le_of_ble_eq_true rfl) ⟨hc, hs⟩ dL_law_330) [0, 1, 2, 3, 4, 5, 6, 7, 8, 9, 10, 11, 12, 13, 14, 15, 16, 72] [17, 18, 19, 20, 21, 22, 23, 24, 25, 26, 27, 28, 29, 30, 31, 32, 33, 34, 35, 36, 37, 38, 39, 40, 41, 42, 43, 44, 45, 46, 47, 48, 49, 50, 51, 52, 53, 54, 55, 56, 57, 58, 59, 60, 61, 62, 63, 64, 65, 66, 67, 68, 69, 70, 71] rfl rfl rfl rfl rfl (fun _ => rfl) (fun _ => rfl) (fun _ => rfl) (fun v_6 uz hF => ?_)
  obtain ⟨T_3, T_4, r_5⟩ := uz
  refine zv_istore (pc := 333) (lv' := [(5, .int v_6), (4, .int i), (0, .ref b), (1, .ref adO), (2, .ref adM), (3, .ref qout)]) C (by decide) rfl dL_law_333 ?_
  refine zv_aload_n (pc := 335) C rfl 4 rfl dL_law_335 ?_
  refine zv_aload_n (pc := 336) C rfl 2 rfl dL_law_336 ?_
  refine zv_iload (pc := 337) C 1 rfl dL_law_337 ?_
  refine zv_iconst (pc := 339) (v := 1) C (by decide) dL_law_339 ?_
  refine zv_iadd (pc := 340) C  dL_law_340 ?_
  obtain ⟨h_7, hF⟩ := hF
  refine zl_sld (pc := 341) C hX hbl hbA h_7 dL_law_341 ?_
  refine zv_aload_n (pc := 342) C rfl 2 rfl dL_law_342 ?_
  refine zv_iload (pc := 343) C 1 rfl dL_law_343 ?_
  refine zv_iconst (pc := 345) (v := 2) C (by decide) dL_law_345 ?_
  refine zv_iadd (pc := 346) C  dL_law_346 ?_
  obtain ⟨h_8, hF⟩ := hF
  refine zl_sld (pc := 347) C hX hbl hbA h_8 dL_law_347 ?_
  refine zv_ci0 (pc := 348) (ws' := (fun uz : zMem => (zd_L_law cI cL adO qO3 qO4 qO5 qO6 adP0 qP00 qP01 qP02 qP03 qP04 adP1 qP10 qP11 qP12 qP13 qP14 adP2 qP20 qP21 qP22 qP23 qP24 adN qN0 qN1 qN2 qN3 qN4 qN5 adT qT0 qT1 qT2 qT3 qT4 qT5 qT6 qT7 adF0 qF00 qF01 qF02 qF03 adF1 qF10 qF11 qF12 qF13 adF2 qF20 qF21 qF22 qF23 adM qM1 qM2 qM3 qM4 qM5 qM6 qM7 qM8 qM12 qM13 qM15 qM16 qM17 qM18 qM19 qM20 qM21 qout O T_3 T_4 P2 N T F0 F1 F2 uz r_5))) C (zv_runV (As := [.int (xs (Int32.toNatClampNeg (i + (1 : Int32)))), .int (xs (Int32.toNatClampNeg (i + (2 : Int32))))]) (b := adM) (rest := []) (ci := 5) (q0 := 54) C (zc_X6_drop l G cI adM qM1 qM2 qM3 qM4 qM5 qM6 qM7 qM8 qM12 qM13 qM15 qM16 qM17 qM18 qM19 qM20 qM21 M (xs (Int32.toNatClampNeg (i + (1 : Int32)))) (xs (Int32.toNatClampNeg (i + (2 : Int32)))) _ hF) (cwV 2 C.2.2.2.2.1 lwc_X6_drop rfl rfl rfl zy_X6_drop ⟨(Nat.le_of_ble_eq_true rfl), (Nat.le_of_ble_eq_true rfl)⟩) rfl rfl rfl rfl rfl (Nat.le_of_ble_eq_true rfl) ⟨hc, hs⟩ dL_law_348) [54, 55, 56, 57, 58, 59, 60, 61, 62, 63, 64, 65, 66, 67, 68, 69, 70, 71] [0, 1, 2, 3, 4, 5, 6, 7, 8, 9, 10, 11, 12, 13, 14, 15, 16, 17, 18, 19, 20, 21, 22, 23, 24, 25, 26, 27, 28, 29, 30, 31, 32, 33, 34, 35, 36, 37, 38, 39, 40, 41, 42, 43, 44, 45, 46, 47, 48, 49, 50, 51, 52, 53, 72] rfl rfl rfl rfl rfl (fun _ => rfl) (fun _ => rfl) (fun _ => rfl) (fun v_10 uz hF => ?_)
  obtain ⟨T_9, hE⟩ : ∃ z, z = uz := ⟨_, rfl⟩; subst hE
  refine zv_istore (pc := 351) (lv' := [(6, .int v_10), (5, .int v_6), (4, .int i), (0, .ref b), (1, .ref adO), (2, .ref adM), (3, .ref qout)]) C (by decide) rfl dL_law_351 ?_
  refine zv_aload_n (pc := 353) C rfl 5 rfl dL_law_353 ?_
  refine zv_ci0 (pc := 354) (ws' := (fun uz : Unit => (zd_L_law cI cL adO qO3 qO4 qO5 qO6 adP0 qP00 qP01 qP02 qP03 qP04 adP1 qP10 qP11 qP12 qP13 qP14 adP2 qP20 qP21 qP22 qP23 qP24 adN qN0 qN1 qN2 qN3 qN4 qN5 adT qT0 qT1 qT2 qT3 qT4 qT5 qT6 qT7 adF0 qF00 qF01 qF02 qF03 adF1 qF10 qF11 qF12 qF13 adF2 qF20 qF21 qF22 qF23 adM qM1 qM2 qM3 qM4 qM5 qM6 qM7 qM8 qM12 qM13 qM15 qM16 qM17 qM18 qM19 qM20 qM21 qout O T_3 T_4 P2 N T F0 F1 F2 T_9 r_5))) C (zv_runV (As := []) (b := adM) (rest := []) (ci := 5) (q0 := 54) C (zc_X6_thrown l G cI adM qM1 qM2 qM3 qM4 qM5 qM6 qM7 qM8 qM12 qM13 qM15 qM16 qM17 qM18 qM19 qM20 qM21 T_9 _ hF) (cwV 0 C.2.2.2.2.1 lwc_X6_thrown rfl rfl rfl zy_X6_thrown ⟨(Nat.le_of_ble_eq_true rfl), (Nat.le_of_ble_eq_true rfl)⟩) rfl rfl rfl rfl rfl (Nat.le_of_ble_eq_true rfl) ⟨hc, hs⟩ dL_law_354) [54, 55, 56, 57, 58, 59, 60, 61, 62, 63, 64, 65, 66, 67, 68, 69, 70, 71] [0, 1, 2, 3, 4, 5, 6, 7, 8, 9, 10, 11, 12, 13, 14, 15, 16, 17, 18, 19, 20, 21, 22, 23, 24, 25, 26, 27, 28, 29, 30, 31, 32, 33, 34, 35, 36, 37, 38, 39, 40, 41, 42, 43, 44, 45, 46, 47, 48, 49, 50, 51, 52, 53, 72] rfl rfl rfl rfl rfl (fun _ => rfl) (fun _ => rfl) (fun _ => rfl) (fun v_11 uz hF => ?_)
  refine zv_iload (pc := 357) C 1 rfl dL_law_357 ?_
  refine zv_icmp_eq (pc := 359) (tgt := 364) C dL_law_359 (by decide) (fun c_12 => ?_) (fun c_12 => ?_)
  · replace hF := And.left hF c_12
    refine zv_iload (pc := 364) C 1 rfl dL_law_364 ?_
    refine zv_if_ne (pc := 366) (tgt := 381) C dL_law_366 (by decide) (fun c_13 => ?_) (fun c_13 => ?_)
    · replace hF := And.left hF c_13
      refine zv_goto (pc := 381) (tgt := 1485) C dL_law_381 (by decide) ?_
      exact zv_lvs [2, 3, 4, 5, 6] rfl (hK O T_3 T_4 P2 N T F0 F1 F2 T_9 r_5 hF)
    · replace hF := And.right hF c_13
      refine zv_aload_n (pc := 369) C rfl 6 rfl dL_law_369 ?_
      refine zv_iconst (pc := 370) (v := 0) C (by decide) dL_law_370 ?_
      refine zl_lald (pc := 371) (n := 1) (f := r_5) C hKL 72 (vp_in_iff.mpr (by decide)) rfl dL_law_371 ?_
      refine zv_iload (pc := 372) C 0 rfl dL_law_372 ?_
      refine zv_i2l (pc := 374) C  dL_law_374 ?_
      refine zv_lcmp (pc := 375) C  dL_law_375 ?_
      refine zv_if_eq (pc := 376) (tgt := 381) C dL_law_376 (by decide) (fun c_14 => ?_) (fun c_14 => ?_)
      · replace hF := And.left hF c_14
        refine zv_goto (pc := 381) (tgt := 1485) C dL_law_381 (by decide) ?_
        exact zv_lvs [2, 3, 4, 5, 6] rfl (hK O T_3 T_4 P2 N T F0 F1 F2 T_9 r_5 hF)
      · replace hF := And.right hF c_14
        refine zv_iconst (pc := 379) (v := 0) C (by decide) dL_law_379 ?_
        exact (show False from hF).elim
  · replace hF := And.right hF c_12
    refine zv_iconst (pc := 362) (v := 0) C (by decide) dL_law_362 ?_
    exact (show False from hF).elim
