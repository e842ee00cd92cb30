set_option maxHeartbeats 40000000 in
set_option maxRecDepth 100000 in
theorem zq_law_584 {p : Program} {l : Launch} {e : Env} {s : State} {m : MethodId} {args : Array Value} {below : List Frame} {meth : Method} {c : Code} {Q : State → Prop} {G : va_G} {cI cL : ClassId} {A : Nat → Prop} {b L : Nat} {xs : Nat → Int32} {cells slots : Nat} (hlt : l.stackTraces = false) (adO qO3 qO4 qO5 qO6 adP0 qP00 qP01 qP02 qP03 qP04 adP1 qP10 qP11 qP12 qP13 qP14 adP2 qP20 qP21 qP22 qP23 qP24 adN qN0 qN1 qN2 qN3 qN4 qN5 adT qT0 qT1 qT2 qT3 qT4 qT5 qT6 qT7 adF0 qF00 qF01 qF02 qF03 adF1 qF10 qF11 qF12 qF13 adF2 qF20 qF21 qF22 qF23 adM qM1 qM2 qM3 qM4 qM5 qM6 qM7 qM8 qM12 qM13 qM15 qM16 qM17 qM18 qM19 qM20 qM21 qout : Nat) (C : zv_C p s m args c cL_law 7 RL lw_tbl G cI A) (hB : zx_B A s) (hKL : va_K G vwCl [(cL, .long)] s) (hN : zl_B s) (hX : va_X b L xs s s.heap) (hbl : b < s.heap.size) (hbA : ¬ A b) (hc : cells + 1 ≤ room_1.cells) (hs : slots + 6 ≤ room_1.slots) (O : zMem) (P0 : zMem) (P1 : zMem) (P2 : zMem) (N : zMem) (T : zMem) (F0 : zMem) (F1 : zMem) (F2 : zMem) (M : zMem) (out : zRowL) (i : Int32) (K : zMem → zMem → zMem → zMem → zMem → zMem → zMem → zMem → zMem → zMem → zRowL → Prop) (hK : ∀ (O : zMem) (P0 : zMem) (P1 : zMem) (P2 : zMem) (N : zMem) (T : zMem) (F0 : zMem) (F1 : zMem) (F2 : zMem) (M : zMem) (out : zRowL), K O P0 P1 P2 N T F0 F1 F2 M out → zv_V p l e room_1 s m args below meth c Q G A 7 (cells + 1) (slots + 6) (zd_L_law cI cL adO qO3 qO4 qO5 qO6 adP0 qP00 qP01 qP02 qP03 qP04 adP1 qP10 qP11 qP12 qP13 qP14 adP2 qP20 qP21 qP22 qP23 qP24 adN qN0 qN1 qN2 qN3 qN4 qN5 adT qT0 qT1 qT2 qT3 qT4 qT5 qT6 qT7 adF0 qF00 qF01 qF02 qF03 adF1 qF10 qF11 qF12 qF13 adF2 qF20 qF21 qF22 qF23 adM qM1 qM2 qM3 qM4 qM5 qM6 qM7 qM8 qM12 qM13 qM15 qM16 qM17 qM18 qM19 qM20 qM21 qout O P0 P1 P2 N T F0 F1 F2 M out) 1485 [(4, .int i), (0, .ref b), (1, .ref adO), (2, .ref adM), (3, .ref qout)] []) (hF : zw_law_584 L xs O P0 P1 P2 N T F0 F1 F2 M out i K) : zv_V p l e room_1 s m args below meth c Q G A 7 cells slots (zd_L_law cI cL adO qO3 qO4 qO5 qO6 adP0 qP00 qP01 qP02 qP03 qP04 adP1 qP10 qP11 qP12 qP13 qP14 adP2 qP20 qP21 qP22 qP23 qP24 adN qN0 qN1 qN2 qN3 qN4 qN5 adT qT0 qT1 qT2 qT3 qT4 qT5 qT6 qT7 adF0 qF00 qF01 qF02 qF03 adF1 qF10 qF11 qF12 qF13 adF2 qF20 qF21 qF22 qF23 adM qM1 qM2 qM3 qM4 qM5 qM6 qM7 qM8 qM12 qM13 qM15 qM16 qM17 qM18 qM19 qM20 qM21 qout O P0 P1 P2 N T F0 F1 F2 M out) 584 [(4, .int i), (0, .ref b), (1, .ref adO), (2, .ref adM), (3, .ref qout)] [] := by
  refine zv_aload_n (pc := 584) C rfl 2 rfl dL_law_584 ?_
  refine zv_aload_n (pc := 585) C rfl 1 rfl dL_law_585 ?_
  refine zv_iload (pc := 586) C 0 rfl dL_law_586 ?_
  refine zv_iconst (pc := 588) (v := 1) C (by decide) dL_law_588 ?_
  refine zv_iadd (pc := 589) C  dL_law_589 ?_
  obtain ⟨h_1, hF⟩ := hF
  refine zl_sld (pc := 590) C hX hbl hbA h_1 dL_law_590 ?_
  refine zv_aload_n (pc := 591) C rfl 1 rfl dL_law_591 ?_
  refine zv_iload (pc := 592) C 0 rfl dL_law_592 ?_
  refine zv_iconst (pc := 594) (v := 2) C (by decide) dL_law_594 ?_
  refine zv_iadd (pc := 595) C  dL_law_595 ?_
  obtain ⟨h_2, hF⟩ := hF
  refine zl_sld (pc := 596) C hX hbl hbA h_2 dL_law_596 ?_
  refine zv_if_eq (pc := 597) (tgt := 604) C dL_law_597 (by decide) (fun c_3 => ?_) (fun c_3 => ?_)
  · replace hF := And.left hF c_3
    refine zv_iconst (pc := 604) (v := 0) C (by decide) dL_law_604 ?_
    refine zv_aload_n (pc := 605) C rfl 1 rfl dL_law_605 ?_
    refine zv_iload (pc := 606) C 0 rfl dL_law_606 ?_
    refine zv_iconst (pc := 608) (v := 3) C (by decide) dL_law_608 ?_
    refine zv_iadd (pc := 609) C  dL_law_609 ?_
    obtain ⟨h_4, hF⟩ := hF
    refine zl_sld (pc := 610) C hX hbl hbA h_4 dL_law_610 ?_
    refine zv_aload_n (pc := 611) C rfl 4 rfl dL_law_611 ?_
    refine zm_ci (pc := 612) (ws' := (fun uz : zMem × zMem × zRowL => (zd_L_law cI cL adO qO3 qO4 qO5 qO6 adP0 qP00 qP01 qP02 qP03 qP04 adP1 qP10 qP11 qP12 qP13 qP14 adP2 qP20 qP21 qP22 qP23 qP24 adN qN0 qN1 qN2 qN3 qN4 qN5 adT qT0 qT1 qT2 qT3 qT4 qT5 qT6 qT7 adF0 qF00 qF01 qF02 qF03 adF1 qF10 qF11 qF12 qF13 adF2 qF20 qF21 qF22 qF23 adM qM1 qM2 qM3 qM4 qM5 qM6 qM7 qM8 qM12 qM13 qM15 qM16 qM17 qM18 qM19 qM20 qM21 qout O P0 P1 P2 N uz.1 uz.2.1 F1 F2 M uz.2.2))) C (zm_runW (As := [.ref adO, .int (xs (Int32.toNatClampNeg (i + (1 : Int32)))), .int (0 : Int32), .int (xs (Int32.toNatClampNeg (i + (3 : Int32)))), .ref qout]) (rest := []) C hB hKL hN (zc_L_back l hlt G cI cL adO qO3 qO4 qO5 qO6 adP0 qP00 qP01 qP02 qP03 qP04 adP1 qP10 qP11 qP12 qP13 qP14 adT qT0 qT1 qT2 qT3 qT4 qT5 qT6 qT7 adF0 qF00 qF01 qF02 qF03 qout adP2 adN adF1 adF2 O P0 P1 T F0 out (xs (Int32.toNatClampNeg (i + (1 : Int32)))) (0 : Int32) (xs (Int32.toNatClampNeg (i + (3 : Int32)))) _ hF) (vx_cwSW 5 C.2.2.2.2.1 lwc_L_back rfl rfl rfl zy_L_back ⟨(Nat.le_of_ble_eq_true rfl), (Nat.le_of_ble_eq_true rfl)⟩) rfl rfl (Nat.le_of_ble_eq_true rfl) ⟨hc, hs⟩ dL_law_612) [0, 1, 2, 3, 4, 5, 6, 7, 8, 9, 10, 11, 12, 13, 14, 15, 16, 30, 31, 32, 33, 34, 35, 36, 37, 38, 39, 40, 41, 42, 43, 72] [17, 18, 19, 20, 21, 22, 23, 24, 25, 26, 27, 28, 29, 44, 45, 46, 47, 48, 49, 50, 51, 52, 53, 54, 55, 56, 57, 58, 59, 60, 61, 62, 63, 64, 65, 66, 67, 68, 69, 70, 71] rfl rfl rfl rfl rfl (fun _ => rfl) (fun _ => rfl) (fun _ => rfl) (fun v_8 uz hF => ?_)
    obtain ⟨T_5, T_6, r_7⟩ := uz
    refine zv_istore (pc := 615) (lv' := [(5, .int v_8), (4, .int i), (0, .ref b), (1, .ref adO), (2, .ref adM), (3, .ref qout)]) C (by decide) rfl dL_law_615 ?_
    refine zv_aload_n (pc := 617) C rfl 4 rfl dL_law_617 ?_
    refine zv_aload_n (pc := 618) C rfl 2 rfl dL_law_618 ?_
    refine zv_iload (pc := 619) C 1 rfl dL_law_619 ?_
    refine zv_iconst (pc := 621) (v := 1) C (by decide) dL_law_621 ?_
    refine zv_iadd (pc := 622) C  dL_law_622 ?_
    obtain ⟨h_9, hF⟩ := hF
    refine zl_sld (pc := 623) C hX hbl hbA h_9 dL_law_623 ?_
    refine zv_aload_n (pc := 624) C rfl 2 rfl dL_law_624 ?_
    refine zv_iload (pc := 625) C 1 rfl dL_law_625 ?_
    refine zv_iconst (pc := 627) (v := 2) C (by decide) dL_law_627 ?_
    refine zv_iadd (pc := 628) C  dL_law_628 ?_
    obtain ⟨h_10, hF⟩ := hF
    refine zl_sld (pc := 629) C hX hbl hbA h_10 dL_law_629 ?_
    refine zv_if_eq (pc := 630) (tgt := 637) C dL_law_630 (by decide) (fun c_11 => ?_) (fun c_11 => ?_)
    · replace hF := And.left hF c_11
      refine zv_iconst (pc := 637) (v := 0) C (by decide) dL_law_637 ?_
      refine zv_aload_n (pc := 638) C rfl 2 rfl dL_law_638 ?_
      refine zv_iload (pc := 639) C 1 rfl dL_law_639 ?_
      refine zv_iconst (pc := 641) (v := 3) C (by decide) dL_law_641 ?_
      refine zv_iadd (pc := 642) C  dL_law_642 ?_
      obtain ⟨h_12, hF⟩ := hF
      refine zl_sld (pc := 643) C hX hbl hbA h_12 dL_law_643 ?_
      refine zv_ci0 (pc := 644) (ws' := (fun uz : zMem => (zd_L_law cI cL adO qO3 qO4 qO5 qO6 adP0 qP00 qP01 qP02 qP03 qP04 adP1 qP10 qP11 qP12 qP13 qP14 adP2 qP20 qP21 qP22 qP23 qP24 adN qN0 qN1 qN2 qN3 qN4 qN5 adT qT0 qT1 qT2 qT3 qT4 qT5 qT6 qT7 adF0 qF00 qF01 qF02 qF03 adF1 qF10 qF11 qF12 qF13 adF2 qF20 qF21 qF22 qF23 adM qM1 qM2 qM3 qM4 qM5 qM6 qM7 qM8 qM12 qM13 qM15 qM16 qM17 qM18 qM19 qM20 qM21 qout O P0 P1 P2 N T_5 T_6 F1 F2 uz r_7))) C (zv_runV (As := [.int (xs (Int32.toNatClampNeg (i + (1 : Int32)))), .int (0 : Int32), .int (xs (Int32.toNatClampNeg (i + (3 : Int32))))]) (b := adM) (rest := []) (ci := 5) (q0 := 54) C (zc_X6_back l G cI adM qM1 qM2 qM3 qM4 qM5 qM6 qM7 qM8 qM12 qM13 qM15 qM16 qM17 qM18 qM19 qM20 qM21 M (xs (Int32.toNatClampNeg (i + (1 : Int32)))) (0 : Int32) (xs (Int32.toNatClampNeg (i + (3 : Int32)))) _ hF) (cwV 3 C.2.2.2.2.1 lwc_X6_back rfl rfl rfl zy_X6_back ⟨(Nat.le_of_ble_eq_true rfl), (Nat.le_of_ble_eq_true rfl)⟩) rfl rfl rfl rfl rfl (Nat.le_of_ble_eq_true rfl) ⟨hc, hs⟩ dL_law_644) [54, 55, 56, 57, 58, 59, 60, 61, 62, 63, 64, 65, 66, 67, 68, 69, 70, 71] [0, 1, 2, 3, 4, 5, 6, 7, 8, 9, 10, 11, 12, 13, 14, 15, 16, 17, 18, 19, 20, 21, 22, 23, 24, 25, 26, 27, 28, 29, 30, 31, 32, 33, 34, 35, 36, 37, 38, 39, 40, 41, 42, 43, 44, 45, 46, 47, 48, 49, 50, 51, 52, 53, 72] rfl rfl rfl rfl rfl (fun _ => rfl) (fun _ => rfl) (fun _ => rfl) (fun v_14 uz hF => ?_)
      obtain ⟨T_13, hE⟩ : ∃ z, z = uz := ⟨_, rfl⟩; subst hE
      refine zv_istore (pc := 647) (lv' := [(6, .int v_14), (5, .int v_8), (4, .int i), (0, .ref b), (1, .ref adO), (2, .ref adM), (3, .ref qout)]) C (by decide) rfl dL_law_647 ?_
      refine zv_aload_n (pc := 649) C rfl 5 rfl dL_law_649 ?_
      refine zv_ci0 (pc := 650) (ws' := (fun uz : Unit => (zd_L_law cI cL adO qO3 qO4 qO5 qO6 adP0 qP00 qP01 qP02 qP03 qP04 adP1 qP10 qP11 qP12 qP13 qP14 adP2 qP20 qP21 qP22 qP23 qP24 adN qN0 qN1 qN2 qN3 qN4 qN5 adT qT0 qT1 qT2 qT3 qT4 qT5 qT6 qT7 adF0 qF00 qF01 qF02 qF03 adF1 qF10 qF11 qF12 qF13 adF2 qF20 qF21 qF22 qF23 adM qM1 qM2 qM3 qM4 qM5 qM6 qM7 qM8 qM12 qM13 qM15 qM16 qM17 qM18 qM19 qM20 qM21 qout O P0 P1 P2 N T_5 T_6 F1 F2 T_13 r_7))) C (zv_runV (As := []) (b := adM) (rest := []) (ci := 5) (q0 := 54) C (zc_X6_thrown l G cI adM qM1 qM2 qM3 qM4 qM5 qM6 qM7 qM8 qM12 qM13 qM15 qM16 qM17 qM18 qM19 qM20 qM21 T_13 _ hF) (cwV 0 C.2.2.2.2.1 lwc_X6_thrown rfl rfl rfl zy_X6_thrown ⟨(Nat.le_of_ble_eq_true rfl), (Nat.le_of_ble_eq_true rfl)⟩) rfl rfl rfl rfl rfl (Nat.le_of_ble_eq_true rfl) ⟨hc, hs⟩ dL_law_650) [54, 55, 56, 57, 58, 59, 60, 61, 62, 63, 64, 65, 66, 67, 68, 69, 70, 71] [0, 1, 2, 3, 4, 5, 6, 7, 8, 9, 10, 11, 12, 13, 14, 15, 16, 17, 18, 19, 20, 21, 22, 23, 24, 25, 26, 27, 28, 29, 30, 31, 32, 33, 34, 35, 36, 37, 38, 39, 40, 41, 42, 43, 44, 45, 46, 47, 48, 49, 50, 51, 52, 53, 72] rfl rfl rfl rfl rfl (fun _ => rfl) (fun _ => rfl) (fun _ => rfl) (fun v_15 uz hF => ?_)
      refine zv_iload (pc := 653) C 1 rfl dL_law_653 ?_
      refine zv_icmp_eq (pc := 655) (tgt := 660) C dL_law_655 (by decide) (fun c_16 => ?_) (fun c_16 => ?_)
      · replace hF := And.left hF c_16
        refine zv_iload (pc := 660) C 1 rfl dL_law_660 ?_
        refine zv_if_ne (pc := 662) (tgt := 677) C dL_law_662 (by decide) (fun c_17 => ?_) (fun c_17 => ?_)
        · replace hF := And.left hF c_17
          refine zv_goto (pc := 677) (tgt := 1485) C dL_law_677 (by decide) ?_
          exact zv_lvs [2, 3, 4, 5, 6] rfl (hK O P0 P1 P2 N T_5 T_6 F1 F2 T_13 r_7 hF)
        · replace hF := And.right hF c_17
          refine zv_aload_n (pc := 665) C rfl 6 rfl dL_law_665 ?_
          refine zv_iconst (pc := 666) (v := 0) C (by decide) dL_law_666 ?_
          refine zl_lald (pc := 667) (n := 1) (f := r_7) C hKL 72 (vp_in_iff.mpr (by decide)) rfl dL_law_667 ?_
          refine zv_iload (pc := 668) C 0 rfl dL_law_668 ?_
          refine zv_i2l (pc := 670) C  dL_law_670 ?_
          refine zv_lcmp (pc := 671) C  dL_law_671 ?_
          refine zv_if_eq (pc := 672) (tgt := 677) C dL_law_672 (by decide) (fun c_18 => ?_) (fun c_18 => ?_)
          · replace hF := And.left hF c_18
            refine zv_goto (pc := 677) (tgt := 1485) C dL_law_677 (by decide) ?_
            exact zv_lvs [2, 3, 4, 5, 6] rfl (hK O P0 P1 P2 N T_5 T_6 F1 F2 T_13 r_7 hF)
          · replace hF := And.right hF c_18
            refine zv_iconst (pc := 675) (v := 0) C (by decide) dL_law_675 ?_
            exact (show False from hF).elim
      · replace hF := And.right hF c_16
        refine zv_iconst (pc := 658) (v := 0) C (by decide) dL_law_658 ?_
        exact (show False from hF).elim
    · replace hF := And.right hF c_11
      refine zv_iconst (pc := 633) (v := 1) C (by decide) dL_law_633 ?_
      refine zv_goto (pc := 634) (tgt := 638) C dL_law_634 (by decide) ?_
      refine zv_aload_n (pc := 638) C rfl 2 rfl dL_law_638 ?_
      refine zv_iload (pc := 639) C 1 rfl dL_law_639 ?_
      refine zv_iconst (pc := 641) (v := 3) C (by decide) dL_law_641 ?_
      refine zv_iadd (pc := 642) C  dL_law_642 ?_
      obtain ⟨h_19, hF⟩ := hF
      refine zl_sld (pc := 643) C hX hbl hbA h_19 dL_law_643 ?_
      refine zv_ci0 (pc := 644) (ws' := (fun uz : zMem => (zd_L_law cI cL adO qO3 qO4 qO5 qO6 adP0 qP00 qP01 qP02 qP03 qP04 adP1 qP10 qP11 qP12 qP13 qP14 adP2 qP20 qP21 qP22 qP23 qP24 adN qN0 qN1 qN2 qN3 qN4 qN5 adT qT0 qT1 qT2 qT3 qT4 qT5 qT6 qT7 adF0 qF00 qF01 qF02 qF03 adF1 qF10 qF11 qF12 qF13 adF2 qF20 qF21 qF22 qF23 adM qM1 qM2 qM3 qM4 qM5 qM6 qM7 qM8 qM12 qM13 qM15 qM16 qM17 qM18 qM19 qM20 qM21 qout O P0 P1 P2 N T_5 T_6 F1 F2 uz r_7))) C (zv_runV (As := [.int (xs (Int32.toNatClampNeg (i + (1 : Int32)))), .int (1 : Int32), .int (xs (Int32.toNatClampNeg (i + (3 : Int32))))]) (b := adM) (rest := []) (ci := 5) (q0 := 54) C (zc_X6_back l G cI adM qM1 qM2 qM3 qM4 qM5 qM6 qM7 qM8 qM12 qM13 qM15 qM16 qM17 qM18 qM19 qM20 qM21 M (xs (Int32.toNatClampNeg (i + (1 : Int32)))) (1 : Int32) (xs (Int32.toNatClampNeg (i + (3 : Int32)))) _ hF) (cwV 3 C.2.2.2.2.1 lwc_X6_back rfl rfl rfl zy_X6_back ⟨(Nat.le_of_ble_eq_true rfl), (Nat.le_of_ble_eq_true rfl)⟩) rfl rfl rfl rfl rfl (Nat.le_of_ble_eq_true rfl) ⟨hc, hs⟩ dL_law_644) [54, 55, 56, 57, 58, 59, 60, 61, 62, 63, 64, 65, 66, 67, 68, 69, 70, 71] [0, 1, 2, 3, 4, 5, 6, 7, 8, 9, 10, 11, 12, 13, 14, 15, 16, 17, 18, 19, 20, 21, 22, 23, 24, 25, 26, 27, 28, 29, 30, 31, 32, 33, 34, 35, 36, 37, 38, 39, 40, 41, 42, 43, 44, 45, 46, 47, 48, 49, 50, 51, 52, 53, 72] rfl rfl rfl rfl rfl (fun _ => rfl) (fun _ => rfl) (fun _ => rfl) (fun v_21 uz hF => ?_)
      obtain ⟨T_20, hE⟩ : ∃ z, z = uz := ⟨_, rfl⟩; subst hE
      refine zv_istore (pc := 647) (lv' := [(6, .int v_21), (5, .int v_8), (4, .int i), (0, .ref b), (1, .ref adO), (2, .ref adM), (3, .ref qout)]) C (by decide) rfl dL_law_647 ?_
      refine zv_aload_n (pc := 649) C rfl 5 rfl dL_law_649 ?_
      refine zv_ci0 (pc := 650) (ws' := (fun uz : Unit => (zd_L_law cI cL adO qO3 qO4 qO5 qO6 adP0 qP00 qP01 qP02 qP03 qP04 adP1 qP10 qP11 qP12 qP13 qP14 adP2 qP20 qP21 qP22 qP23 qP24 adN qN0 qN1 qN2 qN3 qN4 qN5 adT qT0 qT1 qT2 qT3 qT4 qT5 qT6 qT7 adF0 qF00 qF01 qF02 qF03 adF1 qF10 qF11 qF12 qF13 adF2 qF20 qF21 qF22 qF23 adM qM1 qM2 qM3 qM4 qM5 qM6 qM7 qM8 qM12 qM13 qM15 qM16 qM17 qM18 qM19 qM20 qM21 qout O P0 P1 P2 N T_5 T_6 F1 F2 T_20 r_7))) C (zv_runV (As := []) (b := adM) (rest := []) (ci := 5) (q0 := 54) C (zc_X6_thrown l G cI adM qM1 qM2 qM3 qM4 qM5 qM6 qM7 qM8 qM12 qM13 qM15 qM16 qM17 qM18 qM19 qM20 qM21 T_20 _ hF) (cwV 0 C.2.2.2.2.1 lwc_X6_thrown rfl rfl rfl zy_X6_thrown ⟨(Nat.le_of_ble_eq_true rfl), (Nat.le_of_ble_eq_true rfl)⟩) rfl rfl rfl rfl rfl (Nat.le_of_ble_eq_true rfl) ⟨hc, hs⟩ dL_law_650) [54, 55, 56, 57, 58, 59, 60, 61, 62, 63, 64, 65, 66, 67, 68, 69, 70, 71] [0, 1, 2, 3, 4, 5, 6, 7, 8, 9, 10, 11, 12, 13, 14, 15, 16, 17, 18, 19, 20, 21, 22, 23, 24, 25, 26, 27, 28, 29, 30, 31, 32, 33, 34, 35, 36, 37, 38, 39, 40, 41, 42, 43, 44, 45, 46, 47, 48, 49, 50, 51, 52, 53, 72] rfl rfl rfl rfl rfl (fun _ => rfl) (fun _ => rfl) (fun _ => rfl) (fun v_22 uz hF => ?_)
      refine zv_iload (pc := 653) C 1 rfl dL_law_653 ?_
      refine zv_icmp_eq (pc := 655) (tgt := 660) C dL_law_655 (by decide) (fun c_23 => ?_) (fun c_23 => ?_)
      · replace hF := And.left hF c_23
        refine zv_iload (pc := 660) C 1 rfl dL_law_660 ?_
        refine zv_if_ne (pc := 662) (tgt := 677) C dL_law_662 (by decide) (fun c_24 => ?_) (fun c_24 => ?_)
        · replace hF := And.left hF c_24
          refine zv_goto (pc := 677) (tgt := 1485) C dL_law_677 (by decide) ?_
          exact zv_lvs [2, 3, 4, 5, 6] rfl (hK O P0 P1 P2 N T_5 T_6 F1 F2 T_20 r_7 hF)
        · replace hF := And.right hF c_24
          refine zv_aload_n (pc := 665) C rfl 6 rfl dL_law_665 ?_
          refine zv_iconst (pc := 666) (v := 0) C (by decide) dL_law_666 ?_
          refine zl_lald (pc := 667) (n := 1) (f := r_7) C hKL 72 (vp_in_iff.mpr (by decide)) rfl dL_law_667 ?_
          refine zv_iload (pc := 668) C 0 rfl dL_law_668 ?_
          refine zv_i2l (pc := 670) C  dL_law_670 ?_
          refine zv_lcmp (pc := 671) C  dL_law_671 ?_
          refine zv_if_eq (pc := 672) (tgt := 677) C dL_law_672 (by decide) (fun c_25 => ?_) (fun c_25 => ?_)
          · replace hF := And.left hF c_25
            refine zv_goto (pc := 677) (tgt := 1485) C dL_law_677 (by decide) ?_
            exact zv_lvs [2, 3, 4, 5, 6] rfl (hK O P0 P1 P2 N T_5 T_6 F1 F2 T_20 r_7 hF)
          · replace hF := And.right hF c_25
            refine zv_iconst (pc := 675) (v := 0) C (by decide) dL_law_675 ?_
            exact (show False from hF).elim
      · replace hF := And.right hF c_23
        refine zv_iconst (pc := 658) (v := 0) C (by decide) dL_law_658 ?_
        exact (show False from hF).elim
  · replace hF := And.right hF c_3
    refine zv_iconst (pc := 600) (v := 1) C (by decide) dL_law_600 ?_
    refine zv_goto (pc := 601) (tgt := 605) C dL_law_601 (by decide) ?_
    refine zv_aload_n (pc := 605) C rfl 1 rfl dL_law_605 ?_
    refine zv_iload (pc := 606) C 0 rfl dL_law_606 ?_
    refine zv_iconst (pc := 608) (v := 3) C (by decide) dL_law_608 ?_
    refine zv_iadd (pc := 609) C  dL_law_609 ?_
    obtain ⟨h_26, hF⟩ := hF
    refine zl_sld (pc := 610) C hX hbl hbA h_26 dL_law_610 ?_
    refine zv_aload_n (pc := 611) C rfl 4 rfl dL_law_611 ?_
    refine zm_ci (pc := 612) (ws' := (fun uz : zMem × zMem × zRowL => (zd_L_law cI cL adO qO3 qO4 qO5 qO6 adP0 qP00 qP01 qP02 qP03 qP04 adP1 qP10 qP11 qP12 qP13 qP14 adP2 qP20 qP21 qP22 qP23 qP24 adN qN0 qN1 qN2 qN3 qN4 qN5 adT qT0 qT1 qT2 qT3 qT4 qT5 qT6 qT7 adF0 qF00 qF01 qF02 qF03 adF1 qF10 qF11 qF12 qF13 adF2 qF20 qF21 qF22 qF23 adM qM1 qM2 qM3 qM4 qM5 qM6 qM7 qM8 qM12 qM13 qM15 qM16 qM17 qM18 qM19 qM20 qM21 qout O P0 P1 P2 N uz.1 uz.2.1 F1 F2 M uz.2.2))) C (zm_runW (As := [.ref adO, .int (xs (Int32.toNatClampNeg (i + (1 : Int32)))), .int (1 : Int32), .int (xs (Int32.toNatClampNeg (i + (3 : Int32)))), .ref qout]) (rest := []) C hB hKL hN (zc_L_back l hlt G cI cL adO qO3 qO4 qO5 qO6 adP0 qP00 qP01 qP02 qP03 qP04 adP1 qP10 qP11 qP12 qP13 qP14 adT qT0 qT1 qT2 qT3 qT4 qT5 qT6 qT7 adF0 qF00 qF01 qF02 qF03 qout adP2 adN adF1 adF2 O P0 P1 T F0 out (xs (Int32.toNatClampNeg (i + (1 : Int32)))) (1 : Int32) (xs (Int32.toNatClampNeg (i + (3 : Int32)))) _ hF) (vx_cwSW 5 C.2.2.2.2.1 lwc_L_back rfl rfl rfl zy_L_back ⟨(Nat.le_of_ble_eq_true rfl), (Nat.le_of_ble_eq_true rfl)⟩) rfl rfl (Nat.le_of_ble_eq_true rfl) ⟨hc, hs⟩ dL_law_612) [0, 1, 2, 3, 4, 5, 6, 7, 8, 9, 10, 11, 12, 13, 14, 15, 16, 30, 31, 32, 33, 34, 35, 36, 37, 38, 39, 40, 41, 42, 43, 72] [17, 18, 19, 20, 21, 22, 23, 24, 25, 26, 27, 28, 29, 44, 45, 46, 47, 48, 49, 50, 51, 52, 53, 54, 55, 56, 57, 58, 59, 60, 61, 62, 63, 64, 65, 66, 67, 68, 69, 70, 71] rfl rfl rfl rfl rfl (fun _ => rfl) (fun _ => rfl) (fun _ => rfl) (fun v_30 uz hF => ?_)
    obtain ⟨T_27, T_28, r_29⟩ := uz
    refine zv_istore (pc := 615) (lv' := [(5, .int v_30), (4, .int i), (0, .ref b), (1, .ref adO), (2, .ref adM), (3, .ref qout)]) C (by decide) rfl dL_law_615 ?_
    refine zv_aload_n (pc := 617) C rfl 4 rfl dL_law_617 ?_
    refine zv_aload_n (pc := 618) C rfl 2 rfl dL_law_618 ?_
    refine zv_iload (pc := 619) C 1 rfl dL_law_619 ?_
    refine zv_iconst (pc := 621) (v := 1) C (by decide) dL_law_621 ?_
    refine zv_iadd (pc := 622) C  dL_law_622 ?_
    obtain ⟨h_31, hF⟩ := hF
    refine zl_sld (pc := 623) C hX hbl hbA h_31 dL_law_623 ?_
    refine zv_aload_n (pc := 624) C rfl 2 rfl dL_law_624 ?_
    refine zv_iload (pc := 625) C 1 rfl dL_law_625 ?_
    refine zv_iconst (pc := 627) (v := 2) C (by decide) dL_law_627 ?_
    refine zv_iadd (pc := 628) C  dL_law_628 ?_
    obtain ⟨h_32, hF⟩ := hF
    refine zl_sld (pc := 629) C hX hbl hbA h_32 dL_law_629 ?_
    refine zv_if_eq (pc := 630) (tgt := 637) C dL_law_630 (by decide) (fun c_33 => ?_) (fun c_33 => ?_)
    · replace hF := And.left hF c_33
      refine zv_iconst (pc := 637) (v := 0) C (by decide) dL_law_637 ?_
      refine zv_aload_n (pc := 638) C rfl 2 rfl dL_law_638 ?_
      refine zv_iload (pc := 639) C 1 rfl dL_law_639 ?_
      refine zv_iconst (pc := 641) (v := 3) C (by decide) dL_law_641 ?_
      refine zv_iadd (pc := 642) C  dL_law_642 ?_
      obtain ⟨h_34, hF⟩ := hF
      refine zl_sld (pc := 643) C hX hbl hbA h_34 dL_law_643 ?_
      refine zv_ci0 (pc := 644) (ws' := (fun uz : zMem => (zd_L_law cI cL adO qO3 qO4 qO5 qO6 adP0 qP00 qP01 qP02 qP03 qP04 adP1 qP10 qP11 qP12 qP13 qP14 adP2 qP20 qP21 qP22 qP23 qP24 adN qN0 qN1 qN2 qN3 qN4 qN5 adT qT0 qT1 qT2 qT3 qT4 qT5 qT6 qT7 adF0 qF00 qF01 qF02 qF03 adF1 qF10 qF11 qF12 qF13 adF2 qF20 qF21 qF22 qF23 adM qM1 qM2 qM3 qM4 qM5 qM6 qM7 qM8 qM12 qM13 qM15 qM16 qM17 qM18 qM19 qM20 qM21 qout O P0 P1 P2 N T_27 T_28 F1 F2 uz r_29))) C (zv_runV (As := [.int (xs (Int32.toNatClampNeg (i + (1 : Int32)))), .int (0 : Int32), .int (xs (Int32.toNatClampNeg (i + (3 : Int32))))]) (b := adM) (rest := []) (ci := 5) (q0 := 54) C (zc_X6_back l G cI adM qM1 qM2 qM3 qM4 qM5 qM6 qM7 qM8 qM12 qM13 qM15 qM16 qM17 qM18 qM19 qM20 qM21 M (xs (Int32.toNatClampNeg (i + (1 : Int32)))) (0 : Int32) (xs (Int32.toNatClampNeg (i + (3 : Int32)))) _ hF) (cwV 3 C.2.2.2.2.1 lwc_X6_back rfl rfl rfl zy_X6_back ⟨(Nat.le_of_ble_eq_true rfl), (Nat.le_of_ble_eq_true rfl)⟩) rfl rfl rfl rfl rfl (Nat.le_of_ble_eq_true rfl) ⟨hc, hs⟩ dL_law_644) [54, 55, 56, 57, 58, 59, 60, 61, 62, 63, 64, 65, 66, 67, 68, 69, 70, 71] [0, 1, 2, 3, 4, 5, 6, 7, 8, 9, 10, 11, 12, 13, 14, 15, 16, 17, 18, 19, 20, 21, 22, 23, 24, 25, 26, 27, 28, 29, 30, 31, 32, 33, 34, 35, 36, 37, 38, 39, 40, 41, 42, 43, 44, 45, 46, 47, 48, 49, 50, 51, 52, 53, 72] rfl rfl rfl rfl rfl (fun _ => rfl) (fun _ => rfl) (fun _ => rfl) (fun v_36 uz hF => ?_)
      obtain ⟨T_35, hE⟩ : ∃ z, z = uz := ⟨_, rfl⟩; subst hE
      refine zv_istore (pc := 647) (lv' := [(6, .int v_36), (5, .int v_30), (4, .int i), (0, .ref b), (1, .ref adO), (2, .ref adM), (3, .ref qout)]) C (by decide) rfl dL_law_647 ?_
      refine zv_aload_n (pc := 649) C rfl 5 rfl dL_law_649 ?_
      refine zv_ci0 (pc := 650) (ws' := (fun uz : Unit => (zd_L_law cI cL adO qO3 qO4 qO5 qO6 adP0 qP00 qP01 qP02 qP03 qP04 adP1 qP10 qP11 qP12 qP13 qP14 adP2 qP20 qP21 qP22 qP23 qP24 adN qN0 qN1 qN2 qN3 qN4 qN5 adT qT0 qT1 qT2 qT3 qT4 qT5 qT6 qT7 adF0 qF00 qF01 qF02 qF03 adF1 qF10 qF11 qF12 qF13 adF2 qF20 qF21 qF22 qF23 adM qM1 qM2 qM3 qM4 qM5 qM6 qM7 qM8 qM12 qM13 qM15 qM16 qM17 qM18 qM19 qM20 qM21 qout O P0 P1 P2 N T_27 T_28 F1 F2 T_35 r_29))) C (zv_runV (As := []) (b := adM) (rest := []) (ci := 5) (q0 := 54) C (zc_X6_thrown l G cI adM qM1 qM2 qM3 qM4 qM5 qM6 qM7 qM8 qM12 qM13 qM15 qM16 qM17 qM18 qM19 qM20 qM21 T_35 _ hF) (cwV 0 C.2.2.2.2.1 lwc_X6_thrown rfl rfl rfl zy_X6_thrown ⟨(Nat.le_of_ble_eq_true rfl), (Nat.le_of_ble_eq_true rfl)⟩) rfl rfl rfl rfl rfl (Nat.le_of_ble_eq_true rfl) ⟨hc, hs⟩ dL_law_650) [54, 55, 56, 57, 58, 59, 60, 61, 62, 63, 64, 65, 66, 67, 68, 69, 70, 71] [0, 1, 2, 3, 4, 5, 6, 7, 8, 9, 10, 11, 12, 13, 14, 15, 16, 17, 18, 19, 20, 21, 22, 23, 24, 25, 26, 27, 28, 29, 30, 31, 32, 33, 34, 35, 36, 37, 38, 39, 40, 41, 42, 43, 44, 45, 46, 47, 48, 49, 50, 51, 52, 53, 72] rfl rfl rfl rfl rfl (fun _ => rfl) (fun _ => rfl) (fun _ => rfl) (fun v_37 uz hF => ?_)
      refine zv_iload (pc := 653) C 1 rfl dL_law_653 ?_
      refine zv_icmp_eq (pc := 655) (tgt := 660) C dL_law_655 (by decide) (fun c_38 => ?_) (fun c_38 => ?_)
      · replace hF := And.left hF c_38
        refine zv_iload (pc := 660) C 1 rfl dL_law_660 ?_
        refine zv_if_ne (pc := 662) (tgt := 677) C dL_law_662 (by decide) (fun c_39 => ?_) (fun c_39 => ?_)
        · replace hF := And.left hF c_39
          refine zv_goto (pc := 677) (tgt := 1485) C dL_law_677 (by decide) ?_
          exact zv_lvs [2, 3, 4, 5, 6] rfl (hK O P0 P1 P2 N T_27 T_28 F1 F2 T_35 r_29 hF)
        · replace hF := And.right hF c_39
          refine zv_aload_n (pc := 665) C rfl 6 rfl dL_law_665 ?_
          refine zv_iconst (pc := 666) (v := 0) C (by decide) dL_law_666 ?_
          refine zl_lald (pc := 667) (n := 1) (f := r_29) C hKL 72 (vp_in_iff.mpr (by decide)) rfl dL_law_667 ?_
          refine zv_iload (pc := 668) C 0 rfl dL_law_668 ?_
          refine zv_i2l (pc := 670) C  dL_law_670 ?_
          refine zv_lcmp (pc := 671) C  dL_law_671 ?_
          refine zv_if_eq (pc := 672) (tgt := 677) C dL_law_672 (by decide) (fun c_40 => ?_) (fun c_40 => ?_)
          · replace hF := And.left hF c_40
            refine zv_goto (pc := 677) (tgt := 1485) C dL_law_677 (by decide) ?_
            exact zv_lvs [2, 3, 4, 5, 6] rfl (hK O P0 P1 P2 N T_27 T_28 F1 F2 T_35 r_29 hF)
          · replace hF := And.right hF c_40
            refine zv_iconst (pc := 675) (v := 0) C (by decide) dL_law_675 ?_
            exact (show False from hF).elim
      · replace hF := And.right hF c_38
        refine zv_iconst (pc := 658) (v := 0) C (by decide) dL_law_658 ?_
        exact (show False from hF).elim
    · replace hF := And.right hF c_33
      refine zv_iconst (pc := 633) (v := 1) C (by decide) dL_law_633 ?_
      refine zv_goto (pc := 634) (tgt := 638) C dL_law_634 (by decide) ?_
      refine zv_aload_n (pc := 638) C rfl 2 rfl dL_law_638 ?_
      refine zv_iload (pc := 639) C 1 rfl dL_law_639 ?_
      refine zv_iconst (pc := 641) (v := 3) C (by decide) dL_law_641 ?_
      refine zv_iadd (pc := 642) C  dL_law_642 ?_
      obtain ⟨h_41, hF⟩ := hF
      refine zl_sld (pc := 643) C hX hbl hbA h_41 dL_law_643 ?_
      refine zv_ci0 (pc := 644) (ws' := (fun uz : zMem => (zd_L_law cI cL adO qO3 qO4 qO5 qO6 adP0 qP00 qP01 qP02 qP03 qP04 adP1 qP10 qP11 qP12 qP13 qP14 adP2 qP20 qP21 qP22 qP23 qP24 adN qN0 qN1 qN2 qN3 qN4 qN5 adT qT0 qT1 qT2 qT3 qT4 qT5 qT6 qT7 adF0 qF00 qF01 qF02 qF03 adF1 qF10 qF11 qF12 qF13 adF2 qF20 qF21 qF22 qF23 adM qM1 qM2 qM3 qM4 qM5 qM6 qM7 qM8 qM12 qM13 qM15 qM16 qM17 qM18 qM19 qM20 qM21 qout O P0 P1 P2 N T_27 T_28 F1 F2 uz r_29))) C (zv_runV (As := [.int (xs (Int32.toNatClampNeg (i + (1 : Int32)))), .int (1 : Int32), .int (xs (Int32.toNatClampNeg (i + (3 : Int32))))]) (b := adM) (rest := []) (ci := 5) (q0 := 54) C (zc_X6_back l G cI adM qM1 qM2 qM3 qM4 qM5 qM6 qM7 qM8 qM12 qM13 qM15 qM16 qM17 qM18 qM19 qM20 qM21 M (xs (Int32.toNatClampNeg (i + (1 : Int32)))) (1 : Int32) (xs (Int32.toNatClampNeg (i + (3 : Int32)))) _ hF) (cwV 3 C.2.2.2.2.1 lwc_X6_back rfl rfl rfl zy_X6_back ⟨(Nat.le_of_ble_eq_true rfl), (Nat.le_of_ble_eq_true rfl)⟩) rfl rfl rfl rfl rfl (Nat.le_of_ble_eq_true rfl) ⟨hc, hs⟩ dL_law_644) [54, 55, 56, 57, 58, 59, 60, 61, 62, 63, 64, 65, 66, 67, 68, 69, 70, 71] [0, 1, 2, 3, 4, 5, 6, 7, 8, 9, 10, 11, 12, 13, 14, 15, 16, 17, 18, 19, 20, 21, 22, 23, 24, 25, 26, 27, 28, 29, 30, 31, 32, 33, 34, 35, 36, 37, 38, 39, 40, 41, 42, 43, 44, 45, 46, 47, 48, 49, 50, 51, 52, 53, 72] rfl rfl rfl rfl rfl (fun _ => rfl) (fun _ => rfl) (fun _ => rfl) (fun v_43 uz hF => ?_)
      obtain ⟨T_42, hE⟩ : ∃ z, z = uz := ⟨_, rfl⟩; subst hE
      refine zv_istore (pc := 647) (lv' := [(6, .int v_43), (5, .int v_30), (4, .int i), (0, .ref b), (1, .ref adO), (2, .ref adM), (3, .ref qout)]) C (by decide) rfl dL_law_647 ?_
      refine zv_aload_n (pc := 649) C rfl 5 rfl dL_law_649 ?_
      refine zv_ci0 (pc := 650) (ws' := (fun uz : Unit => (zd_L_law cI cL adO qO3 qO4 qO5 qO6 adP0 qP00 qP01 qP02 qP03 qP04 adP1 qP10 qP11 qP12 qP13 qP14 adP2 qP20 qP21 qP22 qP23 qP24 adN qN0 qN1 qN2 qN3 qN4 qN5 adT qT0 qT1 qT2 qT3 qT4 qT5 qT6 qT7 adF0 qF00 qF01 qF02 qF03 adF1 qF10 qF11 qF12 qF13 adF2 qF20 qF21 qF22 qF23 adM qM1 qM2 qM3 qM4 qM5 qM6 qM7 qM8 qM12 qM13 qM15 qM16 qM17 qM18 qM19 qM20 qM21 qout O P0 P1 P2 N T_27 T_28 F1 F2 T_42 r_29))) C (zv_runV (As := []) (b := adM) (rest := []) (ci := 5) (q0 := 54) C (zc_X6_thrown l G cI adM qM1 qM2 qM3 qM4 qM5 qM6 qM7 qM8 qM12 qM13 qM15 qM16 qM17 qM18 qM19 qM20 qM21 T_42 _ hF) (cwV 0 C.2.2.2.2.1 lwc_X6_thrown rfl rfl rfl zy_X6_thrown ⟨(Nat.le_of_ble_eq_true rfl), (Nat.le_of_ble_eq_true rfl)⟩) rfl rfl rfl rfl rfl (Nat.le_of_ble_eq_true rfl) ⟨hc, hs⟩ dL_law_650) [54, 55, 56, 57, 58, 59, 60, 61, 62, 63, 64, 65, 66, 67, 68, 69, 70, 71] [0, 1, 2, 3, 4, 5, 6, 7, 8, 9, 10, 11, 12, 13, 14, 15, 16, 17, 18, 19, 20, 21, 22, 23, 24, 25, 26, 27, 28, 29, 30, 31, 32, 33, 34, 35, 36, 37, 38, 39, 40, 41, 42, 43, 44, 45, 46, 47, 48, 49, 50, 51, 52, 53, 72] rfl rfl rfl rfl rfl (fun _ => rfl) (fun _ => rfl) (fun _ => rfl) (fun v_44 uz hF => ?_)
      refine zv_iload (pc := 653) C 1 rfl dL_law_653 ?_
      refine zv_icmp_eq (pc := 655) (tgt := 660) C dL_law_655 (by decide) (fun c_45 => ?_) (fun c_45 => ?_)
      · replace hF := And.left hF c_45
        refine zv_iload (pc := 660) C 1 rfl dL_law_660 ?_
        refine zv_if_ne (pc := 662) (tgt := 677) C dL_law_662 (by decide) (fun c_46 => ?_) (fun c_46 => ?_)
        · replace hF := And.left hF c_46
          refine zv_goto (pc := 677) (tgt := 1485) C dL_law_677 (by decide) ?_
          exact zv_lvs [2, 3, 4, 5, 6] rfl (hK O P0 P1 P2 N T_27 T_28 F1 F2 T_42 r_29 hF)
        · replace hF := And.right hF c_46
          refine zv_aload_n (pc := 665) C rfl 6 rfl dL_law_665 ?_
          refine zv_iconst (pc := 666) (v := 0) C (by decide) dL_law_666 ?_
          refine zl_lald (pc := 667) (n := 1) (f := r_29) C hKL 72 (vp_in_iff.mpr (by decide)) rfl dL_law_667 ?_
          refine zv_iload (pc := 668) C 0 rfl dL_law_668 ?_
          refine zv_i2l (pc := 670) C  dL_law_670 ?_
          refine zv_lcmp (pc := 671) C  dL_law_671 ?_
          refine zv_if_eq (pc := 672) (tgt := 677) C dL_law_672 (by decide) (fun c_47 => ?_) (fun c_47 => ?_)
          · replace hF := And.left hF c_47
            refine zv_goto (pc := 677) (tgt := 1485) C dL_law_677 (by decide) ?_
            exact zv_lvs [2, 3, 4, 5, 6] rfl (hK O P0 P1 P2 N T_27 T_28 F1 F2 T_42 r_29 hF)
          · replace hF := And.right hF c_47
            refine zv_iconst (pc := 675) (v := 0) C (by decide) dL_law_675 ?_
            exact (show False from hF).elim
      · replace hF := And.right hF c_45
        refine zv_iconst (pc := 658) (v := 0) C (by decide) dL_law_658 ?_
        exact (show False from hF).elim
