set_option maxHeartbeats 40000000 in
set_option maxRecDepth 100000 in
theorem zq_law_884 {p : Program} {l : Launch} {e : Env} {s : State} {m : MethodId} {args : Array Value} {below : List Frame} {meth : Method} {c : Code} {Q : State → Prop} {G : va_G} {cI cL : ClassId} {A : Nat → Prop} {b L : Nat} {xs : Nat → Int32} {cells slots : Nat} (hlt : l.stackTraces = false) (adO qO3 qO4 qO5 qO6 adP0 qP00 qP01 qP02 qP03 qP04 adP1 qP10 qP11 qP12 qP13 qP14 adP2 qP20 qP21 qP22 qP23 qP24 adN qN0 qN1 qN2 qN3 qN4 qN5 adT qT0 qT1 qT2 qT3 qT4 qT5 qT6 qT7 adF0 qF00 qF01 qF02 qF03 adF1 qF10 qF11 qF12 qF13 adF2 qF20 qF21 qF22 qF23 adM qM1 qM2 qM3 qM4 qM5 qM6 qM7 qM8 qM12 qM13 qM15 qM16 qM17 qM18 qM19 qM20 qM21 qout : Nat) (C : zv_C p s m args c cL_law 7 RL lw_tbl G cI A) (hB : zx_B A s) (hKL : va_K G vwCl [(cL, .long)] s) (hN : zl_B s) (hX : va_X b L xs s s.heap) (hbl : b < s.heap.size) (hbA : ¬ A b) (hc : cells + 1 ≤ room_1.cells) (hs : slots + 6 ≤ room_1.slots) (O : zMem) (P0 : zMem) (P1 : zMem) (P2 : zMem) (N : zMem) (T : zMem) (F0 : zMem) (F1 : zMem) (F2 : zMem) (M : zMem) (out : zRowL) (i : Int32) (K : zMem → zMem → zMem → zMem → zMem → zMem → zMem → zMem → zMem → zMem → zRowL → Prop) (hK : ∀ (O : zMem) (P0 : zMem) (P1 : zMem) (P2 : zMem) (N : zMem) (T : zMem) (F0 : zMem) (F1 : zMem) (F2 : zMem) (M : zMem) (out : zRowL), K O P0 P1 P2 N T F0 F1 F2 M out → zv_V p l e room_1 s m args below meth c Q G A 7 (cells + 1) (slots + 6) (zd_L_law cI cL adO qO3 qO4 qO5 qO6 adP0 qP00 qP01 qP02 qP03 qP04 adP1 qP10 qP11 qP12 qP13 qP14 adP2 qP20 qP21 qP22 qP23 qP24 adN qN0 qN1 qN2 qN3 qN4 qN5 adT qT0 qT1 qT2 qT3 qT4 qT5 qT6 qT7 adF0 qF00 qF01 qF02 qF03 adF1 qF10 qF11 qF12 qF13 adF2 qF20 qF21 qF22 qF23 adM qM1 qM2 qM3 qM4 qM5 qM6 qM7 qM8 qM12 qM13 qM15 qM16 qM17 qM18 qM19 qM20 qM21 qout O P0 P1 P2 N T F0 F1 F2 M out) 1485 [(4, .int i), (0, .ref b), (1, .ref adO), (2, .ref adM), (3, .ref qout)] []) (hF : zw_law_884 L xs O P0 P1 P2 N T F0 F1 F2 M out i K) : zv_V p l e room_1 s m args below meth c Q G A 7 cells slots (zd_L_law cI cL adO qO3 qO4 qO5 qO6 adP0 qP00 qP01 qP02 qP03 qP04 adP1 qP10 qP11 qP12 qP13 qP14 adP2 qP20 qP21 qP22 qP23 qP24 adN qN0 qN1 qN2 qN3 qN4 qN5 adT qT0 qT1 qT2 qT3 qT4 qT5 qT6 qT7 adF0 qF00 qF01 qF02 qF03 adF1 qF10 qF11 qF12 qF13 adF2 qF20 qF21 qF22 qF23 adM qM1 qM2 qM3 qM4 qM5 qM6 qM7 qM8 qM12 qM13 qM15 qM16 qM17 qM18 qM19 qM20 qM21 qout O P0 P1 P2 N T F0 F1 F2 M out) 884 [(4, .int i), (0, .ref b), (1, .ref adO), (2, .ref adM), (3, .ref qout)] [] := by
  refine zv_aload_n (pc := 884) C rfl 2 rfl dL_law_884 ?_
  refine zv_aload_n (pc := 885) C rfl 1 rfl dL_law_885 ?_
  refine zv_iload (pc := 886) C 0 rfl dL_law_886 ?_
  refine zv_iconst (pc := 888) (v := 1) C (by decide) dL_law_888 ?_
  refine zv_iadd (pc := 889) C  dL_law_889 ?_
  obtain ⟨h_1, hF⟩ := hF
  refine zl_sld (pc := 890) C hX hbl hbA h_1 dL_law_890 ?_
  refine zv_aload_n (pc := 891) C rfl 1 rfl dL_law_891 ?_
  refine zv_iload (pc := 892) C 0 rfl dL_law_892 ?_
  refine zv_iconst (pc := 894) (v := 2) C (by decide) dL_law_894 ?_
  refine zv_iadd (pc := 895) C  dL_law_895 ?_
  obtain ⟨h_2, hF⟩ := hF
  refine zl_sld (pc := 896) C hX hbl hbA h_2 dL_law_896 ?_
  refine zv_aload_n (pc := 897) C rfl 4 rfl dL_law_897 ?_
  refine zm_ci (pc := 898) (ws' := (fun uz : zMem × zRowL => (zd_L_law cI cL adO qO3 qO4 qO5 qO6 adP0 qP00 qP01 qP02 qP03 qP04 adP1 qP10 qP11 qP12 qP13 qP14 adP2 qP20 qP21 qP22 qP23 qP24 adN qN0 qN1 qN2 qN3 qN4 qN5 adT qT0 qT1 qT2 qT3 qT4 qT5 qT6 qT7 adF0 qF00 qF01 qF02 qF03 adF1 qF10 qF11 qF12 qF13 adF2 qF20 qF21 qF22 qF23 adM qM1 qM2 qM3 qM4 qM5 qM6 qM7 qM8 qM12 qM13 qM15 qM16 qM17 qM18 qM19 qM20 qM21 qout O P0 P1 P2 N uz.1 F0 F1 F2 M uz.2))) C (zm_runW (As := [.ref adO, .int (xs (Int32.toNatClampNeg (i + (1 : Int32)))), .int (xs (Int32.toNatClampNeg (i + (2 : Int32)))), .ref qout]) (rest := []) C hB hKL hN (zc_L_sign l hlt G cI cL adO qO3 qO4 qO5 qO6 adP0 qP00 qP01 qP02 qP03 qP04 adP1 qP10 qP11 qP12 qP13 qP14 adT qT0 qT1 qT2 qT3 qT4 qT5 qT6 qT7 qout adP2 adN adF0 adF1 adF2 O P0 P1 T out (xs (Int32.toNatClampNeg (i + (1 : Int32)))) (xs (Int32.toNatClampNeg (i + (2 : Int32)))) _ hF) (vx_cwSW 4 C.2.2.2.2.1 lwc_L_sign rfl rfl rfl zy_L_sign ⟨(Nat.le_of_ble_eq_true rfl), (Nat.le_of_ble_eq_true rfl)⟩) rfl rfl (Nat.le_of_ble_eq_true rfl) ⟨hc, hs⟩ dL_law_898) [0, 1, 2, 3, 4, 5, 6, 7, 8, 9, 10, 11, 12, 13, 14, 15, 16, 30, 31, 32, 33, 34, 35, 36, 37, 38, 72] [17, 18, 19, 20, 21, 22, 23, 24, 25, 26, 27, 28, 29, 39, 40, 41, 42, 43, 44, 45, 46, 47, 48, 49, 50, 51, 52, 53, 54, 55, 56, 57, 58, 59, 60, 61, 62, 63, 64, 65, 66, 67, 68, 69, 70, 71] rfl rfl rfl rfl rfl (fun _ => rfl) (fun _ => rfl) (fun _ => rfl) (fun v_5 uz hF => ?_)
  obtain ⟨T_3, r_4⟩ := uz
  refine zv_istore (pc := 901) (lv' := [(5, .int v_5), (4, .int i), (0, .ref b), (1, .ref adO), (2, .ref adM), (3, .ref qout)]) C (by decide) rfl dL_law_901 ?_
  refine zv_aload_n (pc := 903) C rfl 4 rfl dL_law_903 ?_
  refine zv_aload_n (pc := 904) C rfl 2 rfl dL_law_904 ?_
  refine zv_iload (pc := 905) C 1 rfl dL_law_905 ?_
  refine zv_iconst (pc := 907) (v := 1) C (by decide) dL_law_907 ?_
  refine zv_iadd (pc := 908) C  dL_law_908 ?_
  obtain ⟨h_6, hF⟩ := hF
  refine zl_sld (pc := 909) C hX hbl hbA h_6 dL_law_909 ?_
  refine zv_aload_n (pc := 910) C rfl 2 rfl dL_law_910 ?_
  refine zv_iload (pc := 911) C 1 rfl dL_law_911 ?_
  refine zv_iconst (pc := 913) (v := 2) C (by decide) dL_law_913 ?_
  refine zv_iadd (pc := 914) C  dL_law_914 ?_
  obtain ⟨h_7, hF⟩ := hF
  refine zl_sld (pc := 915) C hX hbl hbA h_7 dL_law_915 ?_
  refine zv_ci0 (pc := 916) (ws' := (fun uz : zMem => (zd_L_law cI cL adO qO3 qO4 qO5 qO6 adP0 qP00 qP01 qP02 qP03 qP04 adP1 qP10 qP11 qP12 qP13 qP14 adP2 qP20 qP21 qP22 qP23 qP24 adN qN0 qN1 qN2 qN3 qN4 qN5 adT qT0 qT1 qT2 qT3 qT4 qT5 qT6 qT7 adF0 qF00 qF01 qF02 qF03 adF1 qF10 qF11 qF12 qF13 adF2 qF20 qF21 qF22 qF23 adM qM1 qM2 qM3 qM4 qM5 qM6 qM7 qM8 qM12 qM13 qM15 qM16 qM17 qM18 qM19 qM20 qM21 qout O P0 P1 P2 N T_3 F0 F1 F2 uz r_4))) C (zv_runV (As := [.int (xs (Int32.toNatClampNeg (i + (1 : Int32)))), .int (xs (Int32.toNatClampNeg (i + (2 : Int32))))]) (b := adM) (rest := []) (ci := 5) (q0 := 54) C (zc_X6_sign l G cI adM qM1 qM2 qM3 qM4 qM5 qM6 qM7 qM8 qM12 qM13 qM15 qM16 qM17 qM18 qM19 qM20 qM21 M (xs (Int32.toNatClampNeg (i + (1 : Int32)))) (xs (Int32.toNatClampNeg (i + (2 : Int32)))) _ hF) (cwV 2 C.2.2.2.2.1 lwc_X6_sign rfl rfl rfl zy_X6_sign ⟨(Nat.le_of_ble_eq_true rfl), (Nat.le_of_ble_eq_true rfl)⟩) rfl rfl rfl rfl rfl (Nat.le_of_ble_eq_true rfl) ⟨hc, hs⟩ dL_law_916) [54, 55, 56, 57, 58, 59, 60, 61, 62, 63, 64, 65, 66, 67, 68, 69, 70, 71] [0, 1, 2, 3, 4, 5, 6, 7, 8, 9, 10, 11, 12, 13, 14, 15, 16, 17, 18, 19, 20, 21, 22, 23, 24, 25, 26, 27, 28, 29, 30, 31, 32, 33, 34, 35, 36, 37, 38, 39, 40, 41, 42, 43, 44, 45, 46, 47, 48, 49, 50, 51, 52, 53, 72] rfl rfl rfl rfl rfl (fun _ => rfl) (fun _ => rfl) (fun _ => rfl) (fun v_9 uz hF => ?_)
  obtain ⟨T_8, hE⟩ : ∃ z, z = uz := ⟨_, rfl⟩; subst hE
  refine zv_istore (pc := 919) (lv' := [(6, .int v_9), (5, .int v_5), (4, .int i), (0, .ref b), (1, .ref adO), (2, .ref adM), (3, .ref qout)]) C (by decide) rfl dL_law_919 ?_
  refine zv_aload_n (pc := 921) C rfl 5 rfl dL_law_921 ?_
  refine zv_ci0 (pc := 922) (ws' := (fun uz : Unit => (zd_L_law cI cL adO qO3 qO4 qO5 qO6 adP0 qP00 qP01 qP02 qP03 qP04 adP1 qP10 qP11 qP12 qP13 qP14 adP2 qP20 qP21 qP22 qP23 qP24 adN qN0 qN1 qN2 qN3 qN4 qN5 adT qT0 qT1 qT2 qT3 qT4 qT5 qT6 qT7 adF0 qF00 qF01 qF02 qF03 adF1 qF10 qF11 qF12 qF13 adF2 qF20 qF21 qF22 qF23 adM qM1 qM2 qM3 qM4 qM5 qM6 qM7 qM8 qM12 qM13 qM15 qM16 qM17 qM18 qM19 qM20 qM21 qout O P0 P1 P2 N T_3 F0 F1 F2 T_8 r_4))) C (zv_runV (As := []) (b := adM) (rest := []) (ci := 5) (q0 := 54) C (zc_X6_thrown l G cI adM qM1 qM2 qM3 qM4 qM5 qM6 qM7 qM8 qM12 qM13 qM15 qM16 qM17 qM18 qM19 qM20 qM21 T_8 _ hF) (cwV 0 C.2.2.2.2.1 lwc_X6_thrown rfl rfl rfl zy_X6_thrown ⟨(Nat.le_of_ble_eq_true rfl), (Nat.le_of_ble_eq_true rfl)⟩) rfl rfl rfl rfl rfl (Nat.le_of_ble_eq_true rfl) ⟨hc, hs⟩ dL_law_922) [54, 55, 56, 57, 58, 59, 60, 61, 62, 63, 64, 65, 66, 67, 68, 69, 70, 71] [0, 1, 2, 3, 4, 5, 6, 7, 8, 9, 10, 11, 12, 13, 14, 15, 16, 17, 18, 19, 20, 21, 22, 23, 24, 25, 26, 27, 28, 29, 30, 31, 32, 33, 34, 35, 36, 37, 38, 39, 40, 41, 42, 43, 44, 45, 46, 47, 48, 49, 50, 51, 52, 53, 72] rfl rfl rfl rfl rfl (fun _ => rfl) (fun _ => rfl) (fun _ => rfl) (fun v_10 uz hF => ?_)
  refine zv_iload (pc := 925) C 1 rfl dL_law_925 ?_
  refine zv_icmp_eq (pc := 927) (tgt := 932) C dL_law_927 (by decide) (fun c_11 => ?_) (fun c_11 => ?_)
  · replace hF := And.left hF c_11
    refine zv_iload (pc := 932) C 1 rfl dL_law_932 ?_
    refine zv_if_ne (pc := 934) (tgt := 949) C dL_law_934 (by decide) (fun c_12 => ?_) (fun c_12 => ?_)
    · replace hF := And.left hF c_12
      refine zv_goto (pc := 949) (tgt := 1485) C dL_law_949 (by decide) ?_
      exact zv_lvs [2, 3, 4, 5, 6] rfl (hK O P0 P1 P2 N T_3 F0 F1 F2 T_8 r_4 hF)
    · replace hF := And.right hF c_12
      refine zv_aload_n (pc := 937) C rfl 6 rfl dL_law_937 ?_
      refine zv_iconst (pc := 938) (v := 0) C (by decide) dL_law_938 ?_
      refine zl_lald (pc := 939) (n := 1) (f := r_4) C hKL 72 (vp_in_iff.mpr (by decide)) rfl dL_law_939 ?_
      refine zv_iload (pc := 940) C 0 rfl dL_law_940 ?_
      refine zv_i2l (pc := 942) C  dL_law_942 ?_
      refine zv_lcmp (pc := 943) C  dL_law_943 ?_
      refine zv_if_eq (pc := 944) (tgt := 949) C dL_law_944 (by decide) (fun c_13 => ?_) (fun c_13 => ?_)
      · replace hF := And.left hF c_13
        refine zv_goto (pc := 949) (tgt := 1485) C dL_law_949 (by decide) ?_
        exact zv_lvs [2, 3, 4, 5, 6] rfl (hK O P0 P1 P2 N T_3 F0 F1 F2 T_8 r_4 hF)
      · replace hF := And.right hF c_13
        refine zv_iconst (pc := 947) (v := 0) C (by decide) dL_law_947 ?_
        exact (show False from hF).elim
  · replace hF := And.right hF c_11
    refine zv_iconst (pc := 930) (v := 0) C (by decide) dL_law_930 ?_
    exact (show False from hF).elim
