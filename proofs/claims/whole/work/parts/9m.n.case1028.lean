set_option maxHeartbeats 40000000 in
set_option maxRecDepth 100000 in
theorem zq_law_1028 {p : Program} {l : Launch} {e : Env} {s : State} {m : MethodId} {args : Array Value} {below : List Frame} {meth : Method} {c : Code} {Q : State → Prop} {G : va_G} {cI cL : ClassId} {A : Nat → Prop} {b L : Nat} {xs : Nat → Int32} {cells slots : Nat} (hlt : l.stackTraces = false) (adO qO3 qO4 qO5 qO6 adP0 qP00 qP01 qP02 qP03 qP04 adP1 qP10 qP11 qP12 qP13 qP14 adP2 qP20 qP21 qP22 qP23 qP24 adN qN0 qN1 qN2 qN3 qN4 qN5 adT qT0 qT1 qT2 qT3 qT4 qT5 qT6 qT7 adF0 qF00 qF01 qF02 qF03 adF1 qF10 qF11 qF12 qF13 adF2 qF20 qF21 qF22 qF23 adM qM1 qM2 qM3 qM4 qM5 qM6 qM7 qM8 qM12 qM13 qM15 qM16 qM17 qM18 qM19 qM20 qM21 qout : Nat) (C : zv_C p s m args c cL_law 7 RL lw_tbl G cI A) (hB : zx_B A s) (hKL : va_K G vwCl [(cL, .long)] s) (hN : zl_B s) (hX : va_X b L xs s s.heap) (hbl : b < s.heap.size) (hbA : ¬ A b) (hc : cells + 1 ≤ room_1.cells) (hs : slots + 6 ≤ room_1.slots) (O : zMem) (P0 : zMem) (P1 : zMem) (P2 : zMem) (N : zMem) (T : zMem) (F0 : zMem) (F1 : zMem) (F2 : zMem) (M : zMem) (out : zRowL) (i : Int32) (K : zMem → zMem → zMem → zMem → zMem → zMem → zMem → zMem → zMem → zMem → zRowL → Prop) (hK : ∀ (O : zMem) (P0 : zMem) (P1 : zMem) (P2 : zMem) (N : zMem) (T : zMem) (F0 : zMem) (F1 : zMem) (F2 : zMem) (M : zMem) (out : zRowL), K O P0 P1 P2 N T F0 F1 F2 M out → zv_V p l e room_1 s m args below meth c Q G A 7 (cells + 1) (slots + 6) (zd_L_law cI cL adO qO3 qO4 qO5 qO6 adP0 qP00 qP01 qP02 qP03 qP04 adP1 qP10 qP11 qP12 qP13 qP14 adP2 qP20 qP21 qP22 qP23 qP24 adN qN0 qN1 qN2 qN3 qN4 qN5 adT qT0 qT1 qT2 qT3 qT4 qT5 qT6 qT7 adF0 qF00 qF01 qF02 qF03 adF1 qF10 qF11 qF12 qF13 adF2 qF20 qF21 qF22 qF23 adM qM1 qM2 qM3 qM4 qM5 qM6 qM7 qM8 qM12 qM13 qM15 qM16 qM17 qM18 qM19 qM20 qM21 qout O P0 P1 P2 N T F0 F1 F2 M out) 1485 [(4, .int i), (0, .ref b), (1, .ref adO), (2, .ref adM), (3, .ref qout)] []) (hF : zw_law_1028 L xs O P0 P1 P2 N T F0 F1 F2 M out i K) : zv_V p l e room_1 s m args below meth c Q G A 7 cells slots (zd_L_law cI cL adO qO3 qO4 qO5 qO6 adP0 qP00 qP01 qP02 qP03 qP04 adP1 qP10 qP11 qP12 qP13 qP14 adP2 qP20 qP21 qP22 qP23 qP24 adN qN0 qN1 qN2 qN3 qN4 qN5 adT qT0 qT1 qT2 qT3 qT4 qT5 qT6 qT7 adF0 qF00 qF01 qF02 qF03 adF1 qF10 qF11 qF12 qF13 adF2 qF20 qF21 qF22 qF23 adM qM1 qM2 qM3 qM4 qM5 qM6 qM7 qM8 qM12 qM13 qM15 qM16 qM17 qM18 qM19 qM20 qM21 qout O P0 P1 P2 N T F0 F1 F2 M out) 1028 [(4, .int i), (0, .ref b), (1, .ref adO), (2, .ref adM), (3, .ref qout)] [] := by
  refine zv_aload_n (pc := 1028) C rfl 2 rfl dL_law_1028 ?_
  refine zv_aload_n (pc := 1029) C rfl 1 rfl dL_law_1029 ?_
  refine zv_iload (pc := 1030) C 0 rfl dL_law_1030 ?_
  refine zv_iconst (pc := 1032) (v := 1) C (by decide) dL_law_1032 ?_
  refine zv_iadd (pc := 1033) C  dL_law_1033 ?_
  obtain ⟨h_1, hF⟩ := hF
  refine zl_sld (pc := 1034) C hX hbl hbA h_1 dL_law_1034 ?_
  refine zv_aload_n (pc := 1035) C rfl 1 rfl dL_law_1035 ?_
  refine zv_iload (pc := 1036) C 0 rfl dL_law_1036 ?_
  refine zv_iconst (pc := 1038) (v := 2) C (by decide) dL_law_1038 ?_
  refine zv_iadd (pc := 1039) C  dL_law_1039 ?_
  obtain ⟨h_2, hF⟩ := hF
  refine zl_sld (pc := 1040) C hX hbl hbA h_2 dL_law_1040 ?_
  refine zv_aload_n (pc := 1041) C rfl 1 rfl dL_law_1041 ?_
  refine zv_iload (pc := 1042) C 0 rfl dL_law_1042 ?_
  refine zv_iconst (pc := 1044) (v := 3) C (by decide) dL_law_1044 ?_
  refine zv_iadd (pc := 1045) C  dL_law_1045 ?_
  obtain ⟨h_3, hF⟩ := hF
  refine zl_sld (pc := 1046) C hX hbl hbA h_3 dL_law_1046 ?_
  refine zv_if_eq (pc := 1047) (tgt := 1054) C dL_law_1047 (by decide) (fun c_4 => ?_) (fun c_4 => ?_)
  · replace hF := And.left hF c_4
    refine zv_iconst (pc := 1054) (v := 0) C (by decide) dL_law_1054 ?_
    refine zv_aload_n (pc := 1055) C rfl 4 rfl dL_law_1055 ?_
    refine zm_ci (pc := 1056) (ws' := (fun uz : zMem × zMem × zMem × zRowL => (zd_L_law cI cL adO qO3 qO4 qO5 qO6 adP0 qP00 qP01 qP02 qP03 qP04 adP1 qP10 qP11 qP12 qP13 qP14 adP2 qP20 qP21 qP22 qP23 qP24 adN qN0 qN1 qN2 qN3 qN4 qN5 adT qT0 qT1 qT2 qT3 qT4 qT5 qT6 qT7 adF0 qF00 qF01 qF02 qF03 adF1 qF10 qF11 qF12 qF13 adF2 qF20 qF21 qF22 qF23 adM qM1 qM2 qM3 qM4 qM5 qM6 qM7 qM8 qM12 qM13 qM15 qM16 qM17 qM18 qM19 qM20 qM21 qout O P0 P1 P2 N uz.1 F0 uz.2.1 uz.2.2.1 M uz.2.2.2))) C (zm_runW (As := [.ref adO, .int (xs (Int32.toNatClampNeg (i + (1 : Int32)))), .int (xs (Int32.toNatClampNeg (i + (2 : Int32)))), .int (0 : Int32), .ref qout]) (rest := []) C hB hKL hN (zc_L_extreme l hlt G cI cL adO qO3 qO4 qO5 qO6 adP0 qP00 qP01 qP02 qP03 qP04 adP1 qP10 qP11 qP12 qP13 qP14 adT qT0 qT1 qT2 qT3 qT4 qT5 qT6 qT7 adF1 qF10 qF11 qF12 qF13 adF2 qF20 qF21 qF22 qF23 qout adP2 adN adF0 O P0 P1 T F1 F2 out (xs (Int32.toNatClampNeg (i + (1 : Int32)))) (xs (Int32.toNatClampNeg (i + (2 : Int32)))) (0 : Int32) _ hF) (vx_cwSW 5 C.2.2.2.2.1 lwc_L_extreme rfl rfl rfl zy_L_extreme ⟨(Nat.le_of_ble_eq_true rfl), (Nat.le_of_ble_eq_true rfl)⟩) rfl rfl (Nat.le_of_ble_eq_true rfl) ⟨hc, hs⟩ dL_law_1056) [0, 1, 2, 3, 4, 5, 6, 7, 8, 9, 10, 11, 12, 13, 14, 15, 16, 30, 31, 32, 33, 34, 35, 36, 37, 38, 44, 45, 46, 47, 48, 49, 50, 51, 52, 53, 72] [17, 18, 19, 20, 21, 22, 23, 24, 25, 26, 27, 28, 29, 39, 40, 41, 42, 43, 54, 55, 56, 57, 58, 59, 60, 61, 62, 63, 64, 65, 66, 67, 68, 69, 70, 71] rfl rfl rfl rfl rfl (fun _ => rfl) (fun _ => rfl) (fun _ => rfl) (fun v_9 uz hF => ?_)
    obtain ⟨T_5, T_6, T_7, r_8⟩ := uz
    refine zv_istore (pc := 1059) (lv' := [(5, .int v_9), (4, .int i), (0, .ref b), (1, .ref adO), (2, .ref adM), (3, .ref qout)]) C (by decide) rfl dL_law_1059 ?_
    refine zv_aload_n (pc := 1061) C rfl 4 rfl dL_law_1061 ?_
    refine zv_aload_n (pc := 1062) C rfl 2 rfl dL_law_1062 ?_
    refine zv_iload (pc := 1063) C 1 rfl dL_law_1063 ?_
    refine zv_iconst (pc := 1065) (v := 1) C (by decide) dL_law_1065 ?_
    refine zv_iadd (pc := 1066) C  dL_law_1066 ?_
    obtain ⟨h_10, hF⟩ := hF
    refine zl_sld (pc := 1067) C hX hbl hbA h_10 dL_law_1067 ?_
    refine zv_aload_n (pc := 1068) C rfl 2 rfl dL_law_1068 ?_
    refine zv_iload (pc := 1069) C 1 rfl dL_law_1069 ?_
    refine zv_iconst (pc := 1071) (v := 2) C (by decide) dL_law_1071 ?_
    refine zv_iadd (pc := 1072) C  dL_law_1072 ?_
    obtain ⟨h_11, hF⟩ := hF
    refine zl_sld (pc := 1073) C hX hbl hbA h_11 dL_law_1073 ?_
    refine zv_aload_n (pc := 1074) C rfl 2 rfl dL_law_1074 ?_
    refine zv_iload (pc := 1075) C 1 rfl dL_law_1075 ?_
    refine zv_iconst (pc := 1077) (v := 3) C (by decide) dL_law_1077 ?_
    refine zv_iadd (pc := 1078) C  dL_law_1078 ?_
    obtain ⟨h_12, hF⟩ := hF
    refine zl_sld (pc := 1079) C hX hbl hbA h_12 dL_law_1079 ?_
    refine zv_if_eq (pc := 1080) (tgt := 1087) C dL_law_1080 (by decide) (fun c_13 => ?_) (fun c_13 => ?_)
    · replace hF := And.left hF c_13
      refine zv_iconst (pc := 1087) (v := 0) C (by decide) dL_law_1087 ?_
      refine zv_ci0 (pc := 1088) (ws' := (fun uz : zMem => (zd_L_law cI cL adO qO3 qO4 qO5 qO6 adP0 qP00 qP01 qP02 qP03 qP04 adP1 qP10 qP11 qP12 qP13 qP14 adP2 qP20 qP21 qP22 qP23 qP24 adN qN0 qN1 qN2 qN3 qN4 qN5 adT qT0 qT1 qT2 qT3 qT4 qT5 qT6 qT7 adF0 qF00 qF01 qF02 qF03 adF1 qF10 qF11 qF12 qF13 adF2 qF20 qF21 qF22 qF23 adM qM1 qM2 qM3 qM4 qM5 qM6 qM7 qM8 qM12 qM13 qM15 qM16 qM17 qM18 qM19 qM20 qM21 qout O P0 P1 P2 N T_5 F0 T_6 T_7 uz r_8))) C (zv_runV (As := [.int (xs (Int32.toNatClampNeg (i + (1 : Int32)))), .int (xs (Int32.toNatClampNeg (i + (2 : Int32)))), .int (0 : Int32)]) (b := adM) (rest := []) (ci := 5) (q0 := 54) C (zc_X6_extreme l G cI adM qM1 qM2 qM3 qM4 qM5 qM6 qM7 qM8 qM12 qM13 qM15 qM16 qM17 qM18 qM19 qM20 qM21 M (xs (Int32.toNatClampNeg (i + (1 : Int32)))) (xs (Int32.toNatClampNeg (i + (2 : Int32)))) (0 : Int32) _ hF) (cwV 3 C.2.2.2.2.1 lwc_X6_extreme rfl rfl rfl zy_X6_extreme ⟨(Nat.le_of_ble_eq_true rfl), (Nat.le_of_ble_eq_true rfl)⟩) rfl rfl rfl rfl rfl (Nat.le_of_ble_eq_true rfl) ⟨hc, hs⟩ dL_law_1088) [54, 55, 56, 57, 58, 59, 60, 61, 62, 63, 64, 65, 66, 67, 68, 69, 70, 71] [0, 1, 2, 3, 4, 5, 6, 7, 8, 9, 10, 11, 12, 13, 14, 15, 16, 17, 18, 19, 20, 21, 22, 23, 24, 25, 26, 27, 28, 29, 30, 31, 32, 33, 34, 35, 36, 37, 38, 39, 40, 41, 42, 43, 44, 45, 46, 47, 48, 49, 50, 51, 52, 53, 72] rfl rfl rfl rfl rfl (fun _ => rfl) (fun _ => rfl) (fun _ => rfl) (fun v_15 uz hF => ?_)
      obtain ⟨T_14, hE⟩ : ∃ z, z = uz := ⟨_, rfl⟩; subst hE
      refine zv_istore (pc := 1091) (lv' := [(6, .int v_15), (5, .int v_9), (4, .int i), (0, .ref b), (1, .ref adO), (2, .ref adM), (3, .ref qout)]) C (by decide) rfl dL_law_1091 ?_
      refine zv_aload_n (pc := 1093) C rfl 5 rfl dL_law_1093 ?_
      refine zv_ci0 (pc := 1094) (ws' := (fun uz : Unit => (zd_L_law cI cL adO qO3 qO4 qO5 qO6 adP0 qP00 qP01 qP02 qP03 qP04 adP1 qP10 qP11 qP12 qP13 qP14 adP2 qP20 qP21 qP22 qP23 qP24 adN qN0 qN1 qN2 qN3 qN4 qN5 adT qT0 qT1 qT2 qT3 qT4 qT5 qT6 qT7 adF0 qF00 qF01 qF02 qF03 adF1 qF10 qF11 qF12 qF13 adF2 qF20 qF21 qF22 qF23 adM qM1 qM2 qM3 qM4 qM5 qM6 qM7 qM8 qM12 qM13 qM15 qM16 qM17 qM18 qM19 qM20 qM21 qout O P0 P1 P2 N T_5 F0 T_6 T_7 T_14 r_8))) C (zv_runV (As := []) (b := adM) (rest := []) (ci := 5) (q0 := 54) C (zc_X6_thrown l G cI adM qM1 qM2 qM3 qM4 qM5 qM6 qM7 qM8 qM12 qM13 qM15 qM16 qM17 qM18 qM19 qM20 qM21 T_14 _ hF) (cwV 0 C.2.2.2.2.1 lwc_X6_thrown rfl rfl rfl zy_X6_thrown ⟨(Nat.le_of_ble_eq_true rfl), (Nat.le_of_ble_eq_true rfl)⟩) rfl rfl rfl rfl rfl (Nat.le_of_ble_eq_true rfl) ⟨hc, hs⟩ dL_law_1094) [54, 55, 56, 57, 58, 59, 60, 61, 62, 63, 64, 65, 66, 67, 68, 69, 70, 71] [0, 1, 2, 3, 4, 5, 6, 7, 8, 9, 10, 11, 12, 13, 14, 15, 16, 17, 18, 19, 20, 21, 22, 23, 24, 25, 26, 27, 28, 29, 30, 31, 32, 33, 34, 35, 36, 37, 38, 39, 40, 41, 42, 43, 44, 45, 46, 47, 48, 49, 50, 51, 52, 53, 72] rfl rfl rfl rfl rfl (fun _ => rfl) (fun _ => rfl) (fun _ => rfl) (fun v_16 uz hF => ?_)
      refine zv_iload (pc := 1097) C 1 rfl dL_law_1097 ?_
      refine zv_icmp_eq (pc := 1099) (tgt := 1104) C dL_law_1099 (by decide) (fun c_17 => ?_) (fun c_17 => ?_)
      · replace hF := And.left hF c_17
        refine zv_iload (pc := 1104) C 1 rfl dL_law_1104 ?_
        refine zv_if_ne (pc := 1106) (tgt := 1121) C dL_law_1106 (by decide) (fun c_18 => ?_) (fun c_18 => ?_)
        · replace hF := And.left hF c_18
          refine zv_goto (pc := 1121) (tgt := 1485) C dL_law_1121 (by decide) ?_
          exact zv_lvs [2, 3, 4, 5, 6] rfl (hK O P0 P1 P2 N T_5 F0 T_6 T_7 T_14 r_8 hF)
        · replace hF := And.right hF c_18
          refine zv_aload_n (pc := 1109) C rfl 6 rfl dL_law_1109 ?_
          refine zv_iconst (pc := 1110) (v := 0) C (by decide) dL_law_1110 ?_
          refine zl_lald (pc := 1111) (n := 1) (f := r_8) C hKL 72 (vp_in_iff.mpr (by decide)) rfl dL_law_1111 ?_
          refine zv_iload (pc := 1112) C 0 rfl dL_law_1112 ?_
          refine zv_i2l (pc := 1114) C  dL_law_1114 ?_
          refine zv_lcmp (pc := 1115) C  dL_law_1115 ?_
          refine zv_if_eq (pc := 1116) (tgt := 1121) C dL_law_1116 (by decide) (fun c_19 => ?_) (fun c_19 => ?_)
          · replace hF := And.left hF c_19
            refine zv_goto (pc := 1121) (tgt := 1485) C dL_law_1121 (by decide) ?_
            exact zv_lvs [2, 3, 4, 5, 6] rfl (hK O P0 P1 P2 N T_5 F0 T_6 T_7 T_14 r_8 hF)
          · replace hF := And.right hF c_19
            refine zv_iconst (pc := 1119) (v := 0) C (by decide) dL_law_1119 ?_
            exact (show False from hF).elim
      · replace hF := And.right hF c_17
        refine zv_iconst (pc := 1102) (v := 0) C (by decide) dL_law_1102 ?_
        exact (show False from hF).elim
    · replace hF := And.right hF c_13
      refine zv_iconst (pc := 1083) (v := 1) C (by decide) dL_law_1083 ?_
      refine zv_goto (pc := 1084) (tgt := 1088) C dL_law_1084 (by decide) ?_
      refine zv_ci0 (pc := 1088) (ws' := (fun uz : zMem => (zd_L_law cI cL adO qO3 qO4 qO5 qO6 adP0 qP00 qP01 qP02 qP03 qP04 adP1 qP10 qP11 qP12 qP13 qP14 adP2 qP20 qP21 qP22 qP23 qP24 adN qN0 qN1 qN2 qN3 qN4 qN5 adT qT0 qT1 qT2 qT3 qT4 qT5 qT6 qT7 adF0 qF00 qF01 qF02 qF03 adF1 qF10 qF11 qF12 qF13 adF2 qF20 qF21 qF22 qF23 adM qM1 qM2 qM3 qM4 qM5 qM6 qM7 qM8 qM12 qM13 qM15 qM16 qM17 qM18 qM19 qM20 qM21 qout O P0 P1 P2 N T_5 F0 T_6 T_7 uz r_8))) C (zv_runV (As := [.int (xs (Int32.toNatClampNeg (i + (1 : Int32)))), .int (xs (Int32.toNatClampNeg (i + (2 : Int32)))), .int (1 : Int32)]) (b := adM) (rest := []) (ci := 5) (q0 := 54) C (zc_X6_extreme l G cI adM qM1 qM2 qM3 qM4 qM5 qM6 qM7 qM8 qM12 qM13 qM15 qM16 qM17 qM18 qM19 qM20 qM21 M (xs (Int32.toNatClampNeg (i + (1 : Int32)))) (xs (Int32.toNatClampNeg (i + (2 : Int32)))) (1 : Int32) _ hF) (cwV 3 C.2.2.2.2.1 lwc_X6_extreme rfl rfl rfl zy_X6_extreme ⟨(Nat.le_of_ble_eq_true rfl), (Nat.le_of_ble_eq_true rfl)⟩) rfl rfl rfl rfl rfl (Nat.le_of_ble_eq_true rfl) ⟨hc, hs⟩ dL_law_1088) [54, 55, 56, 57, 58, 59, 60, 61, 62, 63, 64, 65, 66, 67, 68, 69, 70, 71] [0, 1, 2, 3, 4, 5, 6, 7, 8, 9, 10, 11, 12, 13, 14, 15, 16, 17, 18, 19, 20, 21, 22, 23, 24, 25, 26, 27, 28, 29, 30, 31, 32, 33, 34, 35, 36, 37, 38, 39, 40, 41, 42, 43, 44, 45, 46, 47, 48, 49, 50, 51, 52, 53, 72] rfl rfl rfl rfl rfl (fun _ => rfl) (fun _ => rfl) (fun _ => rfl) (fun v_21 uz hF => ?_)
      obtain ⟨T_20, hE⟩ : ∃ z, z = uz := ⟨_, rfl⟩; subst hE
      refine zv_istore (pc := 1091) (lv' := [(6, .int v_21), (5, .int v_9), (4, .int i), (0, .ref b), (1, .ref adO), (2, .ref adM), (3, .ref qout)]) C (by decide) rfl dL_law_1091 ?_
      refine zv_aload_n (pc := 1093) C rfl 5 rfl dL_law_1093 ?_
      refine zv_ci0 (pc := 1094) (ws' := (fun uz : Unit => (zd_L_law cI cL adO qO3 qO4 qO5 qO6 adP0 qP00 qP01 qP02 qP03 qP04 adP1 qP10 qP11 qP12 qP13 qP14 adP2 qP20 qP21 qP22 qP23 qP24 adN qN0 qN1 qN2 qN3 qN4 qN5 adT qT0 qT1 qT2 qT3 qT4 qT5 qT6 qT7 adF0 qF00 qF01 qF02 qF03 adF1 qF10 qF11 qF12 qF13 adF2 qF20 qF21 qF22 qF23 adM qM1 qM2 qM3 qM4 qM5 qM6 qM7 qM8 qM12 qM13 qM15 qM16 qM17 qM18 qM19 qM20 qM21 qout O P0 P1 P2 N T_5 F0 T_6 T_7 T_20 r_8))) C (zv_runV (As := []) (b := adM) (rest := []) (ci := 5) (q0 := 54) C (zc_X6_thrown l G cI adM qM1 qM2 qM3 qM4 qM5 qM6 qM7 qM8 qM12 qM13 qM15 qM16 qM17 qM18 qM19 qM20 qM21 T_20 _ hF) (cwV 0 C.2.2.2.2.1 lwc_X6_thrown rfl rfl rfl zy_X6_thrown ⟨(Nat.le_of_ble_eq_true rfl), (Nat.le_of_ble_eq_true rfl)⟩) rfl rfl rfl rfl rfl (Nat.le_of_ble_eq_true rfl) ⟨hc, hs⟩ dL_law_1094) [54, 55, 56, 57, 58, 59, 60, 61, 62, 63, 64, 65, 66, 67, 68, 69, 70, 71] [0, 1, 2, 3, 4, 5, 6, 7, 8, 9, 10, 11, 12, 13, 14, 15, 16, 17, 18, 19, 20, 21, 22, 23, 24, 25, 26, 27, 28, 29, 30, 31, 32, 33, 34, 35, 36, 37, 38, 39, 40, 41, 42, 43, 44, 45, 46, 47, 48, 49, 50, 51, 52, 53, 72] rfl rfl rfl rfl rfl (fun _ => rfl) (fun _ => rfl) (fun _ => rfl) (fun v_22 uz hF => ?_)
      refine zv_iload (pc := 1097) C 1 rfl dL_law_1097 ?_
      refine zv_icmp_eq (pc := 1099) (tgt := 1104) C dL_law_1099 (by decide) (fun c_23 => ?_) (fun c_23 => ?_)
      · replace hF := And.left hF c_23
        refine zv_iload (pc := 1104) C 1 rfl dL_law_1104 ?_
        refine zv_if_ne (pc := 1106) (tgt := 1121) C dL_law_1106 (by decide) (fun c_24 => ?_) (fun c_24 => ?_)
        · replace hF := And.left hF c_24
          refine zv_goto (pc := 1121) (tgt := 1485) C dL_law_1121 (by decide) ?_
          exact zv_lvs [2, 3, 4, 5, 6] rfl (hK O P0 P1 P2 N T_5 F0 T_6 T_7 T_20 r_8 hF)
        · replace hF := And.right hF c_24
          refine zv_aload_n (pc := 1109) C rfl 6 rfl dL_law_1109 ?_
          refine zv_iconst (pc := 1110) (v := 0) C (by decide) dL_law_1110 ?_
          refine zl_lald (pc := 1111) (n := 1) (f := r_8) C hKL 72 (vp_in_iff.mpr (by decide)) rfl dL_law_1111 ?_
          refine zv_iload (pc := 1112) C 0 rfl dL_law_1112 ?_
          refine zv_i2l (pc := 1114) C  dL_law_1114 ?_
          refine zv_lcmp (pc := 1115) C  dL_law_1115 ?_
          refine zv_if_eq (pc := 1116) (tgt := 1121) C dL_law_1116 (by decide) (fun c_25 => ?_) (fun c_25 => ?_)
          · replace hF := And.left hF c_25
            refine zv_goto (pc := 1121) (tgt := 1485) C dL_law_1121 (by decide) ?_
            exact zv_lvs [2, 3, 4, 5, 6] rfl (hK O P0 P1 P2 N T_5 F0 T_6 T_7 T_20 r_8 hF)
          · replace hF := And.right hF c_25
            refine zv_iconst (pc := 1119) (v := 0) C (by decide) dL_law_1119 ?_
            exact (show False from hF).elim
      · replace hF := And.right hF c_23
        refine zv_iconst (pc := 1102) (v := 0) C (by decide) dL_law_1102 ?_
        exact (show False from hF).elim
  · replace hF := And.right hF c_4
    refine zv_iconst (pc := 1050) (v := 1) C (by decide) dL_law_1050 ?_
    refine zv_goto (pc := 1051) (tgt := 1055) C dL_law_1051 (by decide) ?_
    refine zv_aload_n (pc := 1055) C rfl 4 rfl dL_law_1055 ?_
    refine zm_ci (pc := 1056) (ws' := (fun uz : zMem × zMem × zMem × zRowL => (zd_L_law cI cL adO qO3 qO4 qO5 qO6 adP0 qP00 qP01 qP02 qP03 qP04 adP1 qP10 qP11 qP12 qP13 qP14 adP2 qP20 qP21 qP22 qP23 qP24 adN qN0 qN1 qN2 qN3 qN4 qN5 adT qT0 qT1 qT2 qT3 qT4 qT5 qT6 qT7 adF0 qF00 qF01 qF02 qF03 adF1 qF10 qF11 qF12 qF13 adF2 qF20 qF21 qF22 qF23 adM qM1 qM2 qM3 qM4 qM5 qM6 qM7 qM8 qM12 qM13 qM15 qM16 qM17 qM18 qM19 qM20 qM21 qout O P0 P1 P2 N uz.1 F0 uz.2.1 uz.2.2.1 M uz.2.2.2))) C (zm_runW (As := [.ref adO, .int (xs (Int32.toNatClampNeg (i + (1 : Int32)))), .int (xs (Int32.toNatClampNeg (i + (2 : Int32)))), .int (1 : Int32), .ref qout]) (rest := []) C hB hKL hN (zc_L_extreme l hlt G cI cL adO qO3 qO4 qO5 qO6 adP0 qP00 qP01 qP02 qP03 qP04 adP1 qP10 qP11 qP12 qP13 qP14 adT qT0 qT1 qT2 qT3 qT4 qT5 qT6 qT7 adF1 qF10 qF11 qF12 qF13 adF2 qF20 qF21 qF22 qF23 qout adP2 adN adF0 O P0 P1 T F1 F2 out (xs (Int32.toNatClampNeg (i + (1 : Int32)))) (xs (Int32.toNatClampNeg (i + (2 : Int32)))) (1 : Int32) _ hF) (vx_cwSW 5 C.2.2.2.2.1 lwc_L_extreme rfl rfl rfl zy_L_extreme ⟨(Nat.le_of_ble_eq_true rfl), (Nat.le_of_ble_eq_true rfl)⟩) rfl rfl (Nat.le_of_ble_eq_true rfl) ⟨hc, hs⟩ dL_law_1056) [0, 1, 2, 3, 4, 5, 6, 7, 8, 9, 10, 11, 12, 13, 14, 15, 16, 30, 31, 32, 33, 34, 35, 36, 37, 38, 44, 45, 46, 47, 48, 49, 50, 51, 52, 53, 72] [17, 18, 19, 20, 21, 22, 23, 24, 25, 26, 27, 28, 29, 39, 40, 41, 42, 43, 54, 55, 56, 57, 58, 59, 60, 61, 62, 63, 64, 65, 66, 67, 68, 69, 70, 71] rfl rfl rfl rfl rfl (fun _ => rfl) (fun _ => rfl) (fun _ => rfl) (fun v_30 uz hF => ?_)
    obtain ⟨T_26, T_27, T_28, r_29⟩ := uz
    refine zv_istore (pc := 1059) (lv' := [(5, .int v_30), (4, .int i), (0, .ref b), (1, .ref adO), (2, .ref adM), (3, .ref qout)]) C (by decide) rfl dL_law_1059 ?_
    refine zv_aload_n (pc := 1061) C rfl 4 rfl dL_law_1061 ?_
    refine zv_aload_n (pc := 1062) C rfl 2 rfl dL_law_1062 ?_
    refine zv_iload (pc := 1063) C 1 rfl dL_law_1063 ?_
    refine zv_iconst (pc := 1065) (v := 1) C (by decide) dL_law_1065 ?_
    refine zv_iadd (pc := 1066) C  dL_law_1066 ?_
    obtain ⟨h_31, hF⟩ := hF
    refine zl_sld (pc := 1067) C hX hbl hbA h_31 dL_law_1067 ?_
    refine zv_aload_n (pc := 1068) C rfl 2 rfl dL_law_1068 ?_
    refine zv_iload (pc := 1069) C 1 rfl dL_law_1069 ?_
    refine zv_iconst (pc := 1071) (v := 2) C (by decide) dL_law_1071 ?_
    refine zv_iadd (pc := 1072) C  dL_law_1072 ?_
    obtain ⟨h_32, hF⟩ := hF
    refine zl_sld (pc := 1073) C hX hbl hbA h_32 dL_law_1073 ?_
    refine zv_aload_n (pc := 1074) C rfl 2 rfl dL_law_1074 ?_
    refine zv_iload (pc := 1075) C 1 rfl dL_law_1075 ?_
    refine zv_iconst (pc := 1077) (v := 3) C (by decide) dL_law_1077 ?_
    refine zv_iadd (pc := 1078) C  dL_law_1078 ?_
    obtain ⟨h_33, hF⟩ := hF
    refine zl_sld (pc := 1079) C hX hbl hbA h_33 dL_law_1079 ?_
    refine zv_if_eq (pc := 1080) (tgt := 1087) C dL_law_1080 (by decide) (fun c_34 => ?_) (fun c_34 => ?_)
    · replace hF := And.left hF c_34
      refine zv_iconst (pc := 1087) (v := 0) C (by decide) dL_law_1087 ?_
      refine zv_ci0 (pc := 1088) (ws' := (fun uz : zMem => (zd_L_law cI cL adO qO3 qO4 qO5 qO6 adP0 qP00 qP01 qP02 qP03 qP04 adP1 qP10 qP11 qP12 qP13 qP14 adP2 qP20 qP21 qP22 qP23 qP24 adN qN0 qN1 qN2 qN3 qN4 qN5 adT qT0 qT1 qT2 qT3 qT4 qT5 qT6 qT7 adF0 qF00 qF01 qF02 qF03 adF1 qF10 qF11 qF12 qF13 adF2 qF20 qF21 qF22 qF23 adM qM1 qM2 qM3 qM4 qM5 qM6 qM7 qM8 qM12 qM13 qM15 qM16 qM17 qM18 qM19 qM20 qM21 qout O P0 P1 P2 N T_26 F0 T_27 T_28 uz r_29))) C (zv_runV (As := [.int (xs (Int32.toNatClampNeg (i + (1 : Int32)))), .int (xs (Int32.toNatClampNeg (i + (2 : Int32)))), .int (0 : Int32)]) (b := adM) (rest := []) (ci := 5) (q0 := 54) C (zc_X6_extreme l G cI adM qM1 qM2 qM3 qM4 qM5 qM6 qM7 qM8 qM12 qM13 qM15 qM16 qM17 qM18 qM19 qM20 qM21 M (xs (Int32.toNatClampNeg (i + (1 : Int32)))) (xs (Int32.toNatClampNeg (i + (2 : Int32)))) (0 : Int32) _ hF) (cwV 3 C.2.2.2.2.1 lwc_X6_extreme rfl rfl rfl zy_X6_extreme ⟨(Nat.le_of_ble_eq_true rfl), (Nat.le_of_ble_eq_true rfl)⟩) rfl rfl rfl rfl rfl (Nat.le_of_ble_eq_true rfl) ⟨hc, hs⟩ dL_law_1088) [54, 55, 56, 57, 58, 59, 60, 61, 62, 63, 64, 65, 66, 67, 68, 69, 70, 71] [0, 1, 2, 3, 4, 5, 6, 7, 8, 9, 10, 11, 12, 13, 14, 15, 16, 17, 18, 19, 20, 21, 22, 23, 24, 25, 26, 27, 28, 29, 30, 31, 32, 33, 34, 35, 36, 37, 38, 39, 40, 41, 42, 43, 44, 45, 46, 47, 48, 49, 50, 51, 52, 53, 72] rfl rfl rfl rfl rfl (fun _ => rfl) (fun _ => rfl) (fun _ => rfl) (fun v_36 uz hF => ?_)
      obtain ⟨T_35, hE⟩ : ∃ z, z = uz := ⟨_, rfl⟩; subst hE
      refine zv_istore (pc := 1091) (lv' := [(6, .int v_36), (5, .int v_30), (4, .int i), (0, .ref b), (1, .ref adO), (2, .ref adM), (3, .ref qout)]) C (by decide) rfl dL_law_1091 ?_
      refine zv_aload_n (pc := 1093) C rfl 5 rfl dL_law_1093 ?_
      refine zv_ci0 (pc := 1094) (ws' := (fun uz : Unit => (zd_L_law cI cL adO qO3 qO4 qO5 qO6 adP0 qP00 qP01 qP02 qP03 qP04 adP1 qP10 qP11 qP12 qP13 qP14 adP2 qP20 qP21 qP22 qP23 qP24 adN qN0 qN1 qN2 qN3 qN4 qN5 adT qT0 qT1 qT2 qT3 qT4 qT5 qT6 qT7 adF0 qF00 qF01 qF02 qF03 adF1 qF10 qF11 qF12 qF13 adF2 qF20 qF21 qF22 qF23 adM qM1 qM2 qM3 qM4 qM5 qM6 qM7 qM8 qM12 qM13 qM15 qM16 qM17 qM18 qM19 qM20 qM21 qout O P0 P1 P2 N T_26 F0 T_27 T_28 T_35 r_29))) C (zv_runV (As := []) (b := adM) (rest := []) (ci := 5) (q0 := 54) C (zc_X6_thrown l G cI adM qM1 qM2 qM3 qM4 qM5 qM6 qM7 qM8 qM12 qM13 qM15 qM16 qM17 qM18 qM19 qM20 qM21 T_35 _ hF) (cwV 0 C.2.2.2.2.1 lwc_X6_thrown rfl rfl rfl zy_X6_thrown ⟨(Nat.le_of_ble_eq_true rfl), (Nat.le_of_ble_eq_true rfl)⟩) rfl rfl rfl rfl rfl (Nat.le_of_ble_eq_true rfl) ⟨hc, hs⟩ dL_law_1094) [54, 55, 56, 57, 58, 59, 60, 61, 62, 63, 64, 65, 66, 67, 68, 69, 70, 71] [0, 1, 2, 3, 4, 5, 6, 7, 8, 9, 10, 11, 12, 13, 14, 15, 16, 17, 18, 19, 20, 21, 22, 23, 24, 25, 26, 27, 28, 29, 30, 31, 32, 33, 34, 35, 36, 37, 38, 39, 40, 41, 42, 43, 44, 45, 46, 47, 48, 49, 50, 51, 52, 53, 72] rfl rfl rfl rfl rfl (fun _ => rfl) (fun _ => rfl) (fun _ => rfl) (fun v_37 uz hF => ?_)
      refine zv_iload (pc := 1097) C 1 rfl dL_law_1097 ?_
      refine zv_icmp_eq (pc := 1099) (tgt := 1104) C dL_law_1099 (by decide) (fun c_38 => ?_) (fun c_38 => ?_)
      · replace hF := And.left hF c_38
        refine zv_iload (pc := 1104) C 1 rfl dL_law_1104 ?_
        refine zv_if_ne (pc := 1106) (tgt := 1121) C dL_law_1106 (by decide) (fun c_39 => ?_) (fun c_39 => ?_)
        · replace hF := And.left hF c_39
          refine zv_goto (pc := 1121) (tgt := 1485) C dL_law_1121 (by decide) ?_
          exact zv_lvs [2, 3, 4, 5, 6] rfl (hK O P0 P1 P2 N T_26 F0 T_27 T_28 T_35 r_29 hF)
        · replace hF := And.right hF c_39
          refine zv_aload_n (pc := 1109) C rfl 6 rfl dL_law_1109 ?_
          refine zv_iconst (pc := 1110) (v := 0) C (by decide) dL_law_1110 ?_
          refine zl_lald (pc := 1111) (n := 1) (f := r_29) C hKL 72 (vp_in_iff.mpr (by decide)) rfl dL_law_1111 ?_
          refine zv_iload (pc := 1112) C 0 rfl dL_law_1112 ?_
          refine zv_i2l (pc := 1114) C  dL_law_1114 ?_
          refine zv_lcmp (pc := 1115) C  dL_law_1115 ?_
          refine zv_if_eq (pc := 1116) (tgt := 1121) C dL_law_1116 (by decide) (fun c_40 => ?_) (fun c_40 => ?_)
          · replace hF := And.left hF c_40
            refine zv_goto (pc := 1121) (tgt := 1485) C dL_law_1121 (by decide) ?_
            exact zv_lvs [2, 3, 4, 5, 6] rfl (hK O P0 P1 P2 N T_26 F0 T_27 T_28 T_35 r_29 hF)
          · replace hF := And.right hF c_40
            refine zv_iconst (pc := 1119) (v := 0) C (by decide) dL_law_1119 ?_
            exact (show False from hF).elim
      · replace hF := And.right hF c_38
        refine zv_iconst (pc := 1102) (v := 0) C (by decide) dL_law_1102 ?_
        exact (show False from hF).elim
    · replace hF := And.right hF c_34
      refine zv_iconst (pc := 1083) (v := 1) C (by decide) dL_law_1083 ?_
      refine zv_goto (pc := 1084) (tgt := 1088) C dL_law_1084 (by decide) ?_
      refine zv_ci0 (pc := 1088) (ws' := (fun uz : zMem => (zd_L_law cI cL adO qO3 qO4 qO5 qO6 adP0 qP00 qP01 qP02 qP03 qP04 adP1 qP10 qP11 qP12 qP13 qP14 adP2 qP20 qP21 qP22 qP23 qP24 adN qN0 qN1 qN2 qN3 qN4 qN5 adT qT0 qT1 qT2 qT3 qT4 qT5 qT6 qT7 adF0 qF00 qF01 qF02 qF03 adF1 qF10 qF11 qF12 qF13 adF2 qF20 qF21 qF22 qF23 adM qM1 qM2 qM3 qM4 qM5 qM6 qM7 qM8 qM12 qM13 qM15 qM16 qM17 qM18 qM19 qM20 qM21 qout O P0 P1 P2 N T_26 F0 T_27 T_28 uz r_29))) C (zv_runV (As := [.int (xs (Int32.toNatClampNeg (i + (1 : Int32)))), .int (xs (Int32.toNatClampNeg (i + (2 : Int32)))), .int (1 : Int32)]) (b := adM) (rest := []) (ci := 5) (q0 := 54) C (zc_X6_extreme l G cI adM qM1 qM2 qM3 qM4 qM5 qM6 qM7 qM8 qM12 qM13 qM15 qM16 qM17 qM18 qM19 qM20 qM21 M (xs (Int32.toNatClampNeg (i + (1 : Int32)))) (xs (Int32.toNatClampNeg (i + (2 : Int32)))) (1 : Int32) _ hF) (cwV 3 C.2.2.2.2.1 lwc_X6_extreme rfl rfl rfl zy_X6_extreme ⟨(Nat.le_of_ble_eq_true rfl), (Nat.le_of_ble_eq_true rfl)⟩) rfl rfl rfl rfl rfl (Nat.le_of_ble_eq_true rfl) ⟨hc, hs⟩ dL_law_1088) [54, 55, 56, 57, 58, 59, 60, 61, 62, 63, 64, 65, 66, 67, 68, 69, 70, 71] [0, 1, 2, 3, 4, 5, 6, 7, 8, 9, 10, 11, 12, 13, 14, 15, 16, 17, 18, 19, 20, 21, 22, 23, 24, 25, 26, 27, 28, 29, 30, 31, 32, 33, 34, 35, 36, 37, 38, 39, 40, 41, 42, 43, 44, 45, 46, 47, 48, 49, 50, 51, 52, 53, 72] rfl rfl rfl rfl rfl (fun _ => rfl) (fun _ => rfl) (fun _ => rfl) (fun v_42 uz hF => ?_)
      obtain ⟨T_41, hE⟩ : ∃ z, z = uz := ⟨_, rfl⟩; subst hE
      refine zv_istore (pc := 1091) (lv' := [(6, .int v_42), (5, .int v_30), (4, .int i), (0, .ref b), (1, .ref adO), (2, .ref adM), (3, .ref qout)]) C (by decide) rfl dL_law_1091 ?_
      refine zv_aload_n (pc := 1093) C rfl 5 rfl dL_law_1093 ?_
      refine zv_ci0 (pc := 1094) (ws' := (fun uz : Unit => (zd_L_law cI cL adO qO3 qO4 qO5 qO6 adP0 qP00 qP01 qP02 qP03 qP04 adP1 qP10 qP11 qP12 qP13 qP14 adP2 qP20 qP21 qP22 qP23 qP24 adN qN0 qN1 qN2 qN3 qN4 qN5 adT qT0 qT1 qT2 qT3 qT4 qT5 qT6 qT7 adF0 qF00 qF01 qF02 qF03 adF1 qF10 qF11 qF12 qF13 adF2 qF20 qF21 qF22 qF23 adM qM1 qM2 qM3 qM4 qM5 qM6 qM7 qM8 qM12 qM13 qM15 qM16 qM17 qM18 qM19 qM20 qM21 qout O P0 P1 P2 N T_26 F0 T_27 T_28 T_41 r_29))) C (zv_runV (As := []) (b := adM) (rest := []) (ci := 5) (q0 := 54) C (zc_X6_thrown l G cI adM qM1 qM2 qM3 qM4 qM5 qM6 qM7 qM8 qM12 qM13 qM15 qM16 qM17 qM18 qM19 qM20 qM21 T_41 _ hF) (cwV 0 C.2.2.2.2.1 lwc_X6_thrown rfl rfl rfl zy_X6_thrown ⟨(Nat.le_of_ble_eq_true rfl), (Nat.le_of_ble_eq_true rfl)⟩) rfl rfl rfl rfl rfl (Nat.le_of_ble_eq_true rfl) ⟨hc, hs⟩ dL_law_1094) [54, 55, 56, 57, 58, 59, 60, 61, 62, 63, 64, 65, 66, 67, 68, 69, 70, 71] [0, 1, 2, 3, 4, 5, 6, 7, 8, 9, 10, 11, 12, 13, 14, 15, 16, 17, 18, 19, 20, 21, 22, 23, 24, 25, 26, 27, 28, 29, 30, 31, 32, 33, 34, 35, 36, 37, 38, 39, 40, 41, 42, 43, 44, 45, 46, 47, 48, 49, 50, 51, 52, 53, 72] rfl rfl rfl rfl rfl (fun _ => rfl) (fun _ => rfl) (fun _ => rfl) (fun v_43 uz hF => ?_)
      refine zv_iload (pc := 1097) C 1 rfl dL_law_1097 ?_
      refine zv_icmp_eq (pc := 1099) (tgt := 1104) C dL_law_1099 (by decide) (fun c_44 => ?_) (fun c_44 => ?_)
      · replace hF := And.left hF c_44
        refine zv_iload (pc := 1104) C 1 rfl dL_law_1104 ?_
        refine zv_if_ne (pc := 1106) (tgt := 1121) C dL_law_1106 (by decide) (fun c_45 => ?_) (fun c_45 => ?_)
        · replace hF := And.left hF c_45
          refine zv_goto (pc := 1121) (tgt := 1485) C dL_law_1121 (by decide) ?_
          exact zv_lvs [2, 3, 4, 5, 6] rfl (hK O P0 P1 P2 N T_26 F0 T_27 T_28 T_41 r_29 hF)
        · replace hF := And.right hF c_45
          refine zv_aload_n (pc := 1109) C rfl 6 rfl dL_law_1109 ?_
          refine zv_iconst (pc := 1110) (v := 0) C (by decide) dL_law_1110 ?_
          refine zl_lald (pc := 1111) (n := 1) (f := r_29) C hKL 72 (vp_in_iff.mpr (by decide)) rfl dL_law_1111 ?_
          refine zv_iload (pc := 1112) C 0 rfl dL_law_1112 ?_
          refine zv_i2l (pc := 1114) C  dL_law_1114 ?_
          refine zv_lcmp (pc := 1115) C  dL_law_1115 ?_
          refine zv_if_eq (pc := 1116) (tgt := 1121) C dL_law_1116 (by decide) (fun c_46 => ?_) (fun c_46 => ?_)
          · replace hF := And.left hF c_46
            refine zv_goto (pc := 1121) (tgt := 1485) C dL_law_1121 (by decide) ?_
            exact zv_lvs [2, 3, 4, 5, 6] rfl (hK O P0 P1 P2 N T_26 F0 T_27 T_28 T_41 r_29 hF)
          · replace hF := And.right hF c_46
            refine zv_iconst (pc := 1119) (v := 0) C (by decide) dL_law_1119 ?_
            exact (show False from hF).elim
      · replace hF := And.right hF c_44
        refine zv_iconst (pc := 1102) (v := 0) C (by decide) dL_law_1102 ?_
        exact (show False from hF).elim
