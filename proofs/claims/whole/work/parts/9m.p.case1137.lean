set_option maxHeartbeats 40000000 in
set_option maxRecDepth 100000 in
theorem zq_law_1137 {p : Program} {l : Launch} {e : Env} {s : State} {m : MethodId} {args : Array Value} {below : List Frame} {meth : Method} {c : Code} {Q : State → Prop} {G : va_G} {cI cL : ClassId} {A : Nat → Prop} {b L : Nat} {xs : Nat → Int32} {cells slots : Nat} (hlt : l.stackTraces = false) (adO qO3 qO4 qO5 qO6 adP0 qP00 qP01 qP02 qP03 qP04 adP1 qP10 qP11 qP12 qP13 qP14 adP2 qP20 qP21 qP22 qP23 qP24 adN qN0 qN1 qN2 qN3 qN4 qN5 adT qT0 qT1 qT2 qT3 qT4 qT5 qT6 qT7 adF0 qF00 qF01 qF02 qF03 adF1 qF10 qF11 qF12 qF13 adF2 qF20 qF21 qF22 qF23 adM qM1 qM2 qM3 qM4 qM5 qM6 qM7 qM8 qM12 qM13 qM15 qM16 qM17 qM18 qM19 qM20 qM21 qout : Nat) (C : zv_C p s m args c cL_law 7 RL lw_tbl G cI A) (hB : zx_B A s) (hKL : va_K G vwCl [(cL, .long)] s) (hN : zl_B s) (hX : va_X b L xs s s.heap) (hbl : b < s.heap.size) (hbA : ¬ A b) (hc : cells + 1 ≤ room_1.cells) (hs : slots + 6 ≤ room_1.slots) (O : zMem) (P0 : zMem) (P1 : zMem) (P2 : zMem) (N : zMem) (T : zMem) (F0 : zMem) (F1 : zMem) (F2 : zMem) (M : zMem) (out : zRowL) (i : Int32) (K : zMem → zMem → zMem → zMem → zMem → zMem → zMem → zMem → zMem → zMem → zRowL → Prop) (hK : ∀ (O : zMem) (P0 : zMem) (P1 : zMem) (P2 : zMem) (N : zMem) (T : zMem) (F0 : zMem) (F1 : zMem) (F2 : zMem) (M : zMem) (out : zRowL), K O P0 P1 P2 N T F0 F1 F2 M out → zv_V p l e room_1 s m args below meth c Q G A 7 (cells + 1) (slots + 6) (zd_L_law cI cL adO qO3 qO4 qO5 qO6 adP0 qP00 qP01 qP02 qP03 qP04 adP1 qP10 qP11 qP12 qP13 qP14 adP2 qP20 qP21 qP22 qP23 qP24 adN qN0 qN1 qN2 qN3 qN4 qN5 adT qT0 qT1 qT2 qT3 qT4 qT5 qT6 qT7 adF0 qF00 qF01 qF02 qF03 adF1 qF10 qF11 qF12 qF13 adF2 qF20 qF21 qF22 qF23 adM qM1 qM2 qM3 qM4 qM5 qM6 qM7 qM8 qM12 qM13 qM15 qM16 qM17 qM18 qM19 qM20 qM21 qout O P0 P1 P2 N T F0 F1 F2 M out) 1485 [(4, .int i), (0, .ref b), (1, .ref adO), (2, .ref adM), (3, .ref qout)] []) (hF : zw_law_1137 L xs O P0 P1 P2 N T F0 F1 F2 M out i K) : zv_V p l e room_1 s m args below meth c Q G A 7 cells slots (zd_L_law cI cL adO qO3 qO4 qO5 qO6 adP0 qP00 qP01 qP02 qP03 qP04 adP1 qP10 qP11 qP12 qP13 qP14 adP2 qP20 qP21 qP22 qP23 qP24 adN qN0 qN1 qN2 qN3 qN4 qN5 adT qT0 qT1 qT2 qT3 qT4 qT5 qT6 qT7 adF0 qF00 qF01 qF02 qF03 adF1 qF10 qF11 qF12 qF13 adF2 qF20 qF21 qF22 qF23 adM qM1 qM2 qM3 qM4 qM5 qM6 qM7 qM8 qM12 qM13 qM15 qM16 qM17 qM18 qM19 qM20 qM21 qout O P0 P1 P2 N T F0 F1 F2 M out) 1137 [(4, .int i), (0, .ref b), (1, .ref adO), (2, .ref adM), (3, .ref qout)] [] := by
  refine zv_aload_n (pc := 1137) C rfl 2 rfl dL_law_1137 ?_
  refine zv_aload_n (pc := 1138) C rfl 1 rfl dL_law_1138 ?_
  refine zv_iload (pc := 1139) C 0 rfl dL_law_1139 ?_
  refine zv_iconst (pc := 1141) (v := 1) C (by decide) dL_law_1141 ?_
  refine zv_iadd (pc := 1142) C  dL_law_1142 ?_
  obtain ⟨h_1, hF⟩ := hF
  refine zl_sld (pc := 1143) C hX hbl hbA h_1 dL_law_1143 ?_
  refine zv_aload_n (pc := 1144) C rfl 1 rfl dL_law_1144 ?_
  refine zv_iload (pc := 1145) C 0 rfl dL_law_1145 ?_
  refine zv_iconst (pc := 1147) (v := 2) C (by decide) dL_law_1147 ?_
  refine zv_iadd (pc := 1148) C  dL_law_1148 ?_
  obtain ⟨h_2, hF⟩ := hF
  refine zl_sld (pc := 1149) C hX hbl hbA h_2 dL_law_1149 ?_
  refine zv_aload_n (pc := 1150) C rfl 4 rfl dL_law_1150 ?_
  refine zm_ci (pc := 1151) (ws' := (fun uz : zMem × zRowL => (zd_L_law cI cL adO qO3 qO4 qO5 qO6 adP0 qP00 qP01 qP02 qP03 qP04 adP1 qP10 qP11 qP12 qP13 qP14 adP2 qP20 qP21 qP22 qP23 qP24 adN qN0 qN1 qN2 qN3 qN4 qN5 adT qT0 qT1 qT2 qT3 qT4 qT5 qT6 qT7 adF0 qF00 qF01 qF02 qF03 adF1 qF10 qF11 qF12 qF13 adF2 qF20 qF21 qF22 qF23 adM qM1 qM2 qM3 qM4 qM5 qM6 qM7 qM8 qM12 qM13 qM15 qM16 qM17 qM18 qM19 qM20 qM21 qout uz.1 P0 P1 P2 N T F0 F1 F2 M uz.2))) C (zm_runW (As := [.ref adO, .int (xs (Int32.toNatClampNeg (i + (1 : Int32)))), .int (xs (Int32.toNatClampNeg (i + (2 : Int32)))), .ref qout]) (rest := []) C hB hKL hN (zc_L_list l hlt G cI cL adO qO3 qO4 qO5 qO6 qout adP0 adP1 adP2 adN adT adF0 adF1 adF2 O out (xs (Int32.toNatClampNeg (i + (1 : Int32)))) (xs (Int32.toNatClampNeg (i + (2 : Int32)))) _ hF) (vx_cwSW 4 C.2.2.2.2.1 lwc_L_list rfl rfl rfl zy_L_list ⟨(Nat.le_of_ble_eq_true rfl), (Nat.le_of_ble_eq_true rfl)⟩) rfl rfl (Nat.le_of_ble_eq_true rfl) ⟨hc, hs⟩ dL_law_1151) [0, 1, 2, 3, 4, 72] [5, 6, 7, 8, 9, 10, 11, 12, 13, 14, 15, 16, 17, 18, 19, 20, 21, 22, 23, 24, 25, 26, 27, 28, 29, 30, 31, 32, 33, 34, 35, 36, 37, 38, 39, 40, 41, 42, 43, 44, 45, 46, 47, 48, 49, 50, 51, 52, 53, 54, 55, 56, 57, 58, 59, 60, 61, 62, 63, 64, 65, 66, 67, 68, 69, 70, 71] rfl rfl rfl rfl rfl (fun _ => rfl) (fun _ => rfl) (fun _ => rfl) (fun v_5 uz hF => ?_)
  obtain ⟨T_3, r_4⟩ := uz
  refine zv_istore (pc := 1154) (lv' := [(5, .int v_5), (4, .int i), (0, .ref b), (1, .ref adO), (2, .ref adM), (3, .ref qout)]) C (by decide) rfl dL_law_1154 ?_
  refine zv_aload_n (pc := 1156) C rfl 4 rfl dL_law_1156 ?_
  refine zv_aload_n (pc := 1157) C rfl 2 rfl dL_law_1157 ?_
  refine zv_iload (pc := 1158) C 1 rfl dL_law_1158 ?_
  refine zv_iconst (pc := 1160) (v := 1) C (by decide) dL_law_1160 ?_
  refine zv_iadd (pc := 1161) C  dL_law_1161 ?_
  obtain ⟨h_6, hF⟩ := hF
  refine zl_sld (pc := 1162) C hX hbl hbA h_6 dL_law_1162 ?_
  refine zv_aload_n (pc := 1163) C rfl 2 rfl dL_law_1163 ?_
  refine zv_iload (pc := 1164) C 1 rfl dL_law_1164 ?_
  refine zv_iconst (pc := 1166) (v := 2) C (by decide) dL_law_1166 ?_
  refine zv_iadd (pc := 1167) C  dL_law_1167 ?_
  obtain ⟨h_7, hF⟩ := hF
  refine zl_sld (pc := 1168) C hX hbl hbA h_7 dL_law_1168 ?_
  refine zv_ci0 (pc := 1169) (ws' := (fun uz : zMem => (zd_L_law cI cL adO qO3 qO4 qO5 qO6 adP0 qP00 qP01 qP02 qP03 qP04 adP1 qP10 qP11 qP12 qP13 qP14 adP2 qP20 qP21 qP22 qP23 qP24 adN qN0 qN1 qN2 qN3 qN4 qN5 adT qT0 qT1 qT2 qT3 qT4 qT5 qT6 qT7 adF0 qF00 qF01 qF02 qF03 adF1 qF10 qF11 qF12 qF13 adF2 qF20 qF21 qF22 qF23 adM qM1 qM2 qM3 qM4 qM5 qM6 qM7 qM8 qM12 qM13 qM15 qM16 qM17 qM18 qM19 qM20 qM21 qout T_3 P0 P1 P2 N T F0 F1 F2 uz r_4))) C (zv_runV (As := [.int (xs (Int32.toNatClampNeg (i + (1 : Int32)))), .int (xs (Int32.toNatClampNeg (i + (2 : Int32))))]) (b := adM) (rest := []) (ci := 5) (q0 := 54) C (zc_X6_list l G cI adM qM1 qM2 qM3 qM4 qM5 qM6 qM7 qM8 qM12 qM13 qM15 qM16 qM17 qM18 qM19 qM20 qM21 M (xs (Int32.toNatClampNeg (i + (1 : Int32)))) (xs (Int32.toNatClampNeg (i + (2 : Int32)))) _ hF) (cwV 2 C.2.2.2.2.1 lwc_X6_list rfl rfl rfl zy_X6_list ⟨(Nat.le_of_ble_eq_true rfl), (Nat.le_of_ble_eq_true rfl)⟩) rfl rfl rfl rfl rfl (Nat.le_of_ble_eq_true rfl) ⟨hc, hs⟩ dL_law_1169) [54, 55, 56, 57, 58, 59, 60, 61, 62, 63, 64, 65, 66, 67, 68, 69, 70, 71] [0, 1, 2, 3, 4, 5, 6, 7, 8, 9, 10, 11, 12, 13, 14, 15, 16, 17, 18, 19, 20, 21, 22, 23, 24, 25, 26, 27, 28, 29, 30, 31, 32, 33, 34, 35, 36, 37, 38, 39, 40, 41, 42, 43, 44, 45, 46, 47, 48, 49, 50, 51, 52, 53, 72] rfl rfl rfl rfl rfl (fun _ => rfl) (fun _ => rfl) (fun _ => rfl) (fun v_9 uz hF => ?_)
  obtain ⟨T_8, hE⟩ : ∃ z, z = uz := ⟨_, rfl⟩; subst hE
  refine zv_istore (pc := 1172) (lv' := [(6, .int v_9), (5, .int v_5), (4, .int i), (0, .ref b), (1, .ref adO), (2, .ref adM), (3, .ref qout)]) C (by decide) rfl dL_law_1172 ?_
  refine zv_aload_n (pc := 1174) C rfl 5 rfl dL_law_1174 ?_
  refine zv_ci0 (pc := 1175) (ws' := (fun uz : Unit => (zd_L_law cI cL adO qO3 qO4 qO5 qO6 adP0 qP00 qP01 qP02 qP03 qP04 adP1 qP10 qP11 qP12 qP13 qP14 adP2 qP20 qP21 qP22 qP23 qP24 adN qN0 qN1 qN2 qN3 qN4 qN5 adT qT0 qT1 qT2 qT3 qT4 qT5 qT6 qT7 adF0 qF00 qF01 qF02 qF03 adF1 qF10 qF11 qF12 qF13 adF2 qF20 qF21 qF22 qF23 adM qM1 qM2 qM3 qM4 qM5 qM6 qM7 qM8 qM12 qM13 qM15 qM16 qM17 qM18 qM19 qM20 qM21 qout T_3 P0 P1 P2 N T F0 F1 F2 T_8 r_4))) C (zv_runV (As := []) (b := adM) (rest := []) (ci := 5) (q0 := 54) C (zc_X6_thrown l G cI adM qM1 qM2 qM3 qM4 qM5 qM6 qM7 qM8 qM12 qM13 qM15 qM16 qM17 qM18 qM19 qM20 qM21 T_8 _ hF) (cwV 0 C.2.2.2.2.1 lwc_X6_thrown rfl rfl rfl zy_X6_thrown ⟨(Nat.le_of_ble_eq_true rfl), (Nat.le_of_ble_eq_true rfl)⟩) rfl rfl rfl rfl rfl (Nat.le_of_ble_eq_true rfl) ⟨hc, hs⟩ dL_law_1175) [54, 55, 56, 57, 58, 59, 60, 61, 62, 63, 64, 65, 66, 67, 68, 69, 70, 71] [0, 1, 2, 3, 4, 5, 6, 7, 8, 9, 10, 11, 12, 13, 14, 15, 16, 17, 18, 19, 20, 21, 22, 23, 24, 25, 26, 27, 28, 29, 30, 31, 32, 33, 34, 35, 36, 37, 38, 39, 40, 41, 42, 43, 44, 45, 46, 47, 48, 49, 50, 51, 52, 53, 72] rfl rfl rfl rfl rfl (fun _ => rfl) (fun _ => rfl) (fun _ => rfl) (fun v_10 uz hF => ?_)
  refine zv_iload (pc := 1178) C 1 rfl dL_law_1178 ?_
  refine zv_icmp_eq (pc := 1180) (tgt := 1185) C dL_law_1180 (by decide) (fun c_11 => ?_) (fun c_11 => ?_)
  · replace hF := And.left hF c_11
    refine zv_iload (pc := 1185) C 1 rfl dL_law_1185 ?_
    refine zv_if_ne (pc := 1187) (tgt := 1202) C dL_law_1187 (by decide) (fun c_12 => ?_) (fun c_12 => ?_)
    · replace hF := And.left hF c_12
      refine zv_goto (pc := 1202) (tgt := 1485) C dL_law_1202 (by decide) ?_
      exact zv_lvs [2, 3, 4, 5, 6] rfl (hK T_3 P0 P1 P2 N T F0 F1 F2 T_8 r_4 hF)
    · replace hF := And.right hF c_12
      refine zv_aload_n (pc := 1190) C rfl 6 rfl dL_law_1190 ?_
      refine zv_iconst (pc := 1191) (v := 0) C (by decide) dL_law_1191 ?_
      refine zl_lald (pc := 1192) (n := 1) (f := r_4) C hKL 72 (vp_in_iff.mpr (by decide)) rfl dL_law_1192 ?_
      refine zv_iload (pc := 1193) C 0 rfl dL_law_1193 ?_
      refine zv_i2l (pc := 1195) C  dL_law_1195 ?_
      refine zv_lcmp (pc := 1196) C  dL_law_1196 ?_
      refine zv_if_eq (pc := 1197) (tgt := 1202) C dL_law_1197 (by decide) (fun c_13 => ?_) (fun c_13 => ?_)
      · replace hF := And.left hF c_13
        refine zv_goto (pc := 1202) (tgt := 1485) C dL_law_1202 (by decide) ?_
        exact zv_lvs [2, 3, 4, 5, 6] rfl (hK T_3 P0 P1 P2 N T F0 F1 F2 T_8 r_4 hF)
      · replace hF := And.right hF c_13
        refine zv_iconst (pc := 1200) (v := 0) C (by decide) dL_law_1200 ?_
        exact (show False from hF).elim
  · replace hF := And.right hF c_11
    refine zv_iconst (pc := 1183) (v := 0) C (by decide) dL_law_1183 ?_
    exact (show False from hF).elim
