set_option maxHeartbeats 40000000 in
set_option maxRecDepth 100000 in
theorem zq_law_1216 {p : Program} {l : Launch} {e : Env} {s : State} {m : MethodId} {args : Array Value} {below : List Frame} {meth : Method} {c : Code} {Q : State → Prop} {G : va_G} {cI cL : ClassId} {A : Nat → Prop} {b L : Nat} {xs : Nat → Int32} {cells slots : Nat} (hlt : l.stackTraces = false) (adO qO3 qO4 qO5 qO6 adP0 qP00 qP01 qP02 qP03 qP04 adP1 qP10 qP11 qP12 qP13 qP14 adP2 qP20 qP21 qP22 qP23 qP24 adN qN0 qN1 qN2 qN3 qN4 qN5 adT qT0 qT1 qT2 qT3 qT4 qT5 qT6 qT7 adF0 qF00 qF01 qF02 qF03 adF1 qF10 qF11 qF12 qF13 adF2 qF20 qF21 qF22 qF23 adM qM1 qM2 qM3 qM4 qM5 qM6 qM7 qM8 qM12 qM13 qM15 qM16 qM17 qM18 qM19 qM20 qM21 qout : Nat) (C : zv_C p s m args c cL_law 7 RL lw_tbl G cI A) (hB : zx_B A s) (hKL : va_K G vwCl [(cL, .long)] s) (hN : zl_B s) (hX : va_X b L xs s s.heap) (hbl : b < s.heap.size) (hbA : ¬ A b) (hc : cells + 1 ≤ room_1.cells) (hs : slots + 6 ≤ room_1.slots) (O : zMem) (P0 : zMem) (P1 : zMem) (P2 : zMem) (N : zMem) (T : zMem) (F0 : zMem) (F1 : zMem) (F2 : zMem) (M : zMem) (out : zRowL) (i : Int32) (K : zMem → zMem → zMem → zMem → zMem → zMem → zMem → zMem → zMem → zMem → zRowL → Prop) (hK : ∀ (O : zMem) (P0 : zMem) (P1 : zMem) (P2 : zMem) (N : zMem) (T : zMem) (F0 : zMem) (F1 : zMem) (F2 : zMem) (M : zMem) (out : zRowL), K O P0 P1 P2 N T F0 F1 F2 M out → zv_V p l e room_1 s m args below meth c Q G A 7 (cells + 1) (slots + 6) (zd_L_law cI cL adO qO3 qO4 qO5 qO6 adP0 qP00 qP01 qP02 qP03 qP04 adP1 qP10 qP11 qP12 qP13 qP14 adP2 qP20 qP21 qP22 qP23 qP24 adN qN0 qN1 qN2 qN3 qN4 qN5 adT qT0 qT1 qT2 qT3 qT4 qT5 qT6 qT7 adF0 qF00 qF01 qF02 qF03 adF1 qF10 qF11 qF12 qF13 adF2 qF20 qF21 qF22 qF23 adM qM1 qM2 qM3 qM4 qM5 qM6 qM7 qM8 qM12 qM13 qM15 qM16 qM17 qM18 qM19 qM20 qM21 qout O P0 P1 P2 N T F0 F1 F2 M out) 1485 [(4, .int i), (0, .ref b), (1, .ref adO), (2, .ref adM), (3, .ref qout)] []) (hF : zw_law_1216 L xs O P0 P1 P2 N T F0 F1 F2 M out i K) : zv_V p l e room_1 s m args below meth c Q G A 7 cells slots (zd_L_law cI cL adO qO3 qO4 qO5 qO6 adP0 qP00 qP01 qP02 qP03 qP04 adP1 qP10 qP11 qP12 qP13 qP14 adP2 qP20 qP21 qP22 qP23 qP24 adN qN0 qN1 qN2 qN3 qN4 qN5 adT qT0 qT1 qT2 qT3 qT4 qT5 qT6 qT7 adF0 qF00 qF01 qF02 qF03 adF1 qF10 qF11 qF12 qF13 adF2 qF20 qF21 qF22 qF23 adM qM1 qM2 qM3 qM4 qM5 qM6 qM7 qM8 qM12 qM13 qM15 qM16 qM17 qM18 qM19 qM20 qM21 qout O P0 P1 P2 N T F0 F1 F2 M out) 1216 [(4, .int i), (0, .ref b), (1, .ref adO), (2, .ref adM), (3, .ref qout)] [] := by
  refine zv_aload_n (pc := 1216) C rfl 2 rfl dL_law_1216 ?_
  refine zv_aload_n (pc := 1217) C rfl 1 rfl dL_law_1217 ?_
  refine zv_iload (pc := 1218) C 0 rfl dL_law_1218 ?_
  refine zv_iconst (pc := 1220) (v := 1) C (by decide) dL_law_1220 ?_
  refine zv_iadd (pc := 1221) C  dL_law_1221 ?_
  obtain ⟨h_1, hF⟩ := hF
  refine zl_sld (pc := 1222) C hX hbl hbA h_1 dL_law_1222 ?_
  refine zv_aload_n (pc := 1223) C rfl 1 rfl dL_law_1223 ?_
  refine zv_iload (pc := 1224) C 0 rfl dL_law_1224 ?_
  refine zv_iconst (pc := 1226) (v := 2) C (by decide) dL_law_1226 ?_
  refine zv_iadd (pc := 1227) C  dL_law_1227 ?_
  obtain ⟨h_2, hF⟩ := hF
  refine zl_sld (pc := 1228) C hX hbl hbA h_2 dL_law_1228 ?_
  refine zv_aload_n (pc := 1229) C rfl 4 rfl dL_law_1229 ?_
  refine zm_ci (pc := 1230) (ws' := (fun uz : zMem × zMem × zMem × zMem × zMem × zMem × zMem × zRowL => (zd_L_law cI cL adO qO3 qO4 qO5 qO6 adP0 qP00 qP01 qP02 qP03 qP04 adP1 qP10 qP11 qP12 qP13 qP14 adP2 qP20 qP21 qP22 qP23 qP24 adN qN0 qN1 qN2 qN3 qN4 qN5 adT qT0 qT1 qT2 qT3 qT4 qT5 qT6 qT7 adF0 qF00 qF01 qF02 qF03 adF1 qF10 qF11 qF12 qF13 adF2 qF20 qF21 qF22 qF23 adM qM1 qM2 qM3 qM4 qM5 qM6 qM7 qM8 qM12 qM13 qM15 qM16 qM17 qM18 qM19 qM20 qM21 qout uz.1 uz.2.1 uz.2.2.1 uz.2.2.2.1 N uz.2.2.2.2.1 F0 uz.2.2.2.2.2.1 uz.2.2.2.2.2.2.1 M uz.2.2.2.2.2.2.2))) C (zm_runW (As := [.ref adO, .int (xs (Int32.toNatClampNeg (i + (1 : Int32)))), .int (xs (Int32.toNatClampNeg (i + (2 : Int32)))), .ref qout]) (rest := []) C hB hKL hN (zc_L_choose l hlt G cI cL adO qO3 qO4 qO5 qO6 adP0 qP00 qP01 qP02 qP03 qP04 adP1 qP10 qP11 qP12 qP13 qP14 adP2 qP20 qP21 qP22 qP23 qP24 adT qT0 qT1 qT2 qT3 qT4 qT5 qT6 qT7 adF1 qF10 qF11 qF12 qF13 adF2 qF20 qF21 qF22 qF23 qout adN adF0 O P0 P1 P2 T F1 F2 out (xs (Int32.toNatClampNeg (i + (1 : Int32)))) (xs (Int32.toNatClampNeg (i + (2 : Int32)))) _ hF) (vx_cwSW 4 C.2.2.2.2.1 lwc_L_choose rfl rfl rfl zy_L_choose ⟨(Nat.le_of_ble_eq_true rfl), (Nat.le_of_ble_eq_true rfl)⟩) rfl rfl (Nat.le_of_ble_eq_true rfl) ⟨hc, hs⟩ dL_law_1230) [0, 1, 2, 3, 4, 5, 6, 7, 8, 9, 10, 11, 12, 13, 14, 15, 16, 17, 18, 19, 20, 21, 22, 30, 31, 32, 33, 34, 35, 36, 37, 38, 44, 45, 46, 47, 48, 49, 50, 51, 52, 53, 72] [23, 24, 25, 26, 27, 28, 29, 39, 40, 41, 42, 43, 54, 55, 56, 57, 58, 59, 60, 61, 62, 63, 64, 65, 66, 67, 68, 69, 70, 71] rfl rfl rfl rfl rfl (fun _ => rfl) (fun _ => rfl) (fun _ => rfl) (fun v_11 uz hF => ?_)
  obtain ⟨T_3, T_4, T_5, T_6, T_7, T_8, T_9, r_10⟩ := uz
  refine zv_istore (pc := 1233) (lv' := [(5, .int v_11), (4, .int i), (0, .ref b), (1, .ref adO), (2, .ref adM), (3, .ref qout)]) C (by decide) rfl dL_law_1233 ?_
  refine zv_aload_n (pc := 1235) C rfl 4 rfl dL_law_1235 ?_
  refine zv_aload_n (pc := 1236) C rfl 2 rfl dL_law_1236 ?_
  refine zv_iload (pc := 1237) C 1 rfl dL_law_1237 ?_
  refine zv_iconst (pc := 1239) (v := 1) C (by decide) dL_law_1239 ?_
  refine zv_iadd (pc := 1240) C  dL_law_1240 ?_
  obtain ⟨h_12, hF⟩ := hF
  refine zl_sld (pc := 1241) C hX hbl hbA h_12 dL_law_1241 ?_
  refine zv_aload_n (pc := 1242) C rfl 2 rfl dL_law_1242 ?_
  refine zv_iload (pc := 1243) C 1 rfl dL_law_1243 ?_
  refine zv_iconst (pc := 1245) (v := 2) C (by decide) dL_law_1245 ?_
  refine zv_iadd (pc := 1246) C  dL_law_1246 ?_
  obtain ⟨h_13, hF⟩ := hF
  refine zl_sld (pc := 1247) C hX hbl hbA h_13 dL_law_1247 ?_
  refine zv_ci0 (pc := 1248) (ws' := (fun uz : zMem => (zd_L_law cI cL adO qO3 qO4 qO5 qO6 adP0 qP00 qP01 qP02 qP03 qP04 adP1 qP10 qP11 qP12 qP13 qP14 adP2 qP20 qP21 qP22 qP23 qP24 adN qN0 qN1 qN2 qN3 qN4 qN5 adT qT0 qT1 qT2 qT3 qT4 qT5 qT6 qT7 adF0 qF00 qF01 qF02 qF03 adF1 qF10 qF11 qF12 qF13 adF2 qF20 qF21 qF22 qF23 adM qM1 qM2 qM3 qM4 qM5 qM6 qM7 qM8 qM12 qM13 qM15 qM16 qM17 qM18 qM19 qM20 qM21 qout T_3 T_4 T_5 T_6 N T_7 F0 T_8 T_9 uz r_10))) C (zv_runV (As := [.int (xs (Int32.toNatClampNeg (i + (1 : Int32)))), .int (xs (Int32.toNatClampNeg (i + (2 : Int32))))]) (b := adM) (rest := []) (ci := 5) (q0 := 54) C (zc_X6_choose l G cI adM qM1 qM2 qM3 qM4 qM5 qM6 qM7 qM8 qM12 qM13 qM15 qM16 qM17 qM18 qM19 qM20 qM21 M (xs (Int32.toNatClampNeg (i + (1 : Int32)))) (xs (Int32.toNatClampNeg (i + (2 : Int32)))) _ hF) (cwV 2 C.2.2.2.2.1 lwc_X6_choose rfl rfl rfl zy_X6_choose ⟨(Nat.le_of_ble_eq_true rfl), (Nat.le_of_ble_eq_true rfl)⟩) rfl rfl rfl rfl rfl (Nat.le_of_ble_eq_true rfl) ⟨hc, hs⟩ dL_law_1248) [54, 55, 56, 57, 58, 59, 60, 61, 62, 63, 64, 65, 66, 67, 68, 69, 70, 71] [0, 1, 2, 3, 4, 5, 6, 7, 8, 9, 10, 11, 12, 13, 14, 15, 16, 17, 18, 19, 20, 21, 22, 23, 24, 25, 26, 27, 28, 29, 30, 31, 32, 33, 34, 35, 36, 37, 38, 39, 40, 41, 42, 43, 44, 45, 46, 47, 48, 49, 50, 51, 52, 53, 72] rfl rfl rfl rfl rfl (fun _ => rfl) (fun _ => rfl) (fun _ => rfl) (fun v_15 uz hF => ?_)
  obtain ⟨T_14, hE⟩ : ∃ z, z = uz := ⟨_, rfl⟩; subst hE
  refine zv_istore (pc := 1251) (lv' := [(6, .int v_15), (5, .int v_11), (4, .int i), (0, .ref b), (1, .ref adO), (2, .ref adM), (3, .ref qout)]) C (by decide) rfl dL_law_1251 ?_
  refine zv_aload_n (pc := 1253) C rfl 5 rfl dL_law_1253 ?_
  refine zv_ci0 (pc := 1254) (ws' := (fun uz : Unit => (zd_L_law cI cL adO qO3 qO4 qO5 qO6 adP0 qP00 qP01 qP02 qP03 qP04 adP1 qP10 qP11 qP12 qP13 qP14 adP2 qP20 qP21 qP22 qP23 qP24 adN qN0 qN1 qN2 qN3 qN4 qN5 adT qT0 qT1 qT2 qT3 qT4 qT5 qT6 qT7 adF0 qF00 qF01 qF02 qF03 adF1 qF10 qF11 qF12 qF13 adF2 qF20 qF21 qF22 qF23 adM qM1 qM2 qM3 qM4 qM5 qM6 qM7 qM8 qM12 qM13 qM15 qM16 qM17 qM18 qM19 qM20 qM21 qout T_3 T_4 T_5 T_6 N T_7 F0 T_8 T_9 T_14 r_10))) C (zv_runV (As := []) (b := adM) (rest := []) (ci := 5) (q0 := 54) C (zc_X6_thrown l G cI adM qM1 qM2 qM3 qM4 qM5 qM6 qM7 qM8 qM12 qM13 qM15 qM16 qM17 qM18 qM19 qM20 qM21 T_14 _ hF) (cwV 0 C.2.2.2.2.1 lwc_X6_thrown rfl rfl rfl zy_X6_thrown ⟨(Nat.le_of_ble_eq_true rfl), (Nat.le_of_ble_eq_true rfl)⟩) rfl rfl rfl rfl rfl (Nat.le_of_ble_eq_true rfl) ⟨hc, hs⟩ dL_law_1254) [54, 55, 56, 57, 58, 59, 60, 61, 62, 63, 64, 65, 66, 67, 68, 69, 70, 71] [0, 1, 2, 3, 4, 5, 6, 7, 8, 9, 10, 11, 12, 13, 14, 15, 16, 17, 18, 19, 20, 21, 22, 23, 24, 25, 26, 27, 28, 29, 30, 31, 32, 33, 34, 35, 36, 37, 38, 39, 40, 41, 42, 43, 44, 45, 46, 47, 48, 49, 50, 51, 52, 53, 72] rfl rfl rfl rfl rfl (fun _ => rfl) (fun _ => rfl) (fun _ => rfl) (fun v_16 uz hF => ?_)
  refine zv_iload (pc := 1257) C 1 rfl dL_law_1257 ?_
  refine zv_icmp_eq (pc := 1259) (tgt := 1264) C dL_law_1259 (by decide) (fun c_17 => ?_) (fun c_17 => ?_)
  · replace hF := And.left hF c_17
    refine zv_iload (pc := 1264) C 1 rfl dL_law_1264 ?_
    refine zv_if_ne (pc := 1266) (tgt := 1281) C dL_law_1266 (by decide) (fun c_18 => ?_) (fun c_18 => ?_)
    · replace hF := And.left hF c_18
      refine zv_goto (pc := 1281) (tgt := 1485) C dL_law_1281 (by decide) ?_
      exact zv_lvs [2, 3, 4, 5, 6] rfl (hK T_3 T_4 T_5 T_6 N T_7 F0 T_8 T_9 T_14 r_10 hF)
    · replace hF := And.right hF c_18
      refine zv_aload_n (pc := 1269) C rfl 6 rfl dL_law_1269 ?_
      refine zv_iconst (pc := 1270) (v := 0) C (by decide) dL_law_1270 ?_
      refine zl_lald (pc := 1271) (n := 1) (f := r_10) C hKL 72 (vp_in_iff.mpr (by decide)) rfl dL_law_1271 ?_
      refine zv_iload (pc := 1272) C 0 rfl dL_law_1272 ?_
      refine zv_i2l (pc := 1274) C  dL_law_1274 ?_
      refine zv_lcmp (pc := 1275) C  dL_law_1275 ?_
      refine zv_if_eq (pc := 1276) (tgt := 1281) C dL_law_1276 (by decide) (fun c_19 => ?_) (fun c_19 => ?_)
      · replace hF := And.left hF c_19
        refine zv_goto (pc := 1281) (tgt := 1485) C dL_law_1281 (by decide) ?_
        exact zv_lvs [2, 3, 4, 5, 6] rfl (hK T_3 T_4 T_5 T_6 N T_7 F0 T_8 T_9 T_14 r_10 hF)
      · replace hF := And.right hF c_19
        refine zv_iconst (pc := 1279) (v := 0) C (by decide) dL_law_1279 ?_
        exact (show False from hF).elim
  · replace hF := And.right hF c_17
    refine zv_iconst (pc := 1262) (v := 0) C (by decide) dL_law_1262 ?_
    exact (show False from hF).elim
