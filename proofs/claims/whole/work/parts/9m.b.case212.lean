set_option maxHeartbeats 4000000 in
set_option maxRecDepth 100000 in
theorem zq_law_212 {p : Program} {l : Launch} {e : Env} {s : State} {m : MethodId} {args : Array Value} {below : List Frame} {meth : Method} {c : Code} {Q : State → Prop} {G : va_G} {cI cL : ClassId} {A : Nat → Prop} {b L : Nat} {xs : Nat → Int32} {cells slots : Nat} (hlt : l.stackTraces = false) (adO qO3 qO4 qO5 qO6 adP0 qP00 qP01 qP02 qP03 qP04 adP1 qP10 qP11 qP12 qP13 qP14 adP2 qP20 qP21 qP22 qP23 qP24 adN qN0 qN1 qN2 qN3 qN4 qN5 adT qT0 qT1 qT2 qT3 qT4 qT5 qT6 qT7 adF0 qF00 qF01 qF02 qF03 adF1 qF10 qF11 qF12 qF13 adF2 qF20 qF21 qF22 qF23 adM qM1 qM2 qM3 qM4 qM5 qM6 qM7 qM8 qM12 qM13 qM15 qM16 qM17 qM18 qM19 qM20 qM21 qout : Nat) (C : zv_C p s m args c cL_law 7 RL lw_tbl G cI A) (hB : zx_B A s) (hKL : va_K G vwCl [(cL, .long)] s) (hN : zl_B s) (hX : va_X b L xs s s.heap) (hbl : b < s.heap.size) (hbA : ¬ A b) (hc : cells + 1 ≤ room_1.cells) (hs : slots + 6 ≤ room_1.slots) (O : zMem) (P0 : zMem) (P1 : zMem) (P2 : zMem) (N : zMem) (T : zMem) (F0 : zMem) (F1 : zMem) (F2 : zMem) (M : zMem) (out : zRowL) (i : Int32) (K : zMem → zMem → zMem → zMem → zMem → zMem → zMem → zMem → zMem → zMem → zRowL → Prop) (hK : ∀ (O : zMem) (P0 : zMem) (P1 : zMem) (P2 : zMem) (N : zMem) (T : zMem) (F0 : zMem) (F1 : zMem) (F2 : zMem) (M : zMem) (out : zRowL), K O P0 P1 P2 N T F0 F1 F2 M out → zv_V p l e room_1 s m args below meth c Q G A 7 (cells + 1) (slots + 6) (zd_L_law cI cL adO qO3 qO4 qO5 qO6 adP0 qP00 qP01 qP02 qP03 qP04 adP1 qP10 qP11 qP12 qP13 qP14 adP2 qP20 qP21 qP22 qP23 qP24 adN qN0 qN1 qN2 qN3 qN4 qN5 adT qT0 qT1 qT2 qT3 qT4 qT5 qT6 qT7 adF0 qF00 qF01 qF02 qF03 adF1 qF10 qF11 qF12 qF13 adF2 qF20 qF21 qF22 qF23 adM qM1 qM2 qM3 qM4 qM5 qM6 qM7 qM8 qM12 qM13 qM15 qM16 qM17 qM18 qM19 qM20 qM21 qout O P0 P1 P2 N T F0 F1 F2 M out) 1485 [(4, .int i), (0, .ref b), (1, .ref adO), (2, .ref adM), (3, .ref qout)] []) (hF : zw_law_212 L xs O P0 P1 P2 N T F0 F1 F2 M out i K) : zv_V p l e room_1 s m args below meth c Q G A 7 cells slots (zd_L_law cI cL adO qO3 qO4 qO5 qO6 adP0 qP00 qP01 qP02 qP03 qP04 adP1 qP10 qP11 qP12 qP13 qP14 adP2 qP20 qP21 qP22 qP23 qP24 adN qN0 qN1 qN2 qN3 qN4 qN5 adT qT0 qT1 qT2 qT3 qT4 qT5 qT6 qT7 adF0 qF00 qF01 qF02 qF03 adF1 qF10 qF11 qF12 qF13 adF2 qF20 qF21 qF22 qF23 adM qM1 qM2 qM3 qM4 qM5 qM6 qM7 qM8 qM12 qM13 qM15 qM16 qM17 qM18 qM19 qM20 qM21 qout O P0 P1 P2 N T F0 F1 F2 M out) 212 [(4, .int i), (0, .ref b), (1, .ref adO), (2, .ref adM), (3, .ref qout)] [] := by
  refine zv_aload_n (pc := 212) C rfl 2 rfl dL_law_212 ?_
  refine zv_aload_n (pc := 213) C rfl 1 rfl dL_law_213 ?_
  refine zv_iload (pc := 214) C 0 rfl dL_law_214 ?_
  refine zv_iconst (pc := 216) (v := 1) C (by decide) dL_law_216 ?_
  refine zv_iadd (pc := 217) C  dL_law_217 ?_
  obtain ⟨h_1, hF⟩ := hF
  refine zl_sld (pc := 218) C hX hbl hbA h_1 dL_law_218 ?_
  refine zv_aload_n (pc := 219) C rfl 1 rfl dL_law_219 ?_
  refine zv_iload (pc := 220) C 0 rfl dL_law_220 ?_
  refine zv_iconst (pc := 222) (v := 2) C (by decide) dL_law_222 ?_
  refine zv_iadd (pc := 223) C  dL_law_223 ?_
  obtain ⟨h_2, hF⟩ := hF
  refine zl_sld (pc := 224) C hX hbl hbA h_2 dL_law_224 ?_
  refine zv_aload_n (pc := 225) C rfl 1 rfl dL_law_225 ?_
  refine zv_iload (pc := 226) C 0 rfl dL_law_226 ?_
  refine zv_iconst (pc := 228) (v := 3) C (by decide) dL_law_228 ?_
  refine zv_iadd (pc := 229) C  dL_law_229 ?_
  obtain ⟨h_3, hF⟩ := hF
  refine zl_sld (pc := 230) C hX hbl hbA h_3 dL_law_230 ?_
  refine zv_aload_n (pc := 231) C rfl 1 rfl dL_law_231 ?_
  refine zv_iload (pc := 232) C 0 rfl dL_law_232 ?_
  refine zv_iconst (pc := 234) (v := 4) C (by decide) dL_law_234 ?_
  refine zv_iadd (pc := 235) C  dL_law_235 ?_
  obtain ⟨h_4, hF⟩ := hF
  refine zl_sld (pc := 236) C hX hbl hbA h_4 dL_law_236 ?_
  refine zv_aload_n (pc := 237) C rfl 1 rfl dL_law_237 ?_
  refine zv_iload (pc := 238) C 0 rfl dL_law_238 ?_
  refine zv_iconst (pc := 240) (v := 5) C (by decide) dL_law_240 ?_
  refine zv_iadd (pc := 241) C  dL_law_241 ?_
  obtain ⟨h_5, hF⟩ := hF
  refine zl_sld (pc := 242) C hX hbl hbA h_5 dL_law_242 ?_
  refine zv_aload_n (pc := 243) C rfl 4 rfl dL_law_243 ?_
  refine zm_ci (pc := 244) (ws' := (fun uz : zMem × zMem × zRowL => (zd_L_law cI cL adO qO3 qO4 qO5 qO6 adP0 qP00 qP01 qP02 qP03 qP04 adP1 qP10 qP11 qP12 qP13 qP14 adP2 qP20 qP21 qP22 qP23 qP24 adN qN0 qN1 qN2 qN3 qN4 qN5 adT qT0 qT1 qT2 qT3 qT4 qT5 qT6 qT7 adF0 qF00 qF01 qF02 qF03 adF1 qF10 qF11 qF12 qF13 adF2 qF20 qF21 qF22 qF23 adM qM1 qM2 qM3 qM4 qM5 qM6 qM7 qM8 qM12 qM13 qM15 qM16 qM17 qM18 qM19 qM20 qM21 qout O uz.1 uz.2.1 P2 N T F0 F1 F2 M uz.2.2))) C (zm_runW (As := [.ref adO, .int (xs (Int32.toNatClampNeg (i + (1 : Int32)))), .int (xs (Int32.toNatClampNeg (i + (2 : Int32)))), .int (xs (Int32.toNatClampNeg (i + (3 : Int32)))), .int (xs (Int32.toNatClampNeg (i + (4 : Int32)))), .int (xs (Int32.toNatClampNeg (i + (5 : Int32)))), .ref qout]) (rest := []) C hB hKL hN (zc_L_layer l hlt G cI cL adO qO3 qO4 qO5 qO6 adP0 qP00 qP01 qP02 qP03 qP04 adP1 qP10 qP11 qP12 qP13 qP14 qout adP2 adN adT adF0 adF1 adF2 O P0 P1 out (xs (Int32.toNatClampNeg (i + (1 : Int32)))) (xs (Int32.toNatClampNeg (i + (2 : Int32)))) (xs (Int32.toNatClampNeg (i + (3 : Int32)))) (xs (Int32.toNatClampNeg (i + (4 : Int32)))) (xs (Int32.toNatClampNeg (i + (5 : Int32)))) _ hF) (vx_cwSW 7 C.2.2.2.2.1 lwc_L_layer rfl rfl rfl zy_L_layer ⟨(Nat.le_of_ble_eq_true rfl), (Nat.le_of_ble_eq_true rfl)⟩) rfl rfl (Nat.le_of_ble_eq_true rfl) ⟨hc, hs⟩ dL_law_244) [0, 1, 2, 3, 4, 5, 6, 7, 8, 9, 10, 11, 12, 13, 14, 15, 16, 72] [17, 18, 19, 20, 21, 22, 23, 24, 25, 26, 27, 28, 29, 30, 31, 32, 33, 34, 35, 36, 37, 38, 39, 40, 41, 42, 43, 44, 45, 46, 47, 48, 49, 50, 51, 52, 53, 54, 55, 56, 57, 58, 59, 60, 61, 62, 63, 64, 65, 66, 67, 68, 69, 70, 71] rfl rfl rfl rfl rfl (fun _ => rfl) (fun _ => rfl) (fun _ => rfl) (fun v_9 uz hF => ?_)
  obtain ⟨T_6, T_7, r_8⟩ := uz
  refine zv_istore (pc := 247) (lv' := [(5, .int v_9), (4, .int i), (0, .ref b), (1, .ref adO), (2, .ref adM), (3, .ref qout)]) C (by decide) rfl dL_law_247 ?_
  refine zv_aload_n (pc := 249) C rfl 4 rfl dL_law_249 ?_
  refine zv_aload_n (pc := 250) C rfl 2 rfl dL_law_250 ?_
  refine zv_iload (pc := 251) C 1 rfl dL_law_251 ?_
  refine zv_iconst (pc := 253) (v := 1) C (by decide) dL_law_253 ?_
  refine zv_iadd (pc := 254) C  dL_law_254 ?_
  obtain ⟨h_10, hF⟩ := hF
  refine zl_sld (pc := 255) C hX hbl hbA h_10 dL_law_255 ?_
  refine zv_aload_n (pc := 256) C rfl 2 rfl dL_law_256 ?_
  refine zv_iload (pc := 257) C 1 rfl dL_law_257 ?_
  refine zv_iconst (pc := 259) (v := 2) C (by decide) dL_law_259 ?_
  refine zv_iadd (pc := 260) C  dL_law_260 ?_
  obtain ⟨h_11, hF⟩ := hF
  refine zl_sld (pc := 261) C hX hbl hbA h_11 dL_law_261 ?_
  refine zv_aload_n (pc := 262) C rfl 2 rfl dL_law_262 ?_
  refine zv_iload (pc := 263) C 1 rfl dL_law_263 ?_
  refine zv_iconst (pc := 265) (v := 3) C (by decide) dL_law_265 ?_
  refine zv_iadd (pc := 266) C  dL_law_266 ?_
  obtain ⟨h_12, hF⟩ := hF
  refine zl_sld (pc := 267) C hX hbl hbA h_12 dL_law_267 ?_
  refine zv_aload_n (pc := 268) C rfl 2 rfl dL_law_268 ?_
  refine zv_iload (pc := 269) C 1 rfl dL_law_269 ?_
  refine zv_iconst (pc := 271) (v := 4) C (by decide) dL_law_271 ?_
  refine zv_iadd (pc := 272) C  dL_law_272 ?_
  obtain ⟨h_13, hF⟩ := hF
  refine zl_sld (pc := 273) C hX hbl hbA h_13 dL_law_273 ?_
  refine zv_aload_n (pc := 274) C rfl 2 rfl dL_law_274 ?_
  refine zv_iload (pc := 275) C 1 rfl dL_law_275 ?_
  refine zv_iconst (pc := 277) (v := 5) C (by decide) dL_law_277 ?_
  refine zv_iadd (pc := 278) C  dL_law_278 ?_
  obtain ⟨h_14, hF⟩ := hF
  refine zl_sld (pc := 279) C hX hbl hbA h_14 dL_law_279 ?_
  refine zv_ci0 (pc := 280) (ws' := (fun uz : zMem => (zd_L_law cI cL adO qO3 qO4 qO5 qO6 adP0 qP00 qP01 qP02 qP03 qP04 adP1 qP10 qP11 qP12 qP13 qP14 adP2 qP20 qP21 qP22 qP23 qP24 adN qN0 qN1 qN2 qN3 qN4 qN5 adT qT0 qT1 qT2 qT3 qT4 qT5 qT6 qT7 adF0 qF00 qF01 qF02 qF03 adF1 qF10 qF11 qF12 qF13 adF2 qF20 qF21 qF22 qF23 adM qM1 qM2 qM3 qM4 qM5 qM6 qM7 qM8 qM12 qM13 qM15 qM16 qM17 qM18 qM19 qM20 qM21 qout O T_6 T_7 P2 N T F0 F1 F2 uz r_8))) C (zv_runV (As := [.int (xs (Int32.toNatClampNeg (i + (1 : Int32)))), .int (xs (Int32.toNatClampNeg (i + (2 : Int32)))), .int (xs (Int32.toNatClampNeg (i + (3 : Int32)))), .int (xs (Int32.toNatClampNeg (i + (4 : Int32)))), .int (xs (Int32.toNatClampNeg (i + (5 : Int32))))]) (b := adM) (rest := []) (ci := 5) (q0 := 54) C (zc_X6_layer l G cI adM qM1 qM2 qM3 qM4 qM5 qM6 qM7 qM8 qM12 qM13 qM15 qM16 qM17 qM18 qM19 qM20 qM21 M (xs (Int32.toNatClampNeg (i + (1 : Int32)))) (xs (Int32.toNatClampNeg (i + (2 : Int32)))) (xs (Int32.toNatClampNeg (i + (3 : Int32)))) (xs (Int32.toNatClampNeg (i + (4 : Int32)))) (xs (Int32.toNatClampNeg (i + (5 : Int32)))) _ hF) (cwV 5 C.2.2.2.2.1 lwc_X6_layer rfl rfl rfl zy_X6_layer ⟨(Nat.le_of_ble_eq_true rfl), (Nat.le_of_ble_eq_true rfl)⟩) rfl rfl rfl rfl rfl (Nat.le_of_ble_eq_true rfl) ⟨hc, hs⟩ dL_law_280) [54, 55, 56, 57, 58, 59, 60, 61, 62, 63, 64, 65, 66, 67, 68, 69, 70, 71] [0, 1, 2, 3, 4, 5, 6, 7, 8, 9, 10, 11, 12, 13, 14, 15, 16, 17, 18, 19, 20, 21, 22, 23, 24, 25, 26, 27, 28, 29, 30, 31, 32, 33, 34, 35, 36, 37, 38, 39, 40, 41, 42, 43, 44, 45, 46, 47, 48, 49, 50, 51, 52, 53, 72] rfl rfl rfl rfl rfl (fun _ => rfl) (fun _ => rfl) (fun _ => rfl) (fun v_16 uz hF => ?_)
  obtain ⟨T_15, hE⟩ : ∃ z, z = uz := ⟨_, rfl⟩; subst hE
  refine zv_istore (pc := 283) (lv' := [(6, .int v_16), (5, .int v_9), (4, .int i), (0, .ref b), (1, .ref adO), (2, .ref adM), (3, .ref qout)]) C (by decide) rfl dL_law_283 ?_
  refine zv_aload_n (pc := 285) C rfl 5 rfl dL_law_285 ?_
  refine zv_ci0 (pc := 286) (ws' := (fun uz : Unit => (zd_L_law cI cL adO qO3 qO4 qO5 qO6 adP0 qP00 qP01 qP02 qP03 qP04 adP1 qP10 qP11 qP12 qP13 qP14 adP2 qP20 qP21 qP22 qP23 qP24 adN qN0 qN1 qN2 qN3 qN4 qN5 adT qT0 qT1 qT2 qT3 qT4 qT5 qT6 qT7 adF0 qF00 qF01 qF02 qF03 adF1 qF10 qF11 qF12 qF13 adF2 qF20 qF21 qF22 qF23 adM qM1 qM2 qM3 qM4 qM5 qM6 qM7 qM8 qM12 qM13 qM15 qM16 qM17 qM18 qM19 qM20 qM21 qout O T_6 T_7 P2 N T F0 F1 F2 T_15 r_8))) C (zv_runV (As := []) (b := adM) (rest := []) (ci := 5) (q0 := 54) C (zc_X6_thrown l G cI adM qM1 qM2 qM3 qM4 qM5 qM6 qM7 qM8 qM12 qM13 qM15 qM16 qM17 qM18 qM19 qM20 qM21 T_15 _ hF) (cwV 0 C.2.2.2.2.1 lwc_X6_thrown rfl rfl rfl zy_X6_thrown ⟨(Nat.le_of_ble_eq_true rfl), (Nat.le_of_ble_eq_true rfl)⟩) rfl rfl rfl rfl rfl (Nat.le_of_ble_eq_true rfl) ⟨hc, hs⟩ dL_law_286) [54, 55, 56, 57, 58, 59, 60, 61, 62, 63, 64, 65, 66, 67, 68, 69, 70, 71] [0, 1, 2, 3, 4, 5, 6, 7, 8, 9, 10, 11, 12, 13, 14, 15, 16, 17, 18, 19, 20, 21, 22, 23, 24, 25, 26, 27, 28, 29, 30, 31, 32, 33, 34, 35, 36, 37, 38, 39, 40, 41, 42, 43, 44, 45, 46, 47, 48, 49, 50, 51, 52, 53, 72] rfl rfl rfl rfl rfl (fun _ => rfl) (fun _ => rfl) (fun _ => rfl) (fun v_17 uz hF => ?_)
  refine zv_iload (pc := 289) C 1 rfl dL_law_289 ?_
  refine zv_icmp_eq (pc := 291) (tgt := 296) C dL_law_291 (by decide) (fun c_18 => ?_) (fun c_18 => ?_)
  · replace hF := And.left hF c_18
    refine zv_iload (pc := 296) C 1 rfl dL_law_296 ?_
    refine zv_if_ne (pc := 298) (tgt := 313) C dL_law_298 (by decide) (fun c_19 => ?_) (fun c_19 => ?_)
    · replace hF := And.left hF c_19
      refine zv_goto (pc := 313) (tgt := 1485) C dL_law_313 (by decide) ?_
      exact zv_lvs [2, 3, 4, 5, 6] rfl (hK O T_6 T_7 P2 N T F0 F1 F2 T_15 r_8 hF)
    · replace hF := And.right hF c_19
      refine zv_aload_n (pc := 301) C rfl 6 rfl dL_law_301 ?_
      refine zv_iconst (pc := 302) (v := 0) C (by decide) dL_law_302 ?_
      refine zl_lald (pc := 303) (n := 1) (f := r_8) C hKL 72 (vp_in_iff.mpr (by decide)) rfl dL_law_303 ?_
      refine zv_iload (pc := 304) C 0 rfl dL_law_304 ?_
      refine zv_i2l (pc := 306) C  dL_law_306 ?_
      refine zv_lcmp (pc := 307) C  dL_law_307 ?_
      refine zv_if_eq (pc := 308) (tgt := 313) C dL_law_308 (by decide) (fun c_20 => ?_) (fun c_20 => ?_)
      · replace hF := And.left hF c_20
        refine zv_goto (pc := 313) (tgt := 1485) C dL_law_313 (by decide) ?_
        exact zv_lvs [2, 3, 4, 5, 6] rfl (hK O T_6 T_7 P2 N T F0 F1 F2 T_15 r_8 hF)
      · replace hF := And.right hF c_20
        refine zv_iconst (pc := 311) (v := 0) C (by decide) dL_law_311 ?_
        exact (show False from hF).elim
  · replace hF := And.right hF c_18
    refine zv_iconst (pc := 294) (v := 0) C (by decide) dL_law_294 ?_
    exact (show False from hF).elim
