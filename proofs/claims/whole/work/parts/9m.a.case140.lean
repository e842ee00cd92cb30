set_option maxHeartbeats 4000000 in
set_option maxRecDepth 100000 in
theorem zq_law_140 {p : Program} {l : Launch} {e : Env} {s : State} {m : MethodId} {args : Array Value} {below : List Frame} {meth : Method} {c : Code} {Q : State → Prop} {G : va_G} {cI cL : ClassId} {A : Nat → Prop} {b L : Nat} {xs : Nat → Int32} {cells slots : Nat} (hlt : l.stackTraces = false) (adO qO3 qO4 qO5 qO6 adP0 qP00 qP01 qP02 qP03 qP04 adP1 qP10 qP11 qP12 qP13 qP14 adP2 qP20 qP21 qP22 qP23 qP24 adN qN0 qN1 qN2 qN3 qN4 qN5 adT qT0 qT1 qT2 qT3 qT4 qT5 qT6 qT7 adF0 qF00 qF01 qF02 qF03 adF1 qF10 qF11 qF12 qF13 adF2 qF20 qF21 qF22 qF23 adM qM1 qM2 qM3 qM4 qM5 qM6 qM7 qM8 qM12 qM13 qM15 qM16 qM17 qM18 qM19 qM20 qM21 qout : Nat) (C : zv_C p s m args c cL_law 7 RL lw_tbl G cI A) (hB : zx_B A s) (hKL : va_K G vwCl [(cL, .long)] s) (hN : zl_B s) (hX : va_X b L xs s s.heap) (hbl : b < s.heap.size) (hbA : ¬ A b) (hc : cells + 1 ≤ room_1.cells) (hs : slots + 6 ≤ room_1.slots) (O : zMem) (P0 : zMem) (P1 : zMem) (P2 : zMem) (N : zMem) (T : zMem) (F0 : zMem) (F1 : zMem) (F2 : zMem) (M : zMem) (out : zRowL) (i : Int32) (K : zMem → zMem → zMem → zMem → zMem → zMem → zMem → zMem → zMem → zMem → zRowL → Prop) (hK : ∀ (O : zMem) (P0 : zMem) (P1 : zMem) (P2 : zMem) (N : zMem) (T : zMem) (F0 : zMem) (F1 : zMem) (F2 : zMem) (M : zMem) (out : zRowL), K O P0 P1 P2 N T F0 F1 F2 M out → zv_V p l e room_1 s m args below meth c Q G A 7 (cells + 1) (slots + 6) (zd_L_law cI cL adO qO3 qO4 qO5 qO6 adP0 qP00 qP01 qP02 qP03 qP04 adP1 qP10 qP11 qP12 qP13 qP14 adP2 qP20 qP21 qP22 qP23 qP24 adN qN0 qN1 qN2 qN3 qN4 qN5 adT qT0 qT1 qT2 qT3 qT4 qT5 qT6 qT7 adF0 qF00 qF01 qF02 qF03 adF1 qF10 qF11 qF12 qF13 adF2 qF20 qF21 qF22 qF23 adM qM1 qM2 qM3 qM4 qM5 qM6 qM7 qM8 qM12 qM13 qM15 qM16 qM17 qM18 qM19 qM20 qM21 qout O P0 P1 P2 N T F0 F1 F2 M out) 1485 [(4, .int i), (0, .ref b), (1, .ref adO), (2, .ref adM), (3, .ref qout)] []) (hF : zw_law_140 L xs O P0 P1 P2 N T F0 F1 F2 M out i K) : zv_V p l e room_1 s m args below meth c Q G A 7 cells slots (zd_L_law cI cL adO qO3 qO4 qO5 qO6 adP0 qP00 qP01 qP02 qP03 qP04 adP1 qP10 qP11 qP12 qP13 qP14 adP2 qP20 qP21 qP22 qP23 qP24 adN qN0 qN1 qN2 qN3 qN4 qN5 adT qT0 qT1 qT2 qT3 qT4 qT5 qT6 qT7 adF0 qF00 qF01 qF02 qF03 adF1 qF10 qF11 qF12 qF13 adF2 qF20 qF21 qF22 qF23 adM qM1 qM2 qM3 qM4 qM5 qM6 qM7 qM8 qM12 qM13 qM15 qM16 qM17 qM18 qM19 qM20 qM21 qout O P0 P1 P2 N T F0 F1 F2 M out) 140 [(4, .int i), (0, .ref b), (1, .ref adO), (2, .ref adM), (3, .ref qout)] [] := by
  refine zv_aload_n (pc := 140) C rfl 2 rfl dL_law_140 ?_
  refine zv_aload_n (pc := 141) C rfl 1 rfl dL_law_141 ?_
  refine zv_iload (pc := 142) C 0 rfl dL_law_142 ?_
  refine zv_iconst (pc := 144) (v := 1) C (by decide) dL_law_144 ?_
  refine zv_iadd (pc := 145) C  dL_law_145 ?_
  obtain ⟨h_1, hF⟩ := hF
  refine zl_sld (pc := 146) C hX hbl hbA h_1 dL_law_146 ?_
  refine zv_aload_n (pc := 147) C rfl 1 rfl dL_law_147 ?_
  refine zv_iload (pc := 148) C 0 rfl dL_law_148 ?_
  refine zv_iconst (pc := 150) (v := 2) C (by decide) dL_law_150 ?_
  refine zv_iadd (pc := 151) C  dL_law_151 ?_
  obtain ⟨h_2, hF⟩ := hF
  refine zl_sld (pc := 152) C hX hbl hbA h_2 dL_law_152 ?_
  refine zv_aload_n (pc := 153) C rfl 1 rfl dL_law_153 ?_
  refine zv_iload (pc := 154) C 0 rfl dL_law_154 ?_
  refine zv_iconst (pc := 156) (v := 3) C (by decide) dL_law_156 ?_
  refine zv_iadd (pc := 157) C  dL_law_157 ?_
  obtain ⟨h_3, hF⟩ := hF
  refine zl_sld (pc := 158) C hX hbl hbA h_3 dL_law_158 ?_
  refine zv_aload_n (pc := 159) C rfl 1 rfl dL_law_159 ?_
  refine zv_iload (pc := 160) C 0 rfl dL_law_160 ?_
  refine zv_iconst (pc := 162) (v := 4) C (by decide) dL_law_162 ?_
  refine zv_iadd (pc := 163) C  dL_law_163 ?_
  obtain ⟨h_4, hF⟩ := hF
  refine zl_sld (pc := 164) C hX hbl hbA h_4 dL_law_164 ?_
  refine zm_ci (pc := 165) (ws' := (fun uz : zMem × zMem => (zd_L_law cI cL adO qO3 qO4 qO5 qO6 adP0 qP00 qP01 qP02 qP03 qP04 adP1 qP10 qP11 qP12 qP13 qP14 adP2 qP20 qP21 qP22 qP23 qP24 adN qN0 qN1 qN2 qN3 qN4 qN5 adT qT0 qT1 qT2 qT3 qT4 qT5 qT6 qT7 adF0 qF00 qF01 qF02 qF03 adF1 qF10 qF11 qF12 qF13 adF2 qF20 qF21 qF22 qF23 adM qM1 qM2 qM3 qM4 qM5 qM6 qM7 qM8 qM12 qM13 qM15 qM16 qM17 qM18 qM19 qM20 qM21 qout O uz.1 uz.2 P2 N T F0 F1 F2 M out))) C (zm_runW (As := [.ref adO, .int (xs (Int32.toNatClampNeg (i + (1 : Int32)))), .int (xs (Int32.toNatClampNeg (i + (2 : Int32)))), .int (xs (Int32.toNatClampNeg (i + (3 : Int32)))), .int (xs (Int32.toNatClampNeg (i + (4 : Int32))))]) (rest := []) C hB hKL hN (zc_L_edge l hlt G cI cL adO qO3 qO4 qO5 qO6 adP0 qP00 qP01 qP02 qP03 qP04 adP1 qP10 qP11 qP12 qP13 qP14 adP2 adN adT adF0 adF1 adF2 O P0 P1 (xs (Int32.toNatClampNeg (i + (1 : Int32)))) (xs (Int32.toNatClampNeg (i + (2 : Int32)))) (xs (Int32.toNatClampNeg (i + (3 : Int32)))) (xs (Int32.toNatClampNeg (i + (4 : Int32)))) _ hF) (vx_cwSW 5 C.2.2.2.2.1 lwc_L_edge rfl rfl rfl zy_L_edge ⟨(Nat.le_of_ble_eq_true rfl), (Nat.le_of_ble_eq_true rfl)⟩) rfl rfl (Nat.le_of_ble_eq_true rfl) ⟨hc, hs⟩ dL_law_165) [0, 1, 2, 3, 4, 5, 6, 7, 8, 9, 10, 11, 12, 13, 14, 15, 16] [17, 18, 19, 20, 21, 22, 23, 24, 25, 26, 27, 28, 29, 30, 31, 32, 33, 34, 35, 36, 37, 38, 39, 40, 41, 42, 43, 44, 45, 46, 47, 48, 49, 50, 51, 52, 53, 54, 55, 56, 57, 58, 59, 60, 61, 62, 63, 64, 65, 66, 67, 68, 69, 70, 71, 72] rfl rfl rfl rfl rfl (fun _ => rfl) (fun _ => rfl) (fun _ => rfl) (fun v_7 uz hF => ?_)
  obtain ⟨T_5, T_6⟩ := uz
  refine zv_istore (pc := 168) (lv' := [(5, .int v_7), (4, .int i), (0, .ref b), (1, .ref adO), (2, .ref adM), (3, .ref qout)]) C (by decide) rfl dL_law_168 ?_
  refine zv_aload_n (pc := 170) C rfl 4 rfl dL_law_170 ?_
  refine zv_aload_n (pc := 171) C rfl 2 rfl dL_law_171 ?_
  refine zv_iload (pc := 172) C 1 rfl dL_law_172 ?_
  refine zv_iconst (pc := 174) (v := 1) C (by decide) dL_law_174 ?_
  refine zv_iadd (pc := 175) C  dL_law_175 ?_
  obtain ⟨h_8, hF⟩ := hF
  refine zl_sld (pc := 176) C hX hbl hbA h_8 dL_law_176 ?_
  refine zv_aload_n (pc := 177) C rfl 2 rfl dL_law_177 ?_
  refine zv_iload (pc := 178) C 1 rfl dL_law_178 ?_
  refine zv_iconst (pc := 180) (v := 2) C (by decide) dL_law_180 ?_
  refine zv_iadd (pc := 181) C  dL_law_181 ?_
  obtain ⟨h_9, hF⟩ := hF
  refine zl_sld (pc := 182) C hX hbl hbA h_9 dL_law_182 ?_
  refine zv_aload_n (pc := 183) C rfl 2 rfl dL_law_183 ?_
  refine zv_iload (pc := 184) C 1 rfl dL_law_184 ?_
  refine zv_iconst (pc := 186) (v := 3) C (by decide) dL_law_186 ?_
  refine zv_iadd (pc := 187) C  dL_law_187 ?_
  obtain ⟨h_10, hF⟩ := hF
  refine zl_sld (pc := 188) C hX hbl hbA h_10 dL_law_188 ?_
  refine zv_aload_n (pc := 189) C rfl 2 rfl dL_law_189 ?_
  refine zv_iload (pc := 190) C 1 rfl dL_law_190 ?_
  refine zv_iconst (pc := 192) (v := 4) C (by decide) dL_law_192 ?_
  refine zv_iadd (pc := 193) C  dL_law_193 ?_
  obtain ⟨h_11, hF⟩ := hF
  refine zl_sld (pc := 194) C hX hbl hbA h_11 dL_law_194 ?_
  refine zv_cv0 (pc := 195) (ws' := (fun uz : zMem => (zd_L_law cI cL adO qO3 qO4 qO5 qO6 adP0 qP00 qP01 qP02 qP03 qP04 adP1 qP10 qP11 qP12 qP13 qP14 adP2 qP20 qP21 qP22 qP23 qP24 adN qN0 qN1 qN2 qN3 qN4 qN5 adT qT0 qT1 qT2 qT3 qT4 qT5 qT6 qT7 adF0 qF00 qF01 qF02 qF03 adF1 qF10 qF11 qF12 qF13 adF2 qF20 qF21 qF22 qF23 adM qM1 qM2 qM3 qM4 qM5 qM6 qM7 qM8 qM12 qM13 qM15 qM16 qM17 qM18 qM19 qM20 qM21 qout O T_5 T_6 P2 N T F0 F1 F2 uz out))) C (zv_runV (As := [.int (xs (Int32.toNatClampNeg (i + (1 : Int32)))), .int (xs (Int32.toNatClampNeg (i + (2 : Int32)))), .int (xs (Int32.toNatClampNeg (i + (3 : Int32)))), .int (xs (Int32.toNatClampNeg (i + (4 : Int32))))]) (b := adM) (rest := []) (ci := 5) (q0 := 54) C (zc_X6_edge l G cI adM qM1 qM2 qM3 qM4 qM5 qM6 qM7 qM8 qM12 qM13 qM15 qM16 qM17 qM18 qM19 qM20 qM21 M (xs (Int32.toNatClampNeg (i + (1 : Int32)))) (xs (Int32.toNatClampNeg (i + (2 : Int32)))) (xs (Int32.toNatClampNeg (i + (3 : Int32)))) (xs (Int32.toNatClampNeg (i + (4 : Int32)))) _ hF) (cwV 4 C.2.2.2.2.1 lwc_X6_edge rfl rfl rfl zy_X6_edge ⟨(Nat.le_of_ble_eq_true rfl), (Nat.le_of_ble_eq_true rfl)⟩) rfl rfl rfl rfl rfl (Nat.le_of_ble_eq_true rfl) ⟨hc, hs⟩ dL_law_195) [54, 55, 56, 57, 58, 59, 60, 61, 62, 63, 64, 65, 66, 67, 68, 69, 70, 71] [0, 1, 2, 3, 4, 5, 6, 7, 8, 9, 10, 11, 12, 13, 14, 15, 16, 17, 18, 19, 20, 21, 22, 23, 24, 25, 26, 27, 28, 29, 30, 31, 32, 33, 34, 35, 36, 37, 38, 39, 40, 41, 42, 43, 44, 45, 46, 47, 48, 49, 50, 51, 52, 53, 72] rfl rfl rfl rfl rfl (fun _ => rfl) (fun _ => rfl) (fun _ => rfl) (fun uz hF => ?_)
  obtain ⟨T_12, hE⟩ : ∃ z, z = uz := ⟨_, rfl⟩; subst hE
  refine zv_aload_n (pc := 198) C rfl 4 rfl dL_law_198 ?_
  refine zv_ci0 (pc := 199) (ws' := (fun uz : Unit => (zd_L_law cI cL adO qO3 qO4 qO5 qO6 adP0 qP00 qP01 qP02 qP03 qP04 adP1 qP10 qP11 qP12 qP13 qP14 adP2 qP20 qP21 qP22 qP23 qP24 adN qN0 qN1 qN2 qN3 qN4 qN5 adT qT0 qT1 qT2 qT3 qT4 qT5 qT6 qT7 adF0 qF00 qF01 qF02 qF03 adF1 qF10 qF11 qF12 qF13 adF2 qF20 qF21 qF22 qF23 adM qM1 qM2 qM3 qM4 qM5 qM6 qM7 qM8 qM12 qM13 qM15 qM16 qM17 qM18 qM19 qM20 qM21 qout O T_5 T_6 P2 N T F0 F1 F2 T_12 out))) C (zv_runV (As := []) (b := adM) (rest := []) (ci := 5) (q0 := 54) C (zc_X6_thrown l G cI adM qM1 qM2 qM3 qM4 qM5 qM6 qM7 qM8 qM12 qM13 qM15 qM16 qM17 qM18 qM19 qM20 qM21 T_12 _ hF) (cwV 0 C.2.2.2.2.1 lwc_X6_thrown rfl rfl rfl zy_X6_thrown ⟨(Nat.le_of_ble_eq_true rfl), (Nat.le_of_ble_eq_true rfl)⟩) rfl rfl rfl rfl rfl (Nat.le_of_ble_eq_true rfl) ⟨hc, hs⟩ dL_law_199) [54, 55, 56, 57, 58, 59, 60, 61, 62, 63, 64, 65, 66, 67, 68, 69, 70, 71] [0, 1, 2, 3, 4, 5, 6, 7, 8, 9, 10, 11, 12, 13, 14, 15, 16, 17, 18, 19, 20, 21, 22, 23, 24, 25, 26, 27, 28, 29, 30, 31, 32, 33, 34, 35, 36, 37, 38, 39, 40, 41, 42, 43, 44, 45, 46, 47, 48, 49, 50, 51, 52, 53, 72] rfl rfl rfl rfl rfl (fun _ => rfl) (fun _ => rfl) (fun _ => rfl) (fun v_13 uz hF => ?_)
  refine zv_iload (pc := 202) C 0 rfl dL_law_202 ?_
  refine zv_icmp_eq (pc := 204) (tgt := 209) C dL_law_204 (by decide) (fun c_14 => ?_) (fun c_14 => ?_)
  · replace hF := And.left hF c_14
    refine zv_goto (pc := 209) (tgt := 1485) C dL_law_209 (by decide) ?_
    exact zv_lvs [1, 2, 3, 4, 5] rfl (hK O T_5 T_6 P2 N T F0 F1 F2 T_12 out hF)
  · replace hF := And.right hF c_14
    refine zv_iconst (pc := 207) (v := 0) C (by decide) dL_law_207 ?_
    exact (show False from hF).elim
