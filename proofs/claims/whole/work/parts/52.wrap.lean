/-! L_edge -/
def zd_L_edge (cI cL : ClassId) (adO qO3 qO4 qO5 qO6 adP0 qP00 qP01 qP02 qP03 qP04 adP1 qP10 qP11 qP12 qP13 qP14 oO2 oO7 oO8 oO9 oO10 oO11 : Nat) (O : zMem) (P0 : zMem) (P1 : zMem) : va_W := [(adO, .inr (4, [.ref adP0, .ref adP1, .ref oO2, .ref qO3, .ref qO4, .ref qO5, .ref qO6, .ref oO7, .ref oO8, .ref oO9, .ref oO10, .ref oO11, .int (O 12 0), .int (O 13 0), .int (O 14 0)])), (qO3, .inl (cI, 6, .inl (O 3))), (qO4, .inl (cI, 6, .inl (O 4))), (qO5, .inl (cI, 3, .inl (O 5))), (qO6, .inl (cI, 3, .inl (O 6))), (adP0, .inr (2, [.ref qP00, .ref qP01, .ref qP02, .ref qP03, .ref qP04, .int (P0 5 0)])), (qP00, .inl (cI, 2, .inl (P0 0))), (qP01, .inl (cI, 2, .inl (P0 1))), (qP02, .inl (cI, 6, .inl (P0 2))), (qP03, .inl (cI, 6, .inl (P0 3))), (qP04, .inl (cI, 6, .inl (P0 4))), (adP1, .inr (2, [.ref qP10, .ref qP11, .ref qP12, .ref qP13, .ref qP14, .int (P1 5 0)])), (qP10, .inl (cI, 2, .inl (P1 0))), (qP11, .inl (cI, 2, .inl (P1 1))), (qP12, .inl (cI, 6, .inl (P1 2))), (qP13, .inl (cI, 6, .inl (P1 3))), (qP14, .inl (cI, 6, .inl (P1 4)))]
abbrev rmL_edge : Room := { frames := 8, cells := 1, slots := 6, locals := 136 }
def zw_L_edge (O : zMem) (P0 : zMem) (P1 : zMem) (b0 : Int32) (b1 : Int32) (b2 : Int32) (b3 : Int32) (post : Int32 → zMem → zMem → Prop) : Prop := zw_X5_edge O P0 P1 b0 b1 b2 b3 (fun (T_1 : zMem) (T_2 : zMem) => post (0 : Int32) T_1 T_2) (post (1 : Int32) P0 P1) (post (2 : Int32) P0 P1)
/-! L_layer -/
def zd_L_layer (cI cL : ClassId) (adO qO3 qO4 qO5 qO6 adP0 qP00 qP01 qP02 qP03 qP04 adP1 qP10 qP11 qP12 qP13 qP14 qout oO2 oO7 oO8 oO9 oO10 oO11 : Nat) (O : zMem) (P0 : zMem) (P1 : zMem) (out : zRowL) : va_W := [(adO, .inr (4, [.ref adP0, .ref adP1, .ref oO2, .ref qO3, .ref qO4, .ref qO5, .ref qO6, .ref oO7, .ref oO8, .ref oO9, .ref oO10, .ref oO11, .int (O 12 0), .int (O 13 0), .int (O 14 0)])), (qO3, .inl (cI, 6, .inl (O 3))), (qO4, .inl (cI, 6, .inl (O 4))), (qO5, .inl (cI, 3, .inl (O 5))), (qO6, .inl (cI, 3, .inl (O 6))), (adP0, .inr (2, [.ref qP00, .ref qP01, .ref qP02, .ref qP03, .ref qP04, .int (P0 5 0)])), (qP00, .inl (cI, 2, .inl (P0 0))), (qP01, .inl (cI, 2, .inl (P0 1))), (qP02, .inl (cI, 6, .inl (P0 2))), (qP03, .inl (cI, 6, .inl (P0 3))), (qP04, .inl (cI, 6, .inl (P0 4))), (adP1, .inr (2, [.ref qP10, .ref qP11, .ref qP12, .ref qP13, .ref qP14, .int (P1 5 0)])), (qP10, .inl (cI, 2, .inl (P1 0))), (qP11, .inl (cI, 2, .inl (P1 1))), (qP12, .inl (cI, 6, .inl (P1 2))), (qP13, .inl (cI, 6, .inl (P1 3))), (qP14, .inl (cI, 6, .inl (P1 4))), (qout, .inl (cL, 1, .inr (.inl out)))]
abbrev rmL_layer : Room := { frames := 8, cells := 1, slots := 6, locals := 137 }
def zw_L_layer (O : zMem) (P0 : zMem) (P1 : zMem) (out : zRowL) (b0 : Int32) (b1 : Int32) (b2 : Int32) (b3 : Int32) (b4 : Int32) (post : Int32 → zMem → zMem → zRowL → Prop) : Prop := zw_X5_layer O P0 P1 b0 b1 b2 b3 b4 (fun (v_3 : Int32) (T_1 : zMem) (T_2 : zMem) => ∀ r_4 : zRowL, r_4 = (vp_updL out (Int32.toNatClampNeg (0 : Int32)) (Int32.toInt64 v_3)) → (post (0 : Int32) T_1 T_2 r_4)) (post (1 : Int32) P0 P1 out) (post (2 : Int32) P0 P1 out)
/-! L_drop -/
def zd_L_drop (cI cL : ClassId) (adO qO3 qO4 qO5 qO6 adP0 qP00 qP01 qP02 qP03 qP04 adP1 qP10 qP11 qP12 qP13 qP14 qout oO2 oO7 oO8 oO9 oO10 oO11 : Nat) (O : zMem) (P0 : zMem) (P1 : zMem) (out : zRowL) : va_W := [(adO, .inr (4, [.ref adP0, .ref adP1, .ref oO2, .ref qO3, .ref qO4, .ref qO5, .ref qO6, .ref oO7, .ref oO8, .ref oO9, .ref oO10, .ref oO11, .int (O 12 0), .int (O 13 0), .int (O 14 0)])), (qO3, .inl (cI, 6, .inl (O 3))), (qO4, .inl (cI, 6, .inl (O 4))), (qO5, .inl (cI, 3, .inl (O 5))), (qO6, .inl (cI, 3, .inl (O 6))), (adP0, .inr (2, [.ref qP00, .ref qP01, .ref qP02, .ref qP03, .ref qP04, .int (P0 5 0)])), (qP00, .inl (cI, 2, .inl (P0 0))), (qP01, .inl (cI, 2, .inl (P0 1))), (qP02, .inl (cI, 6, .inl (P0 2))), (qP03, .inl (cI, 6, .inl (P0 3))), (qP04, .inl (cI, 6, .inl (P0 4))), (adP1, .inr (2, [.ref qP10, .ref qP11, .ref qP12, .ref qP13, .ref qP14, .int (P1 5 0)])), (qP10, .inl (cI, 2, .inl (P1 0))), (qP11, .inl (cI, 2, .inl (P1 1))), (qP12, .inl (cI, 6, .inl (P1 2))), (qP13, .inl (cI, 6, .inl (P1 3))), (qP14, .inl (cI, 6, .inl (P1 4))), (qout, .inl (cL, 1, .inr (.inl out)))]
abbrev rmL_drop : Room := { frames := 8, cells := 1, slots := 6, locals := 134 }
def zw_L_drop (O : zMem) (P0 : zMem) (P1 : zMem) (out : zRowL) (b0 : Int32) (b1 : Int32) (post : Int32 → zMem → zMem → zRowL → Prop) : Prop := zw_X5_drop O P0 P1 b0 b1 (fun (v_3 : Int32) (T_1 : zMem) (T_2 : zMem) => ∀ r_4 : zRowL, r_4 = (vp_updL out (Int32.toNatClampNeg (0 : Int32)) (Int32.toInt64 v_3)) → (post (0 : Int32) T_1 T_2 r_4)) (post (1 : Int32) P0 P1 out) (post (2 : Int32) P0 P1 out)
/-! L_about -/
def zd_L_about (cI cL : ClassId) (adO qO3 qO4 qO5 qO6 adP0 qP00 qP01 qP02 qP03 qP04 adP1 qP10 qP11 qP12 qP13 qP14 qout oO2 oO7 oO8 oO9 oO10 oO11 : Nat) (O : zMem) (P0 : zMem) (P1 : zMem) (out : zRowL) : va_W := [(adO, .inr (4, [.ref adP0, .ref adP1, .ref oO2, .ref qO3, .ref qO4, .ref qO5, .ref qO6, .ref oO7, .ref oO8, .ref oO9, .ref oO10, .ref oO11, .int (O 12 0), .int (O 13 0), .int (O 14 0)])), (qO3, .inl (cI, 6, .inl (O 3))), (qO4, .inl (cI, 6, .inl (O 4))), (qO5, .inl (cI, 3, .inl (O 5))), (qO6, .inl (cI, 3, .inl (O 6))), (adP0, .inr (2, [.ref qP00, .ref qP01, .ref qP02, .ref qP03, .ref qP04, .int (P0 5 0)])), (qP00, .inl (cI, 2, .inl (P0 0))), (qP01, .inl (cI, 2, .inl (P0 1))), (qP02, .inl (cI, 6, .inl (P0 2))), (qP03, .inl (cI, 6, .inl (P0 3))), (qP04, .inl (cI, 6, .inl (P0 4))), (adP1, .inr (2, [.ref qP10, .ref qP11, .ref qP12, .ref qP13, .ref qP14, .int (P1 5 0)])), (qP10, .inl (cI, 2, .inl (P1 0))), (qP11, .inl (cI, 2, .inl (P1 1))), (qP12, .inl (cI, 6, .inl (P1 2))), (qP13, .inl (cI, 6, .inl (P1 3))), (qP14, .inl (cI, 6, .inl (P1 4))), (qout, .inl (cL, 1, .inr (.inl out)))]
abbrev rmL_about : Room := { frames := 8, cells := 1, slots := 6, locals := 135 }
def zw_L_about (O : zMem) (P0 : zMem) (P1 : zMem) (out : zRowL) (b0 : Int32) (b1 : Int32) (b2 : Int32) (post : Int32 → zRowL → Prop) : Prop := zw_X5_about O P0 P1 b0 b1 b2 (fun (v_1 : Int32) => ∀ r_2 : zRowL, r_2 = (vp_updL out (Int32.toNatClampNeg (0 : Int32)) (Int32.toInt64 v_1)) → (post (0 : Int32) r_2)) (post (1 : Int32) out) (post (2 : Int32) out)
/-! L_turn -/
def zd_L_turn (cI cL : ClassId) (adO qO3 qO4 qO5 qO6 adP0 qP00 qP01 qP02 qP03 qP04 adP1 qP10 qP11 qP12 qP13 qP14 oO2 oO7 oO8 oO9 oO10 oO11 : Nat) (O : zMem) (P0 : zMem) (P1 : zMem) : va_W := [(adO, .inr (4, [.ref adP0, .ref adP1, .ref oO2, .ref qO3, .ref qO4, .ref qO5, .ref qO6, .ref oO7, .ref oO8, .ref oO9, .ref oO10, .ref oO11, .int (O 12 0), .int (O 13 0), .int (O 14 0)])), (qO3, .inl (cI, 6, .inl (O 3))), (qO4, .inl (cI, 6, .inl (O 4))), (qO5, .inl (cI, 3, .inl (O 5))), (qO6, .inl (cI, 3, .inl (O 6))), (adP0, .inr (2, [.ref qP00, .ref qP01, .ref qP02, .ref qP03, .ref qP04, .int (P0 5 0)])), (qP00, .inl (cI, 2, .inl (P0 0))), (qP01, .inl (cI, 2, .inl (P0 1))), (qP02, .inl (cI, 6, .inl (P0 2))), (qP03, .inl (cI, 6, .inl (P0 3))), (qP04, .inl (cI, 6, .inl (P0 4))), (adP1, .inr (2, [.ref qP10, .ref qP11, .ref qP12, .ref qP13, .ref qP14, .int (P1 5 0)])), (qP10, .inl (cI, 2, .inl (P1 0))), (qP11, .inl (cI, 2, .inl (P1 1))), (qP12, .inl (cI, 6, .inl (P1 2))), (qP13, .inl (cI, 6, .inl (P1 3))), (qP14, .inl (cI, 6, .inl (P1 4)))]
abbrev rmL_turn : Room := { frames := 8, cells := 1, slots := 6, locals := 132 }
def zw_L_turn (O : zMem) (P0 : zMem) (P1 : zMem) (b0 : Int32) (post : Int32 → zMem → zMem → Prop) : Prop := zw_X5_turn O P0 P1 b0 (fun (T_1 : zMem) (T_2 : zMem) => post (0 : Int32) T_1 T_2) (post (1 : Int32) P0 P1)
/-! L_copy -/
def zd_L_copy (cI cL : ClassId) (adO qO3 qO4 qO5 qO6 adP0 qP00 qP01 qP02 qP03 qP04 adP1 qP10 qP11 qP12 qP13 qP14 oO2 oO7 oO8 oO9 oO10 oO11 : Nat) (O : zMem) (P0 : zMem) (P1 : zMem) : va_W := [(adO, .inr (4, [.ref adP0, .ref adP1, .ref oO2, .ref qO3, .ref qO4, .ref qO5, .ref qO6, .ref oO7, .ref oO8, .ref oO9, .ref oO10, .ref oO11, .int (O 12 0), .int (O 13 0), .int (O 14 0)])), (qO3, .inl (cI, 6, .inl (O 3))), (qO4, .inl (cI, 6, .inl (O 4))), (qO5, .inl (cI, 3, .inl (O 5))), (qO6, .inl (cI, 3, .inl (O 6))), (adP0, .inr (2, [.ref qP00, .ref qP01, .ref qP02, .ref qP03, .ref qP04, .int (P0 5 0)])), (qP00, .inl (cI, 2, .inl (P0 0))), (qP01, .inl (cI, 2, .inl (P0 1))), (qP02, .inl (cI, 6, .inl (P0 2))), (qP03, .inl (cI, 6, .inl (P0 3))), (qP04, .inl (cI, 6, .inl (P0 4))), (adP1, .inr (2, [.ref qP10, .ref qP11, .ref qP12, .ref qP13, .ref qP14, .int (P1 5 0)])), (qP10, .inl (cI, 2, .inl (P1 0))), (qP11, .inl (cI, 2, .inl (P1 1))), (qP12, .inl (cI, 6, .inl (P1 2))), (qP13, .inl (cI, 6, .inl (P1 3))), (qP14, .inl (cI, 6, .inl (P1 4)))]
abbrev rmL_copy : Room := { frames := 8, cells := 1, slots := 6, locals := 134 }
def zw_L_copy (O : zMem) (P0 : zMem) (P1 : zMem) (b0 : Int32) (post : Int32 → zMem → zMem → Prop) : Prop := zw_X5_copy O P0 P1 b0 (fun (T_1 : zMem) (T_2 : zMem) => post (0 : Int32) T_1 T_2) (post (1 : Int32) P0 P1)
/-! L_light -/
def zd_L_light (cI cL : ClassId) (adO qO3 qO4 qO5 qO6 oO0 oO1 oO2 oO7 oO8 oO9 oO10 oO11 : Nat) (O : zMem) : va_W := [(adO, .inr (4, [.ref oO0, .ref oO1, .ref oO2, .ref qO3, .ref qO4, .ref qO5, .ref qO6, .ref oO7, .ref oO8, .ref oO9, .ref oO10, .ref oO11, .int (O 12 0), .int (O 13 0), .int (O 14 0)])), (qO3, .inl (cI, 6, .inl (O 3))), (qO4, .inl (cI, 6, .inl (O 4))), (qO5, .inl (cI, 3, .inl (O 5))), (qO6, .inl (cI, 3, .inl (O 6)))]
abbrev rmL_light : Room := { frames := 8, cells := 1, slots := 6, locals := 132 }
def zw_L_light (O : zMem) (b0 : Int32) (b1 : Int32) (post : Int32 → zMem → Prop) : Prop := zw_X5_light O b0 b1 (fun (T_1 : zMem) => post (0 : Int32) T_1) (post (1 : Int32) O)
/-! L_back -/
def zd_L_back (cI cL : ClassId) (adO qO3 qO4 qO5 qO6 adP0 qP00 qP01 qP02 qP03 qP04 adP1 qP10 qP11 qP12 qP13 qP14 adT qT0 qT1 qT2 qT3 qT4 qT5 qT6 qT7 adF0 qF00 qF01 qF02 qF03 qout oO2 oO7 oO10 oO11 : Nat) (O : zMem) (P0 : zMem) (P1 : zMem) (T : zMem) (F0 : zMem) (out : zRowL) : va_W := [(adO, .inr (4, [.ref adP0, .ref adP1, .ref oO2, .ref qO3, .ref qO4, .ref qO5, .ref qO6, .ref oO7, .ref adT, .ref adF0, .ref oO10, .ref oO11, .int (O 12 0), .int (O 13 0), .int (O 14 0)])), (qO3, .inl (cI, 6, .inl (O 3))), (qO4, .inl (cI, 6, .inl (O 4))), (qO5, .inl (cI, 3, .inl (O 5))), (qO6, .inl (cI, 3, .inl (O 6))), (adP0, .inr (2, [.ref qP00, .ref qP01, .ref qP02, .ref qP03, .ref qP04, .int (P0 5 0)])), (qP00, .inl (cI, 2, .inl (P0 0))), (qP01, .inl (cI, 2, .inl (P0 1))), (qP02, .inl (cI, 6, .inl (P0 2))), (qP03, .inl (cI, 6, .inl (P0 3))), (qP04, .inl (cI, 6, .inl (P0 4))), (adP1, .inr (2, [.ref qP10, .ref qP11, .ref qP12, .ref qP13, .ref qP14, .int (P1 5 0)])), (qP10, .inl (cI, 2, .inl (P1 0))), (qP11, .inl (cI, 2, .inl (P1 1))), (qP12, .inl (cI, 6, .inl (P1 2))), (qP13, .inl (cI, 6, .inl (P1 3))), (qP14, .inl (cI, 6, .inl (P1 4))), (adT, .inr (3, [.ref qT0, .ref qT1, .ref qT2, .ref qT3, .ref qT4, .ref qT5, .ref qT6, .ref qT7, .int (T 8 0), .int (T 9 0), .int (T 10 0)])), (qT0, .inl (cI, 8, .inl (T 0))), (qT1, .inl (cI, 8, .inl (T 1))), (qT2, .inl (cI, 8, .inl (T 2))), (qT3, .inl (cI, 8, .inl (T 3))), (qT4, .inl (cI, 8, .inl (T 4))), (qT5, .inl (cI, 8, .inl (T 5))), (qT6, .inl (cI, 8, .inl (T 6))), (qT7, .inl (cI, 16, .inl (T 7))), (adF0, .inr (0, [.ref qF00, .ref qF01, .ref qF02, .ref qF03])), (qF00, .inl (cI, 16, .inl (F0 0))), (qF01, .inl (cI, 16, .inl (F0 1))), (qF02, .inl (cI, 32, .inl (F0 2))), (qF03, .inl (cI, 32, .inl (F0 3))), (qout, .inl (cL, 1, .inr (.inl out)))]
abbrev rmL_back : Room := { frames := 8, cells := 1, slots := 6, locals := 166 }
def zw_L_back (O : zMem) (P0 : zMem) (P1 : zMem) (T : zMem) (F0 : zMem) (out : zRowL) (b0 : Int32) (b1 : Int32) (b2 : Int32) (post : Int32 → zMem → zMem → zRowL → Prop) : Prop := zw_X5_back O P0 P1 T F0 b0 b1 b2 (fun (v_3 : Int32) (T_1 : zMem) (T_2 : zMem) => ∀ r_4 : zRowL, r_4 = (vp_updL out (Int32.toNatClampNeg (0 : Int32)) (Int32.toInt64 v_3)) → (post (0 : Int32) T_1 T_2 r_4)) (post (1 : Int32) T F0 out) (post (2 : Int32) T F0 out)
/-! L_on -/
def zd_L_on (cI cL : ClassId) (adO qO3 qO4 qO5 qO6 adP0 qP00 qP01 qP02 qP03 qP04 adP1 qP10 qP11 qP12 qP13 qP14 adT qT0 qT1 qT2 qT3 qT4 qT5 qT6 qT7 adF0 qF00 qF01 qF02 qF03 qout oO2 oO7 oO10 oO11 : Nat) (O : zMem) (P0 : zMem) (P1 : zMem) (T : zMem) (F0 : zMem) (out : zRowL) : va_W := [(adO, .inr (4, [.ref adP0, .ref adP1, .ref oO2, .ref qO3, .ref qO4, .ref qO5, .ref qO6, .ref oO7, .ref adT, .ref adF0, .ref oO10, .ref oO11, .int (O 12 0), .int (O 13 0), .int (O 14 0)])), (qO3, .inl (cI, 6, .inl (O 3))), (qO4, .inl (cI, 6, .inl (O 4))), (qO5, .inl (cI, 3, .inl (O 5))), (qO6, .inl (cI, 3, .inl (O 6))), (adP0, .inr (2, [.ref qP00, .ref qP01, .ref qP02, .ref qP03, .ref qP04, .int (P0 5 0)])), (qP00, .inl (cI, 2, .inl (P0 0))), (qP01, .inl (cI, 2, .inl (P0 1))), (qP02, .inl (cI, 6, .inl (P0 2))), (qP03, .inl (cI, 6, .inl (P0 3))), (qP04, .inl (cI, 6, .inl (P0 4))), (adP1, .inr (2, [.ref qP10, .ref qP11, .ref qP12, .ref qP13, .ref qP14, .int (P1 5 0)])), (qP10, .inl (cI, 2, .inl (P1 0))), (qP11, .inl (cI, 2, .inl (P1 1))), (qP12, .inl (cI, 6, .inl (P1 2))), (qP13, .inl (cI, 6, .inl (P1 3))), (qP14, .inl (cI, 6, .inl (P1 4))), (adT, .inr (3, [.ref qT0, .ref qT1, .ref qT2, .ref qT3, .ref qT4, .ref qT5, .ref qT6, .ref qT7, .int (T 8 0), .int (T 9 0), .int (T 10 0)])), (qT0, .inl (cI, 8, .inl (T 0))), (qT1, .inl (cI, 8, .inl (T 1))), (qT2, .inl (cI, 8, .inl (T 2))), (qT3, .inl (cI, 8, .inl (T 3))), (qT4, .inl (cI, 8, .inl (T 4))), (qT5, .inl (cI, 8, .inl (T 5))), (qT6, .inl (cI, 8, .inl (T 6))), (qT7, .inl (cI, 16, .inl (T 7))), (adF0, .inr (0, [.ref qF00, .ref qF01, .ref qF02, .ref qF03])), (qF00, .inl (cI, 16, .inl (F0 0))), (qF01, .inl (cI, 16, .inl (F0 1))), (qF02, .inl (cI, 32, .inl (F0 2))), (qF03, .inl (cI, 32, .inl (F0 3))), (qout, .inl (cL, 1, .inr (.inl out)))]
abbrev rmL_on : Room := { frames := 8, cells := 1, slots := 6, locals := 166 }
def zw_L_on (O : zMem) (P0 : zMem) (P1 : zMem) (T : zMem) (F0 : zMem) (out : zRowL) (b0 : Int32) (b1 : Int32) (b2 : Int32) (post : Int32 → zMem → zMem → zRowL → Prop) : Prop := zw_X5_on O P0 P1 T F0 b0 b1 b2 (fun (v_3 : Int32) (T_1 : zMem) (T_2 : zMem) => ∀ r_4 : zRowL, r_4 = (vp_updL out (Int32.toNatClampNeg (0 : Int32)) (Int32.toInt64 v_3)) → (post (0 : Int32) T_1 T_2 r_4)) (post (1 : Int32) T F0 out) (post (2 : Int32) T F0 out)
/-! L_entry -/
def zd_L_entry (cI cL : ClassId) (adO qO3 qO4 qO5 qO6 adP0 qP00 qP01 qP02 qP03 qP04 adP1 qP10 qP11 qP12 qP13 qP14 adT qT0 qT1 qT2 qT3 qT4 qT5 qT6 qT7 adF0 qF00 qF01 qF02 qF03 qout oO2 oO7 oO10 oO11 : Nat) (O : zMem) (P0 : zMem) (P1 : zMem) (T : zMem) (F0 : zMem) (out : zRowL) : va_W := [(adO, .inr (4, [.ref adP0, .ref adP1, .ref oO2, .ref qO3, .ref qO4, .ref qO5, .ref qO6, .ref oO7, .ref adT, .ref adF0, .ref oO10, .ref oO11, .int (O 12 0), .int (O 13 0), .int (O 14 0)])), (qO3, .inl (cI, 6, .inl (O 3))), (qO4, .inl (cI, 6, .inl (O 4))), (qO5, .inl (cI, 3, .inl (O 5))), (qO6, .inl (cI, 3, .inl (O 6))), (adP0, .inr (2, [.ref qP00, .ref qP01, .ref qP02, .ref qP03, .ref qP04, .int (P0 5 0)])), (qP00, .inl (cI, 2, .inl (P0 0))), (qP01, .inl (cI, 2, .inl (P0 1))), (qP02, .inl (cI, 6, .inl (P0 2))), (qP03, .inl (cI, 6, .inl (P0 3))), (qP04, .inl (cI, 6, .inl (P0 4))), (adP1, .inr (2, [.ref qP10, .ref qP11, .ref qP12, .ref qP13, .ref qP14, .int (P1 5 0)])), (qP10, .inl (cI, 2, .inl (P1 0))), (qP11, .inl (cI, 2, .inl (P1 1))), (qP12, .inl (cI, 6, .inl (P1 2))), (qP13, .inl (cI, 6, .inl (P1 3))), (qP14, .inl (cI, 6, .inl (P1 4))), (adT, .inr (3, [.ref qT0, .ref qT1, .ref qT2, .ref qT3, .ref qT4, .ref qT5, .ref qT6, .ref qT7, .int (T 8 0), .int (T 9 0), .int (T 10 0)])), (qT0, .inl (cI, 8, .inl (T 0))), (qT1, .inl (cI, 8, .inl (T 1))), (qT2, .inl (cI, 8, .inl (T 2))), (qT3, .inl (cI, 8, .inl (T 3))), (qT4, .inl (cI, 8, .inl (T 4))), (qT5, .inl (cI, 8, .inl (T 5))), (qT6, .inl (cI, 8, .inl (T 6))), (qT7, .inl (cI, 16, .inl (T 7))), (adF0, .inr (0, [.ref qF00, .ref qF01, .ref qF02, .ref qF03])), (qF00, .inl (cI, 16, .inl (F0 0))), (qF01, .inl (cI, 16, .inl (F0 1))), (qF02, .inl (cI, 32, .inl (F0 2))), (qF03, .inl (cI, 32, .inl (F0 3))), (qout, .inl (cL, 1, .inr (.inl out)))]
abbrev rmL_entry : Room := { frames := 8, cells := 1, slots := 6, locals := 144 }
def zw_L_entry (O : zMem) (P0 : zMem) (P1 : zMem) (T : zMem) (F0 : zMem) (out : zRowL) (b0 : Int32) (b1 : Int32) (b2 : Int32) (b3 : Int32) (post : Int32 → zMem → zMem → zRowL → Prop) : Prop := zw_X5_entry O P0 P1 T F0 b0 b1 b2 b3 (fun (v_3 : Int32) (T_1 : zMem) (T_2 : zMem) => ∀ r_4 : zRowL, r_4 = (vp_updL out (Int32.toNatClampNeg (0 : Int32)) (Int32.toInt64 v_3)) → (post (0 : Int32) T_1 T_2 r_4)) (post (1 : Int32) T F0 out) (post (2 : Int32) T F0 out)
/-! L_sign -/
def zd_L_sign (cI cL : ClassId) (adO qO3 qO4 qO5 qO6 adP0 qP00 qP01 qP02 qP03 qP04 adP1 qP10 qP11 qP12 qP13 qP14 adT qT0 qT1 qT2 qT3 qT4 qT5 qT6 qT7 qout oO2 oO7 oO9 oO10 oO11 : Nat) (O : zMem) (P0 : zMem) (P1 : zMem) (T : zMem) (out : zRowL) : va_W := [(adO, .inr (4, [.ref adP0, .ref adP1, .ref oO2, .ref qO3, .ref qO4, .ref qO5, .ref qO6, .ref oO7, .ref adT, .ref oO9, .ref oO10, .ref oO11, .int (O 12 0), .int (O 13 0), .int (O 14 0)])), (qO3, .inl (cI, 6, .inl (O 3))), (qO4, .inl (cI, 6, .inl (O 4))), (qO5, .inl (cI, 3, .inl (O 5))), (qO6, .inl (cI, 3, .inl (O 6))), (adP0, .inr (2, [.ref qP00, .ref qP01, .ref qP02, .ref qP03, .ref qP04, .int (P0 5 0)])), (qP00, .inl (cI, 2, .inl (P0 0))), (qP01, .inl (cI, 2, .inl (P0 1))), (qP02, .inl (cI, 6, .inl (P0 2))), (qP03, .inl (cI, 6, .inl (P0 3))), (qP04, .inl (cI, 6, .inl (P0 4))), (adP1, .inr (2, [.ref qP10, .ref qP11, .ref qP12, .ref qP13, .ref qP14, .int (P1 5 0)])), (qP10, .inl (cI, 2, .inl (P1 0))), (qP11, .inl (cI, 2, .inl (P1 1))), (qP12, .inl (cI, 6, .inl (P1 2))), (qP13, .inl (cI, 6, .inl (P1 3))), (qP14, .inl (cI, 6, .inl (P1 4))), (adT, .inr (3, [.ref qT0, .ref qT1, .ref qT2, .ref qT3, .ref qT4, .ref qT5, .ref qT6, .ref qT7, .int (T 8 0), .int (T 9 0), .int (T 10 0)])), (qT0, .inl (cI, 8, .inl (T 0))), (qT1, .inl (cI, 8, .inl (T 1))), (qT2, .inl (cI, 8, .inl (T 2))), (qT3, .inl (cI, 8, .inl (T 3))), (qT4, .inl (cI, 8, .inl (T 4))), (qT5, .inl (cI, 8, .inl (T 5))), (qT6, .inl (cI, 8, .inl (T 6))), (qT7, .inl (cI, 16, .inl (T 7))), (qout, .inl (cL, 1, .inr (.inl out)))]
abbrev rmL_sign : Room := { frames := 8, cells := 1, slots := 6, locals := 141 }
def zw_L_sign (O : zMem) (P0 : zMem) (P1 : zMem) (T : zMem) (out : zRowL) (b0 : Int32) (b1 : Int32) (post : Int32 → zMem → zRowL → Prop) : Prop := zw_X5_sign O P0 P1 T b0 b1 (fun (v_2 : Int32) (T_1 : zMem) => ∀ r_3 : zRowL, r_3 = (vp_updL out (Int32.toNatClampNeg (0 : Int32)) (Int32.toInt64 v_2)) → (post (0 : Int32) T_1 r_3)) (post (1 : Int32) T out) (post (2 : Int32) T out)
/-! L_stops -/
def zd_L_stops (cI cL : ClassId) (adO qO3 qO4 qO5 qO6 adP0 qP00 qP01 qP02 qP03 qP04 adP1 qP10 qP11 qP12 qP13 qP14 adT qT0 qT1 qT2 qT3 qT4 qT5 qT6 qT7 qout oO2 oO7 oO9 oO10 oO11 : Nat) (O : zMem) (P0 : zMem) (P1 : zMem) (T : zMem) (out : zRowL) : va_W := [(adO, .inr (4, [.ref adP0, .ref adP1, .ref oO2, .ref qO3, .ref qO4, .ref qO5, .ref qO6, .ref oO7, .ref adT, .ref oO9, .ref oO10, .ref oO11, .int (O 12 0), .int (O 13 0), .int (O 14 0)])), (qO3, .inl (cI, 6, .inl (O 3))), (qO4, .inl (cI, 6, .inl (O 4))), (qO5, .inl (cI, 3, .inl (O 5))), (qO6, .inl (cI, 3, .inl (O 6))), (adP0, .inr (2, [.ref qP00, .ref qP01, .ref qP02, .ref qP03, .ref qP04, .int (P0 5 0)])), (qP00, .inl (cI, 2, .inl (P0 0))), (qP01, .inl (cI, 2, .inl (P0 1))), (qP02, .inl (cI, 6, .inl (P0 2))), (qP03, .inl (cI, 6, .inl (P0 3))), (qP04, .inl (cI, 6, .inl (P0 4))), (adP1, .inr (2, [.ref qP10, .ref qP11, .ref qP12, .ref qP13, .ref qP14, .int (P1 5 0)])), (qP10, .inl (cI, 2, .inl (P1 0))), (qP11, .inl (cI, 2, .inl (P1 1))), (qP12, .inl (cI, 6, .inl (P1 2))), (qP13, .inl (cI, 6, .inl (P1 3))), (qP14, .inl (cI, 6, .inl (P1 4))), (adT, .inr (3, [.ref qT0, .ref qT1, .ref qT2, .ref qT3, .ref qT4, .ref qT5, .ref qT6, .ref qT7, .int (T 8 0), .int (T 9 0), .int (T 10 0)])), (qT0, .inl (cI, 8, .inl (T 0))), (qT1, .inl (cI, 8, .inl (T 1))), (qT2, .inl (cI, 8, .inl (T 2))), (qT3, .inl (cI, 8, .inl (T 3))), (qT4, .inl (cI, 8, .inl (T 4))), (qT5, .inl (cI, 8, .inl (T 5))), (qT6, .inl (cI, 8, .inl (T 6))), (qT7, .inl (cI, 16, .inl (T 7))), (qout, .inl (cL, 1, .inr (.inl out)))]
abbrev rmL_stops : Room := { frames := 8, cells := 1, slots := 6, locals := 140 }
def zw_L_stops (O : zMem) (P0 : zMem) (P1 : zMem) (T : zMem) (out : zRowL) (b0 : Int32) (post : Int32 → zMem → zRowL → Prop) : Prop := zw_X5_stops O P0 P1 T b0 (fun (v_2 : Int32) (T_1 : zMem) => ((v_2 = 0 → ∀ r_4 : zRowL, r_4 = (vp_updL out (Int32.toNatClampNeg (0 : Int32)) (0 : Int64)) → (post (0 : Int32) T_1 r_4)) ∧ (¬ v_2 = 0 → ∀ r_5 : zRowL, r_5 = (vp_updL out (Int32.toNatClampNeg (0 : Int32)) (1 : Int64)) → (post (0 : Int32) T_1 r_5)))) (post (1 : Int32) T out)
/-! L_extreme -/
def zd_L_extreme (cI cL : ClassId) (adO qO3 qO4 qO5 qO6 adP0 qP00 qP01 qP02 qP03 qP04 adP1 qP10 qP11 qP12 qP13 qP14 adT qT0 qT1 qT2 qT3 qT4 qT5 qT6 qT7 adF1 qF10 qF11 qF12 qF13 adF2 qF20 qF21 qF22 qF23 qout oO2 oO7 oO9 : Nat) (O : zMem) (P0 : zMem) (P1 : zMem) (T : zMem) (F1 : zMem) (F2 : zMem) (out : zRowL) : va_W := [(adO, .inr (4, [.ref adP0, .ref adP1, .ref oO2, .ref qO3, .ref qO4, .ref qO5, .ref qO6, .ref oO7, .ref adT, .ref oO9, .ref adF1, .ref adF2, .int (O 12 0), .int (O 13 0), .int (O 14 0)])), (qO3, .inl (cI, 6, .inl (O 3))), (qO4, .inl (cI, 6, .inl (O 4))), (qO5, .inl (cI, 3, .inl (O 5))), (qO6, .inl (cI, 3, .inl (O 6))), (adP0, .inr (2, [.ref qP00, .ref qP01, .ref qP02, .ref qP03, .ref qP04, .int (P0 5 0)])), (qP00, .inl (cI, 2, .inl (P0 0))), (qP01, .inl (cI, 2, .inl (P0 1))), (qP02, .inl (cI, 6, .inl (P0 2))), (qP03, .inl (cI, 6, .inl (P0 3))), (qP04, .inl (cI, 6, .inl (P0 4))), (adP1, .inr (2, [.ref qP10, .ref qP11, .ref qP12, .ref qP13, .ref qP14, .int (P1 5 0)])), (qP10, .inl (cI, 2, .inl (P1 0))), (qP11, .inl (cI, 2, .inl (P1 1))), (qP12, .inl (cI, 6, .inl (P1 2))), (qP13, .inl (cI, 6, .inl (P1 3))), (qP14, .inl (cI, 6, .inl (P1 4))), (adT, .inr (3, [.ref qT0, .ref qT1, .ref qT2, .ref qT3, .ref qT4, .ref qT5, .ref qT6, .ref qT7, .int (T 8 0), .int (T 9 0), .int (T 10 0)])), (qT0, .inl (cI, 8, .inl (T 0))), (qT1, .inl (cI, 8, .inl (T 1))), (qT2, .inl (cI, 8, .inl (T 2))), (qT3, .inl (cI, 8, .inl (T 3))), (qT4, .inl (cI, 8, .inl (T 4))), (qT5, .inl (cI, 8, .inl (T 5))), (qT6, .inl (cI, 8, .inl (T 6))), (qT7, .inl (cI, 16, .inl (T 7))), (adF1, .inr (0, [.ref qF10, .ref qF11, .ref qF12, .ref qF13])), (qF10, .inl (cI, 16, .inl (F1 0))), (qF11, .inl (cI, 16, .inl (F1 1))), (qF12, .inl (cI, 32, .inl (F1 2))), (qF13, .inl (cI, 32, .inl (F1 3))), (adF2, .inr (0, [.ref qF20, .ref qF21, .ref qF22, .ref qF23])), (qF20, .inl (cI, 16, .inl (F2 0))), (qF21, .inl (cI, 16, .inl (F2 1))), (qF22, .inl (cI, 32, .inl (F2 2))), (qF23, .inl (cI, 32, .inl (F2 3))), (qout, .inl (cL, 1, .inr (.inl out)))]
abbrev rmL_extreme : Room := { frames := 8, cells := 1, slots := 6, locals := 169 }
def zw_L_extreme (O : zMem) (P0 : zMem) (P1 : zMem) (T : zMem) (F1 : zMem) (F2 : zMem) (out : zRowL) (b0 : Int32) (b1 : Int32) (b2 : Int32) (post : Int32 → zMem → zMem → zMem → zRowL → Prop) : Prop := zw_X5_extreme O P0 P1 T F1 F2 b0 b1 b2 (fun (v_4 : Int32) (T_1 : zMem) (T_2 : zMem) (T_3 : zMem) => ∀ r_5 : zRowL, r_5 = (vp_updL out (Int32.toNatClampNeg (0 : Int32)) (Int32.toInt64 v_4)) → (post (0 : Int32) T_1 T_2 T_3 r_5)) (post (1 : Int32) T F1 F2 out) (post (2 : Int32) T F1 F2 out)
/-! L_list -/
def zd_L_list (cI cL : ClassId) (adO qO3 qO4 qO5 qO6 qout oO0 oO1 oO2 oO7 oO8 oO9 oO10 oO11 : Nat) (O : zMem) (out : zRowL) : va_W := [(adO, .inr (4, [.ref oO0, .ref oO1, .ref oO2, .ref qO3, .ref qO4, .ref qO5, .ref qO6, .ref oO7, .ref oO8, .ref oO9, .ref oO10, .ref oO11, .int (O 12 0), .int (O 13 0), .int (O 14 0)])), (qO3, .inl (cI, 6, .inl (O 3))), (qO4, .inl (cI, 6, .inl (O 4))), (qO5, .inl (cI, 3, .inl (O 5))), (qO6, .inl (cI, 3, .inl (O 6))), (qout, .inl (cL, 1, .inr (.inl out)))]
abbrev rmL_list : Room := { frames := 8, cells := 1, slots := 6, locals := 135 }
def zw_L_list (O : zMem) (out : zRowL) (b0 : Int32) (b1 : Int32) (post : Int32 → zMem → zRowL → Prop) : Prop := zw_X5_list O b0 b1 (fun (v_2 : Int32) (T_1 : zMem) => ∀ r_3 : zRowL, r_3 = (vp_updL out (Int32.toNatClampNeg (0 : Int32)) (Int32.toInt64 v_2)) → (post (0 : Int32) T_1 r_3)) (post (1 : Int32) O out)
/-! L_choose -/
def zd_L_choose (cI cL : ClassId) (adO qO3 qO4 qO5 qO6 adP0 qP00 qP01 qP02 qP03 qP04 adP1 qP10 qP11 qP12 qP13 qP14 adP2 qP20 qP21 qP22 qP23 qP24 adT qT0 qT1 qT2 qT3 qT4 qT5 qT6 qT7 adF1 qF10 qF11 qF12 qF13 adF2 qF20 qF21 qF22 qF23 qout oO7 oO9 : Nat) (O : zMem) (P0 : zMem) (P1 : zMem) (P2 : zMem) (T : zMem) (F1 : zMem) (F2 : zMem) (out : zRowL) : va_W := [(adO, .inr (4, [.ref adP0, .ref adP1, .ref adP2, .ref qO3, .ref qO4, .ref qO5, .ref qO6, .ref oO7, .ref adT, .ref oO9, .ref adF1, .ref adF2, .int (O 12 0), .int (O 13 0), .int (O 14 0)])), (qO3, .inl (cI, 6, .inl (O 3))), (qO4, .inl (cI, 6, .inl (O 4))), (qO5, .inl (cI, 3, .inl (O 5))), (qO6, .inl (cI, 3, .inl (O 6))), (adP0, .inr (2, [.ref qP00, .ref qP01, .ref qP02, .ref qP03, .ref qP04, .int (P0 5 0)])), (qP00, .inl (cI, 2, .inl (P0 0))), (qP01, .inl (cI, 2, .inl (P0 1))), (qP02, .inl (cI, 6, .inl (P0 2))), (qP03, .inl (cI, 6, .inl (P0 3))), (qP04, .inl (cI, 6, .inl (P0 4))), (adP1, .inr (2, [.ref qP10, .ref qP11, .ref qP12, .ref qP13, .ref qP14, .int (P1 5 0)])), (qP10, .inl (cI, 2, .inl (P1 0))), (qP11, .inl (cI, 2, .inl (P1 1))), (qP12, .inl (cI, 6, .inl (P1 2))), (qP13, .inl (cI, 6, .inl (P1 3))), (qP14, .inl (cI, 6, .inl (P1 4))), (adP2, .inr (2, [.ref qP20, .ref qP21, .ref qP22, .ref qP23, .ref qP24, .int (P2 5 0)])), (qP20, .inl (cI, 2, .inl (P2 0))), (qP21, .inl (cI, 2, .inl (P2 1))), (qP22, .inl (cI, 6, .inl (P2 2))), (qP23, .inl (cI, 6, .inl (P2 3))), (qP24, .inl (cI, 6, .inl (P2 4))), (adT, .inr (3, [.ref qT0, .ref qT1, .ref qT2, .ref qT3, .ref qT4, .ref qT5, .ref qT6, .ref qT7, .int (T 8 0), .int (T 9 0), .int (T 10 0)])), (qT0, .inl (cI, 8, .inl (T 0))), (qT1, .inl (cI, 8, .inl (T 1))), (qT2, .inl (cI, 8, .inl (T 2))), (qT3, .inl (cI, 8, .inl (T 3))), (qT4, .inl (cI, 8, .inl (T 4))), (qT5, .inl (cI, 8, .inl (T 5))), (qT6, .inl (cI, 8, .inl (T 6))), (qT7, .inl (cI, 16, .inl (T 7))), (adF1, .inr (0, [.ref qF10, .ref qF11, .ref qF12, .ref qF13])), (qF10, .inl (cI, 16, .inl (F1 0))), (qF11, .inl (cI, 16, .inl (F1 1))), (qF12, .inl (cI, 32, .inl (F1 2))), (qF13, .inl (cI, 32, .inl (F1 3))), (adF2, .inr (0, [.ref qF20, .ref qF21, .ref qF22, .ref qF23])), (qF20, .inl (cI, 16, .inl (F2 0))), (qF21, .inl (cI, 16, .inl (F2 1))), (qF22, .inl (cI, 32, .inl (F2 2))), (qF23, .inl (cI, 32, .inl (F2 3))), (qout, .inl (cL, 1, .inr (.inl out)))]
abbrev rmL_choose : Room := { frames := 8, cells := 1, slots := 6, locals := 190 }
def zw_L_choose (O : zMem) (P0 : zMem) (P1 : zMem) (P2 : zMem) (T : zMem) (F1 : zMem) (F2 : zMem) (out : zRowL) (b0 : Int32) (b1 : Int32) (post : Int32 → zMem → zMem → zMem → zMem → zMem → zMem → zMem → zRowL → Prop) : Prop := zw_X5_choose O P0 P1 P2 T F1 F2 b0 b1 (fun (v_8 : Int32) (T_1 : zMem) (T_2 : zMem) (T_3 : zMem) (T_4 : zMem) (T_5 : zMem) (T_6 : zMem) (T_7 : zMem) => ∀ r_9 : zRowL, r_9 = (vp_updL out (Int32.toNatClampNeg (0 : Int32)) (Int32.toInt64 v_8)) → (post (0 : Int32) T_1 T_2 T_3 T_4 T_5 T_6 T_7 r_9)) (post (1 : Int32) O P0 P1 P2 T F1 F2 out) (post (2 : Int32) O P0 P1 P2 T F1 F2 out)
/-! L_pane -/
def zd_L_pane (cI cL : ClassId) (adO qO3 qO4 qO5 qO6 adN qN0 qN1 qN2 qN3 qN4 qN5 qout oO0 oO1 oO2 oO8 oO9 oO10 oO11 : Nat) (O : zMem) (N : zMem) (out : zRowL) : va_W := [(adO, .inr (4, [.ref oO0, .ref oO1, .ref oO2, .ref qO3, .ref qO4, .ref qO5, .ref qO6, .ref adN, .ref oO8, .ref oO9, .ref oO10, .ref oO11, .int (O 12 0), .int (O 13 0), .int (O 14 0)])), (qO3, .inl (cI, 6, .inl (O 3))), (qO4, .inl (cI, 6, .inl (O 4))), (qO5, .inl (cI, 3, .inl (O 5))), (qO6, .inl (cI, 3, .inl (O 6))), (adN, .inr (1, [.ref qN0, .ref qN1, .ref qN2, .ref qN3, .ref qN4, .ref qN5, .int (N 6 0)])), (qN0, .inl (cI, 8, .inl (N 0))), (qN1, .inl (cI, 8, .inl (N 1))), (qN2, .inl (cI, 8, .inl (N 2))), (qN3, .inl (cI, 8, .inl (N 3))), (qN4, .inl (cI, 8, .inl (N 4))), (qN5, .inl (cI, 8, .inl (N 5))), (qout, .inl (cL, 1, .inr (.inl out)))]
abbrev rmL_pane : Room := { frames := 7, cells := 1, slots := 6, locals := 114 }
def zw_L_pane (O : zMem) (N : zMem) (out : zRowL) (b0 : Int32) (b1 : Int32) (b2 : Int32) (b3 : Int32) (post : Int32 → zMem → zRowL → Prop) : Prop := zw_X5_pane O N b0 b1 b2 b3 (fun (v_2 : Int32) (T_1 : zMem) => ∀ r_3 : zRowL, r_3 = (vp_updL out (Int32.toNatClampNeg (0 : Int32)) (Int32.toInt64 v_2)) → (post (0 : Int32) T_1 r_3)) (post (1 : Int32) N out)
/-! L_share -/
def zd_L_share (cI cL : ClassId) (adO qO3 qO4 qO5 qO6 adN qN0 qN1 qN2 qN3 qN4 qN5 adF0 qF00 qF01 qF02 qF03 qout oO0 oO1 oO2 oO8 oO10 oO11 : Nat) (O : zMem) (N : zMem) (F0 : zMem) (out : zRowL) : va_W := [(adO, .inr (4, [.ref oO0, .ref oO1, .ref oO2, .ref qO3, .ref qO4, .ref qO5, .ref qO6, .ref adN, .ref oO8, .ref adF0, .ref oO10, .ref oO11, .int (O 12 0), .int (O 13 0), .int (O 14 0)])), (qO3, .inl (cI, 6, .inl (O 3))), (qO4, .inl (cI, 6, .inl (O 4))), (qO5, .inl (cI, 3, .inl (O 5))), (qO6, .inl (cI, 3, .inl (O 6))), (adN, .inr (1, [.ref qN0, .ref qN1, .ref qN2, .ref qN3, .ref qN4, .ref qN5, .int (N 6 0)])), (qN0, .inl (cI, 8, .inl (N 0))), (qN1, .inl (cI, 8, .inl (N 1))), (qN2, .inl (cI, 8, .inl (N 2))), (qN3, .inl (cI, 8, .inl (N 3))), (qN4, .inl (cI, 8, .inl (N 4))), (qN5, .inl (cI, 8, .inl (N 5))), (adF0, .inr (0, [.ref qF00, .ref qF01, .ref qF02, .ref qF03])), (qF00, .inl (cI, 16, .inl (F0 0))), (qF01, .inl (cI, 16, .inl (F0 1))), (qF02, .inl (cI, 32, .inl (F0 2))), (qF03, .inl (cI, 32, .inl (F0 3))), (qout, .inl (cL, 1, .inr (.inl out)))]
abbrev rmL_share : Room := { frames := 8, cells := 1, slots := 6, locals := 142 }
def zw_L_share (O : zMem) (N : zMem) (F0 : zMem) (out : zRowL) (b0 : Int32) (b1 : Int32) (b2 : Int32) (post : Int32 → zMem → zMem → zRowL → Prop) : Prop := zw_X5_share O N F0 b0 b1 b2 (fun (v_3 : Int32) (T_1 : zMem) (T_2 : zMem) => ∀ r_4 : zRowL, r_4 = (vp_updL out (Int32.toNatClampNeg (0 : Int32)) (Int32.toInt64 v_3)) → (post (0 : Int32) T_1 T_2 r_4)) (post (1 : Int32) N F0 out)
theorem zy_L_edge : yL_edge.cls ≠ "java/lang/invoke/MethodHandle" ∧ yL_edge.cls ≠ "java/lang/invoke/VarHandle" ∧ (parseMethodDescriptor yL_edge.desc).map (fun d => d.parameters.length) = some 5 := by decide +kernel
set_option maxHeartbeats 4000000 in
set_option maxRecDepth 100000 in
theorem zc_L_edge (l : Launch) (hlt : l.stackTraces = false) (G : va_G) (cI cL : ClassId) (adO qO3 qO4 qO5 qO6 adP0 qP00 qP01 qP02 qP03 qP04 adP1 qP10 qP11 qP12 qP13 qP14 oO2 oO7 oO8 oO9 oO10 oO11 : Nat) (O : zMem) (P0 : zMem) (P1 : zMem) (b0 : Int32) (b1 : Int32) (b2 : Int32) (b3 : Int32) (post : Int32 → zMem → zMem → Prop) (hF : zw_L_edge O P0 P1 b0 b1 b2 b3 post) (sz : Nat) : Met l yL_edge wsL_edge rmL_edge (va_Pc [.ref adO, .int b0, .int b1, .int b2, .int b3] (zl_in G cI cL (zd_L_edge cI cL adO qO3 qO4 qO5 qO6 adP0 qP00 qP01 qP02 qP03 qP04 adP1 qP10 qP11 qP12 qP13 qP14 oO2 oO7 oO8 oO9 oO10 oO11 O P0 P1) sz)) (va_Qi (fun (rz : Int32) (uz : zMem × zMem) => post rz uz.1 uz.2) (fun (uz : zMem × zMem) t => zv_out G cI (va_A (zd_L_edge cI cL adO qO3 qO4 qO5 qO6 adP0 qP00 qP01 qP02 qP03 qP04 adP1 qP10 qP11 qP12 qP13 qP14 oO2 oO7 oO8 oO9 oO10 oO11 O P0 P1) sz) (zd_L_edge cI cL adO qO3 qO4 qO5 qO6 adP0 qP00 qP01 qP02 qP03 qP04 adP1 qP10 qP11 qP12 qP13 qP14 oO2 oO7 oO8 oO9 oO10 oO11 O uz.1 uz.2) t) (va_A (zd_L_edge cI cL adO qO3 qO4 qO5 qO6 adP0 qP00 qP01 qP02 qP03 qP04 adP1 qP10 qP11 qP12 qP13 qP14 oO2 oO7 oO8 oO9 oO10 oO11 O P0 P1) sz)) 1 6 (va_A (zd_L_edge cI cL adO qO3 qO4 qO5 qO6 adP0 qP00 qP01 qP02 qP03 qP04 adP1 qP10 qP11 qP12 qP13 qP14 oO2 oO7 oO8 oO9 oO10 oO11 O P0 P1) sz) := by
  refine zl_met (cc := cL_edge) (maxL := 6) (ret := (some .int)) (hh := [(0, 9, 12, 13), (0, 9, 16, 15)]) (lv0 := [(0, .ref adO), (1, .int b0), (2, .int b1), (3, .int b2), (4, .int b3)]) (Qc := fun A => va_Qi (fun (rz : Int32) (uz : zMem × zMem) => post rz uz.1 uz.2) (fun (uz : zMem × zMem) t => zv_out G cI A (zd_L_edge cI cL adO qO3 qO4 qO5 qO6 adP0 qP00 qP01 qP02 qP03 qP04 adP1 qP10 qP11 qP12 qP13 qP14 oO2 oO7 oO8 oO9 oO10 oO11 O uz.1 uz.2) t) A) (by decide) rfl (Nat.le_of_ble_eq_true rfl) rfl ?_ sz
  intro p e s m below meth c A C hB hKL hN hTb hr hlk
  clear sz
  refine zv_aload_n (pc := 0) C rfl 0 rfl dL_edge_0 ?_
  refine zv_iload_n (pc := 1) C rfl 1 rfl dL_edge_1 ?_
  refine zv_iload_n (pc := 2) C rfl 2 rfl dL_edge_2 ?_
  refine zv_iload_n (pc := 3) C rfl 3 rfl dL_edge_3 ?_
  refine zv_iload (pc := 4) C 4 rfl dL_edge_4 ?_
  refine zl_cv (pc := 6) (ws' := (fun uz : zMem × zMem => (zd_L_edge cI cL adO qO3 qO4 qO5 qO6 adP0 qP00 qP01 qP02 qP03 qP04 adP1 qP10 qP11 qP12 qP13 qP14 oO2 oO7 oO8 oO9 oO10 oO11 O uz.1 uz.2))) C (zl_runV (As := [.int b0, .int b1, .int b2, .int b3]) (b := adO) (rest := []) (ci := 4) (q0 := 0) C hB (zc_X5_edge l hlt G cI adO qO3 qO4 qO5 qO6 adP0 qP00 qP01 qP02 qP03 qP04 adP1 qP10 qP11 qP12 qP13 qP14 oO2 oO7 oO8 oO9 oO10 oO11 O P0 P1 b0 b1 b2 b3 _ _ _ hF) (cwV 4 C.2.2.2.2.1 gL_edge_X5_edge rfl rfl rfl zy_X5_edge ⟨(Nat.le_of_ble_eq_true rfl), (Nat.le_of_ble_eq_true rfl)⟩) rfl rfl rfl rfl rfl (Nat.le_of_ble_eq_true rfl) ⟨(Nat.le_of_ble_eq_true rfl), (Nat.le_of_ble_eq_true rfl)⟩ dL_edge_6) [0, 1, 2, 3, 4, 5, 6, 7, 8, 9, 10, 11, 12, 13, 14, 15, 16] [] rfl rfl rfl rfl rfl rfl (fun _ => rfl) (fun _ => rfl) (fun _ => rfl) ?_ (fun uz hF => ?_)
  · rintro E (⟨rfl, hF⟩ | ⟨rfl, hF⟩)
    · refine ⟨12, zl_H1 hTb rfl (by decide) (C.2.2.2.2.1 _ (List.mem_of_getElem? (i := 1) rfl)) (va_Nw.use rfl (hB.2.2.2 _ (List.mem_of_getElem? (i := 1) rfl))), fun q9 => ?_⟩
      refine zv_cs (k := 1) (n := 6) rfl rfl ?_
      refine zv_astore (pc := 12) (lv' := [(5, .ref q9), (0, .ref adO), (1, .int b0), (2, .int b1), (3, .int b2), (4, .int b3)]) C (by decide) rfl dL_edge_12 ?_
      refine zv_iconst (pc := 14) (v := 1) C (by decide) dL_edge_14 ?_
      exact zv_iret (pc := 15) C hr hlk (1 : Int32) (P0, P1) hF rfl dL_edge_15
    · refine ⟨16, zl_H2 hTb (by decide) (C.2.2.2.2.1 _ (List.mem_of_getElem? (i := 1) rfl)) hN.1 rfl (by decide) (C.2.2.2.2.1 _ (List.mem_of_getElem? (i := 2) rfl)) (va_Nw.use rfl (hB.2.2.2 _ (List.mem_of_getElem? (i := 0) rfl))), fun q9 => ?_⟩
      refine zv_cs (k := 1) (n := 6) rfl rfl ?_
      refine zv_astore (pc := 16) (lv' := [(5, .ref q9), (0, .ref adO), (1, .int b0), (2, .int b1), (3, .int b2), (4, .int b3)]) C (by decide) rfl dL_edge_16 ?_
      refine zv_iconst (pc := 18) (v := 2) C (by decide) dL_edge_18 ?_
      exact zv_iret (pc := 19) C hr hlk (2 : Int32) (P0, P1) hF rfl dL_edge_19
  · skip
    refine zv_cs (k := 1) (n := 6) rfl rfl ?_
    obtain ⟨T_1, T_2⟩ := uz
    refine zv_goto (pc := 9) (tgt := 20) C dL_edge_9 (by decide) ?_
    refine zv_iconst (pc := 20) (v := 0) C (by decide) dL_edge_20 ?_
    exact zv_iret (pc := 21) C hr hlk (0 : Int32) (T_1, T_2) hF rfl dL_edge_21
theorem zy_L_layer : yL_layer.cls ≠ "java/lang/invoke/MethodHandle" ∧ yL_layer.cls ≠ "java/lang/invoke/VarHandle" ∧ (parseMethodDescriptor yL_layer.desc).map (fun d => d.parameters.length) = some 7 := by decide +kernel
set_option maxHeartbeats 4000000 in
set_option maxRecDepth 100000 in
theorem zc_L_layer (l : Launch) (hlt : l.stackTraces = false) (G : va_G) (cI cL : ClassId) (adO qO3 qO4 qO5 qO6 adP0 qP00 qP01 qP02 qP03 qP04 adP1 qP10 qP11 qP12 qP13 qP14 qout oO2 oO7 oO8 oO9 oO10 oO11 : Nat) (O : zMem) (P0 : zMem) (P1 : zMem) (out : zRowL) (b0 : Int32) (b1 : Int32) (b2 : Int32) (b3 : Int32) (b4 : Int32) (post : Int32 → zMem → zMem → zRowL → Prop) (hF : zw_L_layer O P0 P1 out b0 b1 b2 b3 b4 post) (sz : Nat) : Met l yL_layer wsL_layer rmL_layer (va_Pc [.ref adO, .int b0, .int b1, .int b2, .int b3, .int b4, .ref qout] (zl_in G cI cL (zd_L_layer cI cL adO qO3 qO4 qO5 qO6 adP0 qP00 qP01 qP02 qP03 qP04 adP1 qP10 qP11 qP12 qP13 qP14 qout oO2 oO7 oO8 oO9 oO10 oO11 O P0 P1 out) sz)) (va_Qi (fun (rz : Int32) (uz : zMem × zMem × zRowL) => post rz uz.1 uz.2.1 uz.2.2) (fun (uz : zMem × zMem × zRowL) t => zv_out G cI (va_A (zd_L_layer cI cL adO qO3 qO4 qO5 qO6 adP0 qP00 qP01 qP02 qP03 qP04 adP1 qP10 qP11 qP12 qP13 qP14 qout oO2 oO7 oO8 oO9 oO10 oO11 O P0 P1 out) sz) (zd_L_layer cI cL adO qO3 qO4 qO5 qO6 adP0 qP00 qP01 qP02 qP03 qP04 adP1 qP10 qP11 qP12 qP13 qP14 qout oO2 oO7 oO8 oO9 oO10 oO11 O uz.1 uz.2.1 uz.2.2) t) (va_A (zd_L_layer cI cL adO qO3 qO4 qO5 qO6 adP0 qP00 qP01 qP02 qP03 qP04 adP1 qP10 qP11 qP12 qP13 qP14 qout oO2 oO7 oO8 oO9 oO10 oO11 O P0 P1 out) sz)) 1 6 (va_A (zd_L_layer cI cL adO qO3 qO4 qO5 qO6 adP0 qP00 qP01 qP02 qP03 qP04 adP1 qP10 qP11 qP12 qP13 qP14 qout oO2 oO7 oO8 oO9 oO10 oO11 O P0 P1 out) sz) := by
  refine zl_met (cc := cL_layer) (maxL := 8) (ret := (some .int)) (hh := [(0, 16, 19, 13), (0, 16, 23, 15)]) (lv0 := [(0, .ref adO), (1, .int b0), (2, .int b1), (3, .int b2), (4, .int b3), (5, .int b4), (6, .ref qout)]) (Qc := fun A => va_Qi (fun (rz : Int32) (uz : zMem × zMem × zRowL) => post rz uz.1 uz.2.1 uz.2.2) (fun (uz : zMem × zMem × zRowL) t => zv_out G cI A (zd_L_layer cI cL adO qO3 qO4 qO5 qO6 adP0 qP00 qP01 qP02 qP03 qP04 adP1 qP10 qP11 qP12 qP13 qP14 qout oO2 oO7 oO8 oO9 oO10 oO11 O uz.1 uz.2.1 uz.2.2) t) A) (by decide) rfl (Nat.le_of_ble_eq_true rfl) rfl ?_ sz
  intro p e s m below meth c A C hB hKL hN hTb hr hlk
  clear sz
  refine zv_aload (pc := 0) C 6 rfl dL_layer_0 ?_
  refine zv_iconst (pc := 2) (v := 0) C (by decide) dL_layer_2 ?_
  refine zv_aload_n (pc := 3) C rfl 0 rfl dL_layer_3 ?_
  refine zv_iload_n (pc := 4) C rfl 1 rfl dL_layer_4 ?_
  refine zv_iload_n (pc := 5) C rfl 2 rfl dL_layer_5 ?_
  refine zv_iload_n (pc := 6) C rfl 3 rfl dL_layer_6 ?_
  refine zv_iload (pc := 7) C 4 rfl dL_layer_7 ?_
  refine zv_iload (pc := 9) C 5 rfl dL_layer_9 ?_
  refine zl_ci (pc := 11) (ws' := (fun uz : zMem × zMem => (zd_L_layer cI cL adO qO3 qO4 qO5 qO6 adP0 qP00 qP01 qP02 qP03 qP04 adP1 qP10 qP11 qP12 qP13 qP14 qout oO2 oO7 oO8 oO9 oO10 oO11 O uz.1 uz.2 out))) C (zl_runV (As := [.int b0, .int b1, .int b2, .int b3, .int b4]) (b := adO) (rest := [.int (0 : Int32), .ref qout]) (ci := 4) (q0 := 0) C hB (zc_X5_layer l hlt G cI adO qO3 qO4 qO5 qO6 adP0 qP00 qP01 qP02 qP03 qP04 adP1 qP10 qP11 qP12 qP13 qP14 oO2 oO7 oO8 oO9 oO10 oO11 O P0 P1 b0 b1 b2 b3 b4 _ _ _ hF) (cwV 5 C.2.2.2.2.1 gL_layer_X5_layer rfl rfl rfl zy_X5_layer ⟨(Nat.le_of_ble_eq_true rfl), (Nat.le_of_ble_eq_true rfl)⟩) rfl rfl rfl rfl rfl (Nat.le_of_ble_eq_true rfl) ⟨(Nat.le_of_ble_eq_true rfl), (Nat.le_of_ble_eq_true rfl)⟩ dL_layer_11) [0, 1, 2, 3, 4, 5, 6, 7, 8, 9, 10, 11, 12, 13, 14, 15, 16] [17] rfl rfl rfl rfl rfl rfl (fun _ => rfl) (fun _ => rfl) (fun _ => rfl) ?_ (fun v_3 uz hF => ?_)
  · rintro E (⟨rfl, hF⟩ | ⟨rfl, hF⟩)
    · refine ⟨19, zl_H1 hTb rfl (by decide) (C.2.2.2.2.1 _ (List.mem_of_getElem? (i := 1) rfl)) (va_Nw.use rfl (hB.2.2.2 _ (List.mem_of_getElem? (i := 1) rfl))), fun q9 => ?_⟩
      refine zv_cs (k := 1) (n := 6) rfl rfl ?_
      refine zv_astore (pc := 19) (lv' := [(7, .ref q9), (0, .ref adO), (1, .int b0), (2, .int b1), (3, .int b2), (4, .int b3), (5, .int b4), (6, .ref qout)]) C (by decide) rfl dL_layer_19 ?_
      refine zv_iconst (pc := 21) (v := 1) C (by decide) dL_layer_21 ?_
      exact zv_iret (pc := 22) C hr hlk (1 : Int32) (P0, P1, out) hF rfl dL_layer_22
    · refine ⟨23, zl_H2 hTb (by decide) (C.2.2.2.2.1 _ (List.mem_of_getElem? (i := 1) rfl)) hN.1 rfl (by decide) (C.2.2.2.2.1 _ (List.mem_of_getElem? (i := 2) rfl)) (va_Nw.use rfl (hB.2.2.2 _ (List.mem_of_getElem? (i := 0) rfl))), fun q9 => ?_⟩
      refine zv_cs (k := 1) (n := 6) rfl rfl ?_
      refine zv_astore (pc := 23) (lv' := [(7, .ref q9), (0, .ref adO), (1, .int b0), (2, .int b1), (3, .int b2), (4, .int b3), (5, .int b4), (6, .ref qout)]) C (by decide) rfl dL_layer_23 ?_
      refine zv_iconst (pc := 25) (v := 2) C (by decide) dL_layer_25 ?_
      exact zv_iret (pc := 26) C hr hlk (2 : Int32) (P0, P1, out) hF rfl dL_layer_26
  · skip
    refine zv_cs (k := 1) (n := 6) rfl rfl ?_
    obtain ⟨T_1, T_2⟩ := uz
    refine zv_i2l (pc := 14) C  dL_layer_14 ?_
    obtain ⟨r_4, er_4⟩ : ∃ y : zRowL, y = (vp_updL out (Int32.toNatClampNeg (0 : Int32)) (Int32.toInt64 v_3)) := ⟨_, rfl⟩
    replace hF := hF r_4 er_4
    refine zl_last (pc := 15) (n := 1) (f := out) (ws' := (zd_L_layer cI cL adO qO3 qO4 qO5 qO6 adP0 qP00 qP01 qP02 qP03 qP04 adP1 qP10 qP11 qP12 qP13 qP14 qout oO2 oO7 oO8 oO9 oO10 oO11 O T_1 T_2 r_4)) C hKL 17 (vp_in_iff.mpr (by decide)) rfl (by rw [er_4]; rfl) dL_layer_15 ?_
    refine zv_goto (pc := 16) (tgt := 27) C dL_layer_16 (by decide) ?_
    refine zv_iconst (pc := 27) (v := 0) C (by decide) dL_layer_27 ?_
    exact zv_iret (pc := 28) C hr hlk (0 : Int32) (T_1, T_2, r_4) hF rfl dL_layer_28
theorem zy_L_drop : yL_drop.cls ≠ "java/lang/invoke/MethodHandle" ∧ yL_drop.cls ≠ "java/lang/invoke/VarHandle" ∧ (parseMethodDescriptor yL_drop.desc).map (fun d => d.parameters.length) = some 4 := by decide +kernel
set_option maxHeartbeats 4000000 in
set_option maxRecDepth 100000 in
theorem zc_L_drop (l : Launch) (hlt : l.stackTraces = false) (G : va_G) (cI cL : ClassId) (adO qO3 qO4 qO5 qO6 adP0 qP00 qP01 qP02 qP03 qP04 adP1 qP10 qP11 qP12 qP13 qP14 qout oO2 oO7 oO8 oO9 oO10 oO11 : Nat) (O : zMem) (P0 : zMem) (P1 : zMem) (out : zRowL) (b0 : Int32) (b1 : Int32) (post : Int32 → zMem → zMem → zRowL → Prop) (hF : zw_L_drop O P0 P1 out b0 b1 post) (sz : Nat) : Met l yL_drop wsN_L_drop rmL_drop (va_Pc [.ref adO, .int b0, .int b1, .ref qout] (zl_in G cI cL (zd_L_drop cI cL adO qO3 qO4 qO5 qO6 adP0 qP00 qP01 qP02 qP03 qP04 adP1 qP10 qP11 qP12 qP13 qP14 qout oO2 oO7 oO8 oO9 oO10 oO11 O P0 P1 out) sz)) (va_Qi (fun (rz : Int32) (uz : zMem × zMem × zRowL) => post rz uz.1 uz.2.1 uz.2.2) (fun (uz : zMem × zMem × zRowL) t => zv_out G cI (va_A (zd_L_drop cI cL adO qO3 qO4 qO5 qO6 adP0 qP00 qP01 qP02 qP03 qP04 adP1 qP10 qP11 qP12 qP13 qP14 qout oO2 oO7 oO8 oO9 oO10 oO11 O P0 P1 out) sz) (zd_L_drop cI cL adO qO3 qO4 qO5 qO6 adP0 qP00 qP01 qP02 qP03 qP04 adP1 qP10 qP11 qP12 qP13 qP14 qout oO2 oO7 oO8 oO9 oO10 oO11 O uz.1 uz.2.1 uz.2.2) t) (va_A (zd_L_drop cI cL adO qO3 qO4 qO5 qO6 adP0 qP00 qP01 qP02 qP03 qP04 adP1 qP10 qP11 qP12 qP13 qP14 qout oO2 oO7 oO8 oO9 oO10 oO11 O P0 P1 out) sz)) 1 6 (va_A (zd_L_drop cI cL adO qO3 qO4 qO5 qO6 adP0 qP00 qP01 qP02 qP03 qP04 adP1 qP10 qP11 qP12 qP13 qP14 qout oO2 oO7 oO8 oO9 oO10 oO11 O P0 P1 out) sz) := by
  refine zl_met (cc := cL_drop) (maxL := 5) (ret := (some .int)) (hh := [(0, 10, 13, 13), (0, 10, 17, 25)]) (lv0 := [(0, .ref adO), (1, .int b0), (2, .int b1), (3, .ref qout)]) (Qc := fun A => va_Qi (fun (rz : Int32) (uz : zMem × zMem × zRowL) => post rz uz.1 uz.2.1 uz.2.2) (fun (uz : zMem × zMem × zRowL) t => zv_out G cI A (zd_L_drop cI cL adO qO3 qO4 qO5 qO6 adP0 qP00 qP01 qP02 qP03 qP04 adP1 qP10 qP11 qP12 qP13 qP14 qout oO2 oO7 oO8 oO9 oO10 oO11 O uz.1 uz.2.1 uz.2.2) t) A) (by decide) rfl (Nat.le_of_ble_eq_true rfl) rfl ?_ sz
  intro p e s m below meth c A C hB hKL hN hTb hr hlk
  clear sz
  refine zv_aload_n (pc := 0) C rfl 3 rfl dL_drop_0 ?_
  refine zv_iconst (pc := 1) (v := 0) C (by decide) dL_drop_1 ?_
  refine zv_aload_n (pc := 2) C rfl 0 rfl dL_drop_2 ?_
  refine zv_iload_n (pc := 3) C rfl 1 rfl dL_drop_3 ?_
  refine zv_iload_n (pc := 4) C rfl 2 rfl dL_drop_4 ?_
  refine zl_ci (pc := 5) (ws' := (fun uz : zMem × zMem => (zd_L_drop cI cL adO qO3 qO4 qO5 qO6 adP0 qP00 qP01 qP02 qP03 qP04 adP1 qP10 qP11 qP12 qP13 qP14 qout oO2 oO7 oO8 oO9 oO10 oO11 O uz.1 uz.2 out))) C (zl_runV (As := [.int b0, .int b1]) (b := adO) (rest := [.int (0 : Int32), .ref qout]) (ci := 4) (q0 := 0) C hB (zc_X5_drop l hlt G cI adO qO3 qO4 qO5 qO6 adP0 qP00 qP01 qP02 qP03 qP04 adP1 qP10 qP11 qP12 qP13 qP14 oO2 oO7 oO8 oO9 oO10 oO11 O P0 P1 b0 b1 _ _ _ hF) (cwV 2 C.2.2.2.2.1 gN_L_drop_X5_drop rfl rfl rfl zy_X5_drop ⟨(Nat.le_of_ble_eq_true rfl), (Nat.le_of_ble_eq_true rfl)⟩) rfl rfl rfl rfl rfl (Nat.le_of_ble_eq_true rfl) ⟨(Nat.le_of_ble_eq_true rfl), (Nat.le_of_ble_eq_true rfl)⟩ dL_drop_5) [0, 1, 2, 3, 4, 5, 6, 7, 8, 9, 10, 11, 12, 13, 14, 15, 16] [17] rfl rfl rfl rfl rfl rfl (fun _ => rfl) (fun _ => rfl) (fun _ => rfl) ?_ (fun v_3 uz hF => ?_)
  · rintro E (⟨rfl, hF⟩ | ⟨rfl, hF⟩)
    · refine ⟨13, zl_H1 hTb rfl (by decide) (C.2.2.2.2.1 _ (List.mem_of_getElem? (i := 1) rfl)) (va_Nw.use rfl (hB.2.2.2 _ (List.mem_of_getElem? (i := 1) rfl))), fun q9 => ?_⟩
      refine zv_cs (k := 1) (n := 6) rfl rfl ?_
      refine zv_astore (pc := 13) (lv' := [(4, .ref q9), (0, .ref adO), (1, .int b0), (2, .int b1), (3, .ref qout)]) C (by decide) rfl dL_drop_13 ?_
      refine zv_iconst (pc := 15) (v := 1) C (by decide) dL_drop_15 ?_
      exact zv_iret (pc := 16) C hr hlk (1 : Int32) (P0, P1, out) hF rfl dL_drop_16
    · refine ⟨17, zl_H2 hTb (by decide) (C.2.2.2.2.1 _ (List.mem_of_getElem? (i := 1) rfl)) hN.2 rfl (by decide) (C.2.2.2.2.1 _ (List.mem_of_getElem? (i := 2) rfl)) (va_Nw.use rfl (hB.2.2.2 _ (List.mem_of_getElem? (i := 2) rfl))), fun q9 => ?_⟩
      refine zv_cs (k := 1) (n := 6) rfl rfl ?_
      refine zv_astore (pc := 17) (lv' := [(4, .ref q9), (0, .ref adO), (1, .int b0), (2, .int b1), (3, .ref qout)]) C (by decide) rfl dL_drop_17 ?_
      refine zv_iconst (pc := 19) (v := 2) C (by decide) dL_drop_19 ?_
      exact zv_iret (pc := 20) C hr hlk (2 : Int32) (P0, P1, out) hF rfl dL_drop_20
  · skip
    refine zv_cs (k := 1) (n := 6) rfl rfl ?_
    obtain ⟨T_1, T_2⟩ := uz
    refine zv_i2l (pc := 8) C  dL_drop_8 ?_
    obtain ⟨r_4, er_4⟩ : ∃ y : zRowL, y = (vp_updL out (Int32.toNatClampNeg (0 : Int32)) (Int32.toInt64 v_3)) := ⟨_, rfl⟩
    replace hF := hF r_4 er_4
    refine zl_last (pc := 9) (n := 1) (f := out) (ws' := (zd_L_drop cI cL adO qO3 qO4 qO5 qO6 adP0 qP00 qP01 qP02 qP03 qP04 adP1 qP10 qP11 qP12 qP13 qP14 qout oO2 oO7 oO8 oO9 oO10 oO11 O T_1 T_2 r_4)) C hKL 17 (vp_in_iff.mpr (by decide)) rfl (by rw [er_4]; rfl) dL_drop_9 ?_
    refine zv_goto (pc := 10) (tgt := 21) C dL_drop_10 (by decide) ?_
    refine zv_iconst (pc := 21) (v := 0) C (by decide) dL_drop_21 ?_
    exact zv_iret (pc := 22) C hr hlk (0 : Int32) (T_1, T_2, r_4) hF rfl dL_drop_22
theorem zy_L_about : yL_about.cls ≠ "java/lang/invoke/MethodHandle" ∧ yL_about.cls ≠ "java/lang/invoke/VarHandle" ∧ (parseMethodDescriptor yL_about.desc).map (fun d => d.parameters.length) = some 5 := by decide +kernel
set_option maxHeartbeats 4000000 in
set_option maxRecDepth 100000 in
theorem zc_L_about (l : Launch) (hlt : l.stackTraces = false) (G : va_G) (cI cL : ClassId) (adO qO3 qO4 qO5 qO6 adP0 qP00 qP01 qP02 qP03 qP04 adP1 qP10 qP11 qP12 qP13 qP14 qout oO2 oO7 oO8 oO9 oO10 oO11 : Nat) (O : zMem) (P0 : zMem) (P1 : zMem) (out : zRowL) (b0 : Int32) (b1 : Int32) (b2 : Int32) (post : Int32 → zRowL → Prop) (hF : zw_L_about O P0 P1 out b0 b1 b2 post) (sz : Nat) : Met l yL_about wsN_L_about rmL_about (va_Pc [.ref adO, .int b0, .int b1, .int b2, .ref qout] (zl_in G cI cL (zd_L_about cI cL adO qO3 qO4 qO5 qO6 adP0 qP00 qP01 qP02 qP03 qP04 adP1 qP10 qP11 qP12 qP13 qP14 qout oO2 oO7 oO8 oO9 oO10 oO11 O P0 P1 out) sz)) (va_Qi (fun (rz : Int32) (uz : zRowL) => post rz uz) (fun (uz : zRowL) t => zv_out G cI (va_A (zd_L_about cI cL adO qO3 qO4 qO5 qO6 adP0 qP00 qP01 qP02 qP03 qP04 adP1 qP10 qP11 qP12 qP13 qP14 qout oO2 oO7 oO8 oO9 oO10 oO11 O P0 P1 out) sz) (zd_L_about cI cL adO qO3 qO4 qO5 qO6 adP0 qP00 qP01 qP02 qP03 qP04 adP1 qP10 qP11 qP12 qP13 qP14 qout oO2 oO7 oO8 oO9 oO10 oO11 O P0 P1 uz) t) (va_A (zd_L_about cI cL adO qO3 qO4 qO5 qO6 adP0 qP00 qP01 qP02 qP03 qP04 adP1 qP10 qP11 qP12 qP13 qP14 qout oO2 oO7 oO8 oO9 oO10 oO11 O P0 P1 out) sz)) 1 6 (va_A (zd_L_about cI cL adO qO3 qO4 qO5 qO6 adP0 qP00 qP01 qP02 qP03 qP04 adP1 qP10 qP11 qP12 qP13 qP14 qout oO2 oO7 oO8 oO9 oO10 oO11 O P0 P1 out) sz) := by
  refine zl_met (cc := cL_about) (maxL := 6) (ret := (some .int)) (hh := [(0, 12, 15, 13), (0, 12, 19, 25)]) (lv0 := [(0, .ref adO), (1, .int b0), (2, .int b1), (3, .int b2), (4, .ref qout)]) (Qc := fun A => va_Qi (fun (rz : Int32) (uz : zRowL) => post rz uz) (fun (uz : zRowL) t => zv_out G cI A (zd_L_about cI cL adO qO3 qO4 qO5 qO6 adP0 qP00 qP01 qP02 qP03 qP04 adP1 qP10 qP11 qP12 qP13 qP14 qout oO2 oO7 oO8 oO9 oO10 oO11 O P0 P1 uz) t) A) (by decide) rfl (Nat.le_of_ble_eq_true rfl) rfl ?_ sz
  intro p e s m below meth c A C hB hKL hN hTb hr hlk
  clear sz
  refine zv_aload (pc := 0) C 4 rfl dL_about_0 ?_
  refine zv_iconst (pc := 2) (v := 0) C (by decide) dL_about_2 ?_
  refine zv_aload_n (pc := 3) C rfl 0 rfl dL_about_3 ?_
  refine zv_iload_n (pc := 4) C rfl 1 rfl dL_about_4 ?_
  refine zv_iload_n (pc := 5) C rfl 2 rfl dL_about_5 ?_
  refine zv_iload_n (pc := 6) C rfl 3 rfl dL_about_6 ?_
  refine zl_ci (pc := 7) (ws' := (fun uz : Unit => (zd_L_about cI cL adO qO3 qO4 qO5 qO6 adP0 qP00 qP01 qP02 qP03 qP04 adP1 qP10 qP11 qP12 qP13 qP14 qout oO2 oO7 oO8 oO9 oO10 oO11 O P0 P1 out))) C (zl_runV (As := [.int b0, .int b1, .int b2]) (b := adO) (rest := [.int (0 : Int32), .ref qout]) (ci := 4) (q0 := 0) C hB (zc_X5_about l hlt G cI adO qO3 qO4 qO5 qO6 adP0 qP00 qP01 qP02 qP03 qP04 adP1 qP10 qP11 qP12 qP13 qP14 oO2 oO7 oO8 oO9 oO10 oO11 O P0 P1 b0 b1 b2 _ _ _ hF) (cwV 3 C.2.2.2.2.1 gN_L_about_X5_about rfl rfl rfl zy_X5_about ⟨(Nat.le_of_ble_eq_true rfl), (Nat.le_of_ble_eq_true rfl)⟩) rfl rfl rfl rfl rfl (Nat.le_of_ble_eq_true rfl) ⟨(Nat.le_of_ble_eq_true rfl), (Nat.le_of_ble_eq_true rfl)⟩ dL_about_7) [0, 1, 2, 3, 4, 5, 6, 7, 8, 9, 10, 11, 12, 13, 14, 15, 16] [17] rfl rfl rfl rfl rfl rfl (fun _ => rfl) (fun _ => rfl) (fun _ => rfl) ?_ (fun v_1 uz hF => ?_)
  · rintro E (⟨rfl, hF⟩ | ⟨rfl, hF⟩)
    · refine ⟨15, zl_H1 hTb rfl (by decide) (C.2.2.2.2.1 _ (List.mem_of_getElem? (i := 1) rfl)) (va_Nw.use rfl (hB.2.2.2 _ (List.mem_of_getElem? (i := 1) rfl))), fun q9 => ?_⟩
      refine zv_cs (k := 1) (n := 6) rfl rfl ?_
      refine zv_astore (pc := 15) (lv' := [(5, .ref q9), (0, .ref adO), (1, .int b0), (2, .int b1), (3, .int b2), (4, .ref qout)]) C (by decide) rfl dL_about_15 ?_
      refine zv_iconst (pc := 17) (v := 1) C (by decide) dL_about_17 ?_
      exact zv_iret (pc := 18) C hr hlk (1 : Int32) out hF rfl dL_about_18
    · refine ⟨19, zl_H2 hTb (by decide) (C.2.2.2.2.1 _ (List.mem_of_getElem? (i := 1) rfl)) hN.2 rfl (by decide) (C.2.2.2.2.1 _ (List.mem_of_getElem? (i := 2) rfl)) (va_Nw.use rfl (hB.2.2.2 _ (List.mem_of_getElem? (i := 2) rfl))), fun q9 => ?_⟩
      refine zv_cs (k := 1) (n := 6) rfl rfl ?_
      refine zv_astore (pc := 19) (lv' := [(5, .ref q9), (0, .ref adO), (1, .int b0), (2, .int b1), (3, .int b2), (4, .ref qout)]) C (by decide) rfl dL_about_19 ?_
      refine zv_iconst (pc := 21) (v := 2) C (by decide) dL_about_21 ?_
      exact zv_iret (pc := 22) C hr hlk (2 : Int32) out hF rfl dL_about_22
  · skip
    refine zv_cs (k := 1) (n := 6) rfl rfl ?_
    refine zv_i2l (pc := 10) C  dL_about_10 ?_
    obtain ⟨r_2, er_2⟩ : ∃ y : zRowL, y = (vp_updL out (Int32.toNatClampNeg (0 : Int32)) (Int32.toInt64 v_1)) := ⟨_, rfl⟩
    replace hF := hF r_2 er_2
    refine zl_last (pc := 11) (n := 1) (f := out) (ws' := (zd_L_about cI cL adO qO3 qO4 qO5 qO6 adP0 qP00 qP01 qP02 qP03 qP04 adP1 qP10 qP11 qP12 qP13 qP14 qout oO2 oO7 oO8 oO9 oO10 oO11 O P0 P1 r_2)) C hKL 17 (vp_in_iff.mpr (by decide)) rfl (by rw [er_2]; rfl) dL_about_11 ?_
    refine zv_goto (pc := 12) (tgt := 23) C dL_about_12 (by decide) ?_
    refine zv_iconst (pc := 23) (v := 0) C (by decide) dL_about_23 ?_
    exact zv_iret (pc := 24) C hr hlk (0 : Int32) r_2 hF rfl dL_about_24
theorem zy_L_turn : yL_turn.cls ≠ "java/lang/invoke/MethodHandle" ∧ yL_turn.cls ≠ "java/lang/invoke/VarHandle" ∧ (parseMethodDescriptor yL_turn.desc).map (fun d => d.parameters.length) = some 2 := by decide +kernel
set_option maxHeartbeats 4000000 in
set_option maxRecDepth 100000 in
theorem zc_L_turn (l : Launch) (hlt : l.stackTraces = false) (G : va_G) (cI cL : ClassId) (adO qO3 qO4 qO5 qO6 adP0 qP00 qP01 qP02 qP03 qP04 adP1 qP10 qP11 qP12 qP13 qP14 oO2 oO7 oO8 oO9 oO10 oO11 : Nat) (O : zMem) (P0 : zMem) (P1 : zMem) (b0 : Int32) (post : Int32 → zMem → zMem → Prop) (hF : zw_L_turn O P0 P1 b0 post) (sz : Nat) : Met l yL_turn wsL_turn rmL_turn (va_Pc [.ref adO, .int b0] (zl_in G cI cL (zd_L_turn cI cL adO qO3 qO4 qO5 qO6 adP0 qP00 qP01 qP02 qP03 qP04 adP1 qP10 qP11 qP12 qP13 qP14 oO2 oO7 oO8 oO9 oO10 oO11 O P0 P1) sz)) (va_Qi (fun (rz : Int32) (uz : zMem × zMem) => post rz uz.1 uz.2) (fun (uz : zMem × zMem) t => zv_out G cI (va_A (zd_L_turn cI cL adO qO3 qO4 qO5 qO6 adP0 qP00 qP01 qP02 qP03 qP04 adP1 qP10 qP11 qP12 qP13 qP14 oO2 oO7 oO8 oO9 oO10 oO11 O P0 P1) sz) (zd_L_turn cI cL adO qO3 qO4 qO5 qO6 adP0 qP00 qP01 qP02 qP03 qP04 adP1 qP10 qP11 qP12 qP13 qP14 oO2 oO7 oO8 oO9 oO10 oO11 O uz.1 uz.2) t) (va_A (zd_L_turn cI cL adO qO3 qO4 qO5 qO6 adP0 qP00 qP01 qP02 qP03 qP04 adP1 qP10 qP11 qP12 qP13 qP14 oO2 oO7 oO8 oO9 oO10 oO11 O P0 P1) sz)) 1 6 (va_A (zd_L_turn cI cL adO qO3 qO4 qO5 qO6 adP0 qP00 qP01 qP02 qP03 qP04 adP1 qP10 qP11 qP12 qP13 qP14 oO2 oO7 oO8 oO9 oO10 oO11 O P0 P1) sz) := by
  refine zl_met (cc := cL_turn) (maxL := 3) (ret := (some .int)) (hh := [(0, 5, 8, 13)]) (lv0 := [(0, .ref adO), (1, .int b0)]) (Qc := fun A => va_Qi (fun (rz : Int32) (uz : zMem × zMem) => post rz uz.1 uz.2) (fun (uz : zMem × zMem) t => zv_out G cI A (zd_L_turn cI cL adO qO3 qO4 qO5 qO6 adP0 qP00 qP01 qP02 qP03 qP04 adP1 qP10 qP11 qP12 qP13 qP14 oO2 oO7 oO8 oO9 oO10 oO11 O uz.1 uz.2) t) A) (by decide) rfl (Nat.le_of_ble_eq_true rfl) rfl ?_ sz
  intro p e s m below meth c A C hB hKL hN hTb hr hlk
  clear sz
  refine zv_aload_n (pc := 0) C rfl 0 rfl dL_turn_0 ?_
  refine zv_iload_n (pc := 1) C rfl 1 rfl dL_turn_1 ?_
  refine zl_cv (pc := 2) (ws' := (fun uz : zMem × zMem => (zd_L_turn cI cL adO qO3 qO4 qO5 qO6 adP0 qP00 qP01 qP02 qP03 qP04 adP1 qP10 qP11 qP12 qP13 qP14 oO2 oO7 oO8 oO9 oO10 oO11 O uz.1 uz.2))) C (zl_runV (As := [.int b0]) (b := adO) (rest := []) (ci := 4) (q0 := 0) C hB (zc_X5_turn l hlt G cI adO qO3 qO4 qO5 qO6 adP0 qP00 qP01 qP02 qP03 qP04 adP1 qP10 qP11 qP12 qP13 qP14 oO2 oO7 oO8 oO9 oO10 oO11 O P0 P1 b0 _ _ hF) (cwV 1 C.2.2.2.2.1 gL_turn_X5_turn rfl rfl rfl zy_X5_turn ⟨(Nat.le_of_ble_eq_true rfl), (Nat.le_of_ble_eq_true rfl)⟩) rfl rfl rfl rfl rfl (Nat.le_of_ble_eq_true rfl) ⟨(Nat.le_of_ble_eq_true rfl), (Nat.le_of_ble_eq_true rfl)⟩ dL_turn_2) [0, 1, 2, 3, 4, 5, 6, 7, 8, 9, 10, 11, 12, 13, 14, 15, 16] [] rfl rfl rfl rfl rfl rfl (fun _ => rfl) (fun _ => rfl) (fun _ => rfl) ?_ (fun uz hF => ?_)
  · rintro E ⟨rfl, hF⟩
    · refine ⟨8, zl_H1 hTb rfl (by decide) (C.2.2.2.2.1 _ (List.mem_of_getElem? (i := 1) rfl)) (va_Nw.use rfl (hB.2.2.2 _ (List.mem_of_getElem? (i := 1) rfl))), fun q9 => ?_⟩
      refine zv_cs (k := 1) (n := 6) rfl rfl ?_
      refine zv_astore_n (pc := 8) (lv' := [(2, .ref q9), (0, .ref adO), (1, .int b0)]) C rfl (by decide) rfl dL_turn_8 ?_
      refine zv_iconst (pc := 9) (v := 1) C (by decide) dL_turn_9 ?_
      exact zv_iret (pc := 10) C hr hlk (1 : Int32) (P0, P1) hF rfl dL_turn_10
  · skip
    refine zv_cs (k := 1) (n := 6) rfl rfl ?_
    obtain ⟨T_1, T_2⟩ := uz
    refine zv_goto (pc := 5) (tgt := 11) C dL_turn_5 (by decide) ?_
    refine zv_iconst (pc := 11) (v := 0) C (by decide) dL_turn_11 ?_
    exact zv_iret (pc := 12) C hr hlk (0 : Int32) (T_1, T_2) hF rfl dL_turn_12
theorem zy_L_copy : yL_copy.cls ≠ "java/lang/invoke/MethodHandle" ∧ yL_copy.cls ≠ "java/lang/invoke/VarHandle" ∧ (parseMethodDescriptor yL_copy.desc).map (fun d => d.parameters.length) = some 2 := by decide +kernel
set_option maxHeartbeats 4000000 in
set_option maxRecDepth 100000 in
theorem zc_L_copy (l : Launch) (hlt : l.stackTraces = false) (G : va_G) (cI cL : ClassId) (adO qO3 qO4 qO5 qO6 adP0 qP00 qP01 qP02 qP03 qP04 adP1 qP10 qP11 qP12 qP13 qP14 oO2 oO7 oO8 oO9 oO10 oO11 : Nat) (O : zMem) (P0 : zMem) (P1 : zMem) (b0 : Int32) (post : Int32 → zMem → zMem → Prop) (hF : zw_L_copy O P0 P1 b0 post) (sz : Nat) : Met l yL_copy wsL_copy rmL_copy (va_Pc [.ref adO, .int b0] (zl_in G cI cL (zd_L_copy cI cL adO qO3 qO4 qO5 qO6 adP0 qP00 qP01 qP02 qP03 qP04 adP1 qP10 qP11 qP12 qP13 qP14 oO2 oO7 oO8 oO9 oO10 oO11 O P0 P1) sz)) (va_Qi (fun (rz : Int32) (uz : zMem × zMem) => post rz uz.1 uz.2) (fun (uz : zMem × zMem) t => zv_out G cI (va_A (zd_L_copy cI cL adO qO3 qO4 qO5 qO6 adP0 qP00 qP01 qP02 qP03 qP04 adP1 qP10 qP11 qP12 qP13 qP14 oO2 oO7 oO8 oO9 oO10 oO11 O P0 P1) sz) (zd_L_copy cI cL adO qO3 qO4 qO5 qO6 adP0 qP00 qP01 qP02 qP03 qP04 adP1 qP10 qP11 qP12 qP13 qP14 oO2 oO7 oO8 oO9 oO10 oO11 O uz.1 uz.2) t) (va_A (zd_L_copy cI cL adO qO3 qO4 qO5 qO6 adP0 qP00 qP01 qP02 qP03 qP04 adP1 qP10 qP11 qP12 qP13 qP14 oO2 oO7 oO8 oO9 oO10 oO11 O P0 P1) sz)) 1 6 (va_A (zd_L_copy cI cL adO qO3 qO4 qO5 qO6 adP0 qP00 qP01 qP02 qP03 qP04 adP1 qP10 qP11 qP12 qP13 qP14 oO2 oO7 oO8 oO9 oO10 oO11 O P0 P1) sz) := by
  refine zl_met (cc := cL_copy) (maxL := 3) (ret := (some .int)) (hh := [(0, 5, 8, 13)]) (lv0 := [(0, .ref adO), (1, .int b0)]) (Qc := fun A => va_Qi (fun (rz : Int32) (uz : zMem × zMem) => post rz uz.1 uz.2) (fun (uz : zMem × zMem) t => zv_out G cI A (zd_L_copy cI cL adO qO3 qO4 qO5 qO6 adP0 qP00 qP01 qP02 qP03 qP04 adP1 qP10 qP11 qP12 qP13 qP14 oO2 oO7 oO8 oO9 oO10 oO11 O uz.1 uz.2) t) A) (by decide) rfl (Nat.le_of_ble_eq_true rfl) rfl ?_ sz
  intro p e s m below meth c A C hB hKL hN hTb hr hlk
  clear sz
  refine zv_aload_n (pc := 0) C rfl 0 rfl dL_copy_0 ?_
  refine zv_iload_n (pc := 1) C rfl 1 rfl dL_copy_1 ?_
  refine zl_cv (pc := 2) (ws' := (fun uz : zMem × zMem => (zd_L_copy cI cL adO qO3 qO4 qO5 qO6 adP0 qP00 qP01 qP02 qP03 qP04 adP1 qP10 qP11 qP12 qP13 qP14 oO2 oO7 oO8 oO9 oO10 oO11 O uz.1 uz.2))) C (zl_runV (As := [.int b0]) (b := adO) (rest := []) (ci := 4) (q0 := 0) C hB (zc_X5_copy l hlt G cI adO qO3 qO4 qO5 qO6 adP0 qP00 qP01 qP02 qP03 qP04 adP1 qP10 qP11 qP12 qP13 qP14 oO2 oO7 oO8 oO9 oO10 oO11 O P0 P1 b0 _ _ hF) (cwV 1 C.2.2.2.2.1 gL_copy_X5_copy rfl rfl rfl zy_X5_copy ⟨(Nat.le_of_ble_eq_true rfl), (Nat.le_of_ble_eq_true rfl)⟩) rfl rfl rfl rfl rfl (Nat.le_of_ble_eq_true rfl) ⟨(Nat.le_of_ble_eq_true rfl), (Nat.le_of_ble_eq_true rfl)⟩ dL_copy_2) [0, 1, 2, 3, 4, 5, 6, 7, 8, 9, 10, 11, 12, 13, 14, 15, 16] [] rfl rfl rfl rfl rfl rfl (fun _ => rfl) (fun _ => rfl) (fun _ => rfl) ?_ (fun uz hF => ?_)
  · rintro E ⟨rfl, hF⟩
    · refine ⟨8, zl_H1 hTb rfl (by decide) (C.2.2.2.2.1 _ (List.mem_of_getElem? (i := 1) rfl)) (va_Nw.use rfl (hB.2.2.2 _ (List.mem_of_getElem? (i := 1) rfl))), fun q9 => ?_⟩
      refine zv_cs (k := 1) (n := 6) rfl rfl ?_
      refine zv_astore_n (pc := 8) (lv' := [(2, .ref q9), (0, .ref adO), (1, .int b0)]) C rfl (by decide) rfl dL_copy_8 ?_
      refine zv_iconst (pc := 9) (v := 1) C (by decide) dL_copy_9 ?_
      exact zv_iret (pc := 10) C hr hlk (1 : Int32) (P0, P1) hF rfl dL_copy_10
  · skip
    refine zv_cs (k := 1) (n := 6) rfl rfl ?_
    obtain ⟨T_1, T_2⟩ := uz
    refine zv_goto (pc := 5) (tgt := 11) C dL_copy_5 (by decide) ?_
    refine zv_iconst (pc := 11) (v := 0) C (by decide) dL_copy_11 ?_
    exact zv_iret (pc := 12) C hr hlk (0 : Int32) (T_1, T_2) hF rfl dL_copy_12
theorem zy_L_light : yL_light.cls ≠ "java/lang/invoke/MethodHandle" ∧ yL_light.cls ≠ "java/lang/invoke/VarHandle" ∧ (parseMethodDescriptor yL_light.desc).map (fun d => d.parameters.length) = some 3 := by decide +kernel
set_option maxHeartbeats 4000000 in
set_option maxRecDepth 100000 in
theorem zc_L_light (l : Launch) (hlt : l.stackTraces = false) (G : va_G) (cI cL : ClassId) (adO qO3 qO4 qO5 qO6 oO0 oO1 oO2 oO7 oO8 oO9 oO10 oO11 : Nat) (O : zMem) (b0 : Int32) (b1 : Int32) (post : Int32 → zMem → Prop) (hF : zw_L_light O b0 b1 post) (sz : Nat) : Met l yL_light wsL_light rmL_light (va_Pc [.ref adO, .int b0, .int b1] (zl_in G cI cL (zd_L_light cI cL adO qO3 qO4 qO5 qO6 oO0 oO1 oO2 oO7 oO8 oO9 oO10 oO11 O) sz)) (va_Qi (fun (rz : Int32) (uz : zMem) => post rz uz) (fun (uz : zMem) t => zv_out G cI (va_A (zd_L_light cI cL adO qO3 qO4 qO5 qO6 oO0 oO1 oO2 oO7 oO8 oO9 oO10 oO11 O) sz) (zd_L_light cI cL adO qO3 qO4 qO5 qO6 oO0 oO1 oO2 oO7 oO8 oO9 oO10 oO11 uz) t) (va_A (zd_L_light cI cL adO qO3 qO4 qO5 qO6 oO0 oO1 oO2 oO7 oO8 oO9 oO10 oO11 O) sz)) 1 6 (va_A (zd_L_light cI cL adO qO3 qO4 qO5 qO6 oO0 oO1 oO2 oO7 oO8 oO9 oO10 oO11 O) sz) := by
  refine zl_met (cc := cL_light) (maxL := 4) (ret := (some .int)) (hh := [(0, 6, 9, 15)]) (lv0 := [(0, .ref adO), (1, .int b0), (2, .int b1)]) (Qc := fun A => va_Qi (fun (rz : Int32) (uz : zMem) => post rz uz) (fun (uz : zMem) t => zv_out G cI A (zd_L_light cI cL adO qO3 qO4 qO5 qO6 oO0 oO1 oO2 oO7 oO8 oO9 oO10 oO11 uz) t) A) (by decide) rfl (Nat.le_of_ble_eq_true rfl) rfl ?_ sz
  intro p e s m below meth c A C hB hKL hN hTb hr hlk
  clear sz
  refine zv_aload_n (pc := 0) C rfl 0 rfl dL_light_0 ?_
  refine zv_iload_n (pc := 1) C rfl 1 rfl dL_light_1 ?_
  refine zv_iload_n (pc := 2) C rfl 2 rfl dL_light_2 ?_
  refine zl_cv (pc := 3) (ws' := (fun uz : zMem => (zd_L_light cI cL adO qO3 qO4 qO5 qO6 oO0 oO1 oO2 oO7 oO8 oO9 oO10 oO11 uz))) C (zl_runV (As := [.int b0, .int b1]) (b := adO) (rest := []) (ci := 4) (q0 := 0) C hB (zc_X5_light l hlt G cI adO qO3 qO4 qO5 qO6 oO0 oO1 oO2 oO7 oO8 oO9 oO10 oO11 O b0 b1 _ _ hF) (cwV 2 C.2.2.2.2.1 gL_light_X5_light rfl rfl rfl zy_X5_light ⟨(Nat.le_of_ble_eq_true rfl), (Nat.le_of_ble_eq_true rfl)⟩) rfl rfl rfl rfl rfl (Nat.le_of_ble_eq_true rfl) ⟨(Nat.le_of_ble_eq_true rfl), (Nat.le_of_ble_eq_true rfl)⟩ dL_light_3) [0, 1, 2, 3, 4] [] rfl rfl rfl rfl rfl rfl (fun _ => rfl) (fun _ => rfl) (fun _ => rfl) ?_ (fun uz hF => ?_)
  · rintro E ⟨rfl, hF⟩
    · refine ⟨9, zl_H1 hTb rfl (by decide) (C.2.2.2.2.1 _ (List.mem_of_getElem? (i := 1) rfl)) (va_Nw.use rfl (hB.2.2.2 _ (List.mem_of_getElem? (i := 0) rfl))), fun q9 => ?_⟩
      refine zv_cs (k := 1) (n := 6) rfl rfl ?_
      refine zv_astore_n (pc := 9) (lv' := [(3, .ref q9), (0, .ref adO), (1, .int b0), (2, .int b1)]) C rfl (by decide) rfl dL_light_9 ?_
      refine zv_iconst (pc := 10) (v := 1) C (by decide) dL_light_10 ?_
      exact zv_iret (pc := 11) C hr hlk (1 : Int32) O hF rfl dL_light_11
  · skip
    refine zv_cs (k := 1) (n := 6) rfl rfl ?_
    obtain ⟨T_1, hE⟩ : ∃ z, z = uz := ⟨_, rfl⟩; subst hE
    refine zv_goto (pc := 6) (tgt := 12) C dL_light_6 (by decide) ?_
    refine zv_iconst (pc := 12) (v := 0) C (by decide) dL_light_12 ?_
    exact zv_iret (pc := 13) C hr hlk (0 : Int32) T_1 hF rfl dL_light_13
theorem zy_L_back : yL_back.cls ≠ "java/lang/invoke/MethodHandle" ∧ yL_back.cls ≠ "java/lang/invoke/VarHandle" ∧ (parseMethodDescriptor yL_back.desc).map (fun d => d.parameters.length) = some 5 := by decide +kernel
set_option maxHeartbeats 4000000 in
set_option maxRecDepth 100000 in
theorem zc_L_back (l : Launch) (hlt : l.stackTraces = false) (G : va_G) (cI cL : ClassId) (adO qO3 qO4 qO5 qO6 adP0 qP00 qP01 qP02 qP03 qP04 adP1 qP10 qP11 qP12 qP13 qP14 adT qT0 qT1 qT2 qT3 qT4 qT5 qT6 qT7 adF0 qF00 qF01 qF02 qF03 qout oO2 oO7 oO10 oO11 : Nat) (O : zMem) (P0 : zMem) (P1 : zMem) (T : zMem) (F0 : zMem) (out : zRowL) (b0 : Int32) (b1 : Int32) (b2 : Int32) (post : Int32 → zMem → zMem → zRowL → Prop) (hF : zw_L_back O P0 P1 T F0 out b0 b1 b2 post) (sz : Nat) : Met l yL_back wsL_back rmL_back (va_Pc [.ref adO, .int b0, .int b1, .int b2, .ref qout] (zl_in G cI cL (zd_L_back cI cL adO qO3 qO4 qO5 qO6 adP0 qP00 qP01 qP02 qP03 qP04 adP1 qP10 qP11 qP12 qP13 qP14 adT qT0 qT1 qT2 qT3 qT4 qT5 qT6 qT7 adF0 qF00 qF01 qF02 qF03 qout oO2 oO7 oO10 oO11 O P0 P1 T F0 out) sz)) (va_Qi (fun (rz : Int32) (uz : zMem × zMem × zRowL) => post rz uz.1 uz.2.1 uz.2.2) (fun (uz : zMem × zMem × zRowL) t => zv_out G cI (va_A (zd_L_back cI cL adO qO3 qO4 qO5 qO6 adP0 qP00 qP01 qP02 qP03 qP04 adP1 qP10 qP11 qP12 qP13 qP14 adT qT0 qT1 qT2 qT3 qT4 qT5 qT6 qT7 adF0 qF00 qF01 qF02 qF03 qout oO2 oO7 oO10 oO11 O P0 P1 T F0 out) sz) (zd_L_back cI cL adO qO3 qO4 qO5 qO6 adP0 qP00 qP01 qP02 qP03 qP04 adP1 qP10 qP11 qP12 qP13 qP14 adT qT0 qT1 qT2 qT3 qT4 qT5 qT6 qT7 adF0 qF00 qF01 qF02 qF03 qout oO2 oO7 oO10 oO11 O P0 P1 uz.1 uz.2.1 uz.2.2) t) (va_A (zd_L_back cI cL adO qO3 qO4 qO5 qO6 adP0 qP00 qP01 qP02 qP03 qP04 adP1 qP10 qP11 qP12 qP13 qP14 adT qT0 qT1 qT2 qT3 qT4 qT5 qT6 qT7 adF0 qF00 qF01 qF02 qF03 qout oO2 oO7 oO10 oO11 O P0 P1 T F0 out) sz)) 1 6 (va_A (zd_L_back cI cL adO qO3 qO4 qO5 qO6 adP0 qP00 qP01 qP02 qP03 qP04 adP1 qP10 qP11 qP12 qP13 qP14 adT qT0 qT1 qT2 qT3 qT4 qT5 qT6 qT7 adF0 qF00 qF01 qF02 qF03 qout oO2 oO7 oO10 oO11 O P0 P1 T F0 out) sz) := by
  refine zl_met (cc := cL_back) (maxL := 6) (ret := (some .int)) (hh := [(0, 12, 15, 13), (0, 12, 19, 15)]) (lv0 := [(0, .ref adO), (1, .int b0), (2, .int b1), (3, .int b2), (4, .ref qout)]) (Qc := fun A => va_Qi (fun (rz : Int32) (uz : zMem × zMem × zRowL) => post rz uz.1 uz.2.1 uz.2.2) (fun (uz : zMem × zMem × zRowL) t => zv_out G cI A (zd_L_back cI cL adO qO3 qO4 qO5 qO6 adP0 qP00 qP01 qP02 qP03 qP04 adP1 qP10 qP11 qP12 qP13 qP14 adT qT0 qT1 qT2 qT3 qT4 qT5 qT6 qT7 adF0 qF00 qF01 qF02 qF03 qout oO2 oO7 oO10 oO11 O P0 P1 uz.1 uz.2.1 uz.2.2) t) A) (by decide) rfl (Nat.le_of_ble_eq_true rfl) rfl ?_ sz
  intro p e s m below meth c A C hB hKL hN hTb hr hlk
  clear sz
  refine zv_aload (pc := 0) C 4 rfl dL_back_0 ?_
  refine zv_iconst (pc := 2) (v := 0) C (by decide) dL_back_2 ?_
  refine zv_aload_n (pc := 3) C rfl 0 rfl dL_back_3 ?_
  refine zv_iload_n (pc := 4) C rfl 1 rfl dL_back_4 ?_
  refine zv_iload_n (pc := 5) C rfl 2 rfl dL_back_5 ?_
  refine zv_iload_n (pc := 6) C rfl 3 rfl dL_back_6 ?_
  refine zl_ci (pc := 7) (ws' := (fun uz : zMem × zMem => (zd_L_back cI cL adO qO3 qO4 qO5 qO6 adP0 qP00 qP01 qP02 qP03 qP04 adP1 qP10 qP11 qP12 qP13 qP14 adT qT0 qT1 qT2 qT3 qT4 qT5 qT6 qT7 adF0 qF00 qF01 qF02 qF03 qout oO2 oO7 oO10 oO11 O P0 P1 uz.1 uz.2 out))) C (zl_runV (As := [.int b0, .int b1, .int b2]) (b := adO) (rest := [.int (0 : Int32), .ref qout]) (ci := 4) (q0 := 0) C hB (zc_X5_back l hlt G cI adO qO3 qO4 qO5 qO6 adP0 qP00 qP01 qP02 qP03 qP04 adP1 qP10 qP11 qP12 qP13 qP14 adT qT0 qT1 qT2 qT3 qT4 qT5 qT6 qT7 adF0 qF00 qF01 qF02 qF03 oO2 oO7 oO10 oO11 O P0 P1 T F0 b0 b1 b2 _ _ _ hF) (cwV 3 C.2.2.2.2.1 gL_back_X5_back rfl rfl rfl zy_X5_back ⟨(Nat.le_of_ble_eq_true rfl), (Nat.le_of_ble_eq_true rfl)⟩) rfl rfl rfl rfl rfl (Nat.le_of_ble_eq_true rfl) ⟨(Nat.le_of_ble_eq_true rfl), (Nat.le_of_ble_eq_true rfl)⟩ dL_back_7) [0, 1, 2, 3, 4, 5, 6, 7, 8, 9, 10, 11, 12, 13, 14, 15, 16, 17, 18, 19, 20, 21, 22, 23, 24, 25, 26, 27, 28, 29, 30] [31] rfl rfl rfl rfl rfl rfl (fun _ => rfl) (fun _ => rfl) (fun _ => rfl) ?_ (fun v_3 uz hF => ?_)
  · rintro E (⟨rfl, hF⟩ | ⟨rfl, hF⟩)
    · refine ⟨15, zl_H1 hTb rfl (by decide) (C.2.2.2.2.1 _ (List.mem_of_getElem? (i := 1) rfl)) (va_Nw.use rfl (hB.2.2.2 _ (List.mem_of_getElem? (i := 1) rfl))), fun q9 => ?_⟩
      refine zv_cs (k := 1) (n := 6) rfl rfl ?_
      refine zv_astore (pc := 15) (lv' := [(5, .ref q9), (0, .ref adO), (1, .int b0), (2, .int b1), (3, .int b2), (4, .ref qout)]) C (by decide) rfl dL_back_15 ?_
      refine zv_iconst (pc := 17) (v := 1) C (by decide) dL_back_17 ?_
      exact zv_iret (pc := 18) C hr hlk (1 : Int32) (T, F0, out) hF rfl dL_back_18
    · refine ⟨19, zl_H2 hTb (by decide) (C.2.2.2.2.1 _ (List.mem_of_getElem? (i := 1) rfl)) hN.1 rfl (by decide) (C.2.2.2.2.1 _ (List.mem_of_getElem? (i := 2) rfl)) (va_Nw.use rfl (hB.2.2.2 _ (List.mem_of_getElem? (i := 0) rfl))), fun q9 => ?_⟩
      refine zv_cs (k := 1) (n := 6) rfl rfl ?_
      refine zv_astore (pc := 19) (lv' := [(5, .ref q9), (0, .ref adO), (1, .int b0), (2, .int b1), (3, .int b2), (4, .ref qout)]) C (by decide) rfl dL_back_19 ?_
      refine zv_iconst (pc := 21) (v := 2) C (by decide) dL_back_21 ?_
      exact zv_iret (pc := 22) C hr hlk (2 : Int32) (T, F0, out) hF rfl dL_back_22
  · skip
    refine zv_cs (k := 1) (n := 6) rfl rfl ?_
    obtain ⟨T_1, T_2⟩ := uz
    refine zv_i2l (pc := 10) C  dL_back_10 ?_
    obtain ⟨r_4, er_4⟩ : ∃ y : zRowL, y = (vp_updL out (Int32.toNatClampNeg (0 : Int32)) (Int32.toInt64 v_3)) := ⟨_, rfl⟩
    replace hF := hF r_4 er_4
    refine zl_last (pc := 11) (n := 1) (f := out) (ws' := (zd_L_back cI cL adO qO3 qO4 qO5 qO6 adP0 qP00 qP01 qP02 qP03 qP04 adP1 qP10 qP11 qP12 qP13 qP14 adT qT0 qT1 qT2 qT3 qT4 qT5 qT6 qT7 adF0 qF00 qF01 qF02 qF03 qout oO2 oO7 oO10 oO11 O P0 P1 T_1 T_2 r_4)) C hKL 31 (vp_in_iff.mpr (by decide)) rfl (by rw [er_4]; rfl) dL_back_11 ?_
    refine zv_goto (pc := 12) (tgt := 23) C dL_back_12 (by decide) ?_
    refine zv_iconst (pc := 23) (v := 0) C (by decide) dL_back_23 ?_
    exact zv_iret (pc := 24) C hr hlk (0 : Int32) (T_1, T_2, r_4) hF rfl dL_back_24
theorem zy_L_on : yL_on.cls ≠ "java/lang/invoke/MethodHandle" ∧ yL_on.cls ≠ "java/lang/invoke/VarHandle" ∧ (parseMethodDescriptor yL_on.desc).map (fun d => d.parameters.length) = some 5 := by decide +kernel
set_option maxHeartbeats 4000000 in
set_option maxRecDepth 100000 in
theorem zc_L_on (l : Launch) (hlt : l.stackTraces = false) (G : va_G) (cI cL : ClassId) (adO qO3 qO4 qO5 qO6 adP0 qP00 qP01 qP02 qP03 qP04 adP1 qP10 qP11 qP12 qP13 qP14 adT qT0 qT1 qT2 qT3 qT4 qT5 qT6 qT7 adF0 qF00 qF01 qF02 qF03 qout oO2 oO7 oO10 oO11 : Nat) (O : zMem) (P0 : zMem) (P1 : zMem) (T : zMem) (F0 : zMem) (out : zRowL) (b0 : Int32) (b1 : Int32) (b2 : Int32) (post : Int32 → zMem → zMem → zRowL → Prop) (hF : zw_L_on O P0 P1 T F0 out b0 b1 b2 post) (sz : Nat) : Met l yL_on wsL_on rmL_on (va_Pc [.ref adO, .int b0, .int b1, .int b2, .ref qout] (zl_in G cI cL (zd_L_on cI cL adO qO3 qO4 qO5 qO6 adP0 qP00 qP01 qP02 qP03 qP04 adP1 qP10 qP11 qP12 qP13 qP14 adT qT0 qT1 qT2 qT3 qT4 qT5 qT6 qT7 adF0 qF00 qF01 qF02 qF03 qout oO2 oO7 oO10 oO11 O P0 P1 T F0 out) sz)) (va_Qi (fun (rz : Int32) (uz : zMem × zMem × zRowL) => post rz uz.1 uz.2.1 uz.2.2) (fun (uz : zMem × zMem × zRowL) t => zv_out G cI (va_A (zd_L_on cI cL adO qO3 qO4 qO5 qO6 adP0 qP00 qP01 qP02 qP03 qP04 adP1 qP10 qP11 qP12 qP13 qP14 adT qT0 qT1 qT2 qT3 qT4 qT5 qT6 qT7 adF0 qF00 qF01 qF02 qF03 qout oO2 oO7 oO10 oO11 O P0 P1 T F0 out) sz) (zd_L_on cI cL adO qO3 qO4 qO5 qO6 adP0 qP00 qP01 qP02 qP03 qP04 adP1 qP10 qP11 qP12 qP13 qP14 adT qT0 qT1 qT2 qT3 qT4 qT5 qT6 qT7 adF0 qF00 qF01 qF02 qF03 qout oO2 oO7 oO10 oO11 O P0 P1 uz.1 uz.2.1 uz.2.2) t) (va_A (zd_L_on cI cL adO qO3 qO4 qO5 qO6 adP0 qP00 qP01 qP02 qP03 qP04 adP1 qP10 qP11 qP12 qP13 qP14 adT qT0 qT1 qT2 qT3 qT4 qT5 qT6 qT7 adF0 qF00 qF01 qF02 qF03 qout oO2 oO7 oO10 oO11 O P0 P1 T F0 out) sz)) 1 6 (va_A (zd_L_on cI cL adO qO3 qO4 qO5 qO6 adP0 qP00 qP01 qP02 qP03 qP04 adP1 qP10 qP11 qP12 qP13 qP14 adT qT0 qT1 qT2 qT3 qT4 qT5 qT6 qT7 adF0 qF00 qF01 qF02 qF03 qout oO2 oO7 oO10 oO11 O P0 P1 T F0 out) sz) := by
  refine zl_met (cc := cL_on) (maxL := 6) (ret := (some .int)) (hh := [(0, 12, 15, 13), (0, 12, 19, 15)]) (lv0 := [(0, .ref adO), (1, .int b0), (2, .int b1), (3, .int b2), (4, .ref qout)]) (Qc := fun A => va_Qi (fun (rz : Int32) (uz : zMem × zMem × zRowL) => post rz uz.1 uz.2.1 uz.2.2) (fun (uz : zMem × zMem × zRowL) t => zv_out G cI A (zd_L_on cI cL adO qO3 qO4 qO5 qO6 adP0 qP00 qP01 qP02 qP03 qP04 adP1 qP10 qP11 qP12 qP13 qP14 adT qT0 qT1 qT2 qT3 qT4 qT5 qT6 qT7 adF0 qF00 qF01 qF02 qF03 qout oO2 oO7 oO10 oO11 O P0 P1 uz.1 uz.2.1 uz.2.2) t) A) (by decide) rfl (Nat.le_of_ble_eq_true rfl) rfl ?_ sz
  intro p e s m below meth c A C hB hKL hN hTb hr hlk
  clear sz
  refine zv_aload (pc := 0) C 4 rfl dL_on_0 ?_
  refine zv_iconst (pc := 2) (v := 0) C (by decide) dL_on_2 ?_
  refine zv_aload_n (pc := 3) C rfl 0 rfl dL_on_3 ?_
  refine zv_iload_n (pc := 4) C rfl 1 rfl dL_on_4 ?_
  refine zv_iload_n (pc := 5) C rfl 2 rfl dL_on_5 ?_
  refine zv_iload_n (pc := 6) C rfl 3 rfl dL_on_6 ?_
  refine zl_ci (pc := 7) (ws' := (fun uz : zMem × zMem => (zd_L_on cI cL adO qO3 qO4 qO5 qO6 adP0 qP00 qP01 qP02 qP03 qP04 adP1 qP10 qP11 qP12 qP13 qP14 adT qT0 qT1 qT2 qT3 qT4 qT5 qT6 qT7 adF0 qF00 qF01 qF02 qF03 qout oO2 oO7 oO10 oO11 O P0 P1 uz.1 uz.2 out))) C (zl_runV (As := [.int b0, .int b1, .int b2]) (b := adO) (rest := [.int (0 : Int32), .ref qout]) (ci := 4) (q0 := 0) C hB (zc_X5_on l hlt G cI adO qO3 qO4 qO5 qO6 adP0 qP00 qP01 qP02 qP03 qP04 adP1 qP10 qP11 qP12 qP13 qP14 adT qT0 qT1 qT2 qT3 qT4 qT5 qT6 qT7 adF0 qF00 qF01 qF02 qF03 oO2 oO7 oO10 oO11 O P0 P1 T F0 b0 b1 b2 _ _ _ hF) (cwV 3 C.2.2.2.2.1 gL_on_X5_on rfl rfl rfl zy_X5_on ⟨(Nat.le_of_ble_eq_true rfl), (Nat.le_of_ble_eq_true rfl)⟩) rfl rfl rfl rfl rfl (Nat.le_of_ble_eq_true rfl) ⟨(Nat.le_of_ble_eq_true rfl), (Nat.le_of_ble_eq_true rfl)⟩ dL_on_7) [0, 1, 2, 3, 4, 5, 6, 7, 8, 9, 10, 11, 12, 13, 14, 15, 16, 17, 18, 19, 20, 21, 22, 23, 24, 25, 26, 27, 28, 29, 30] [31] rfl rfl rfl rfl rfl rfl (fun _ => rfl) (fun _ => rfl) (fun _ => rfl) ?_ (fun v_3 uz hF => ?_)
  · rintro E (⟨rfl, hF⟩ | ⟨rfl, hF⟩)
    · refine ⟨15, zl_H1 hTb rfl (by decide) (C.2.2.2.2.1 _ (List.mem_of_getElem? (i := 1) rfl)) (va_Nw.use rfl (hB.2.2.2 _ (List.mem_of_getElem? (i := 1) rfl))), fun q9 => ?_⟩
      refine zv_cs (k := 1) (n := 6) rfl rfl ?_
      refine zv_astore (pc := 15) (lv' := [(5, .ref q9), (0, .ref adO), (1, .int b0), (2, .int b1), (3, .int b2), (4, .ref qout)]) C (by decide) rfl dL_on_15 ?_
      refine zv_iconst (pc := 17) (v := 1) C (by decide) dL_on_17 ?_
      exact zv_iret (pc := 18) C hr hlk (1 : Int32) (T, F0, out) hF rfl dL_on_18
    · refine ⟨19, zl_H2 hTb (by decide) (C.2.2.2.2.1 _ (List.mem_of_getElem? (i := 1) rfl)) hN.1 rfl (by decide) (C.2.2.2.2.1 _ (List.mem_of_getElem? (i := 2) rfl)) (va_Nw.use rfl (hB.2.2.2 _ (List.mem_of_getElem? (i := 0) rfl))), fun q9 => ?_⟩
      refine zv_cs (k := 1) (n := 6) rfl rfl ?_
      refine zv_astore (pc := 19) (lv' := [(5, .ref q9), (0, .ref adO), (1, .int b0), (2, .int b1), (3, .int b2), (4, .ref qout)]) C (by decide) rfl dL_on_19 ?_
      refine zv_iconst (pc := 21) (v := 2) C (by decide) dL_on_21 ?_
      exact zv_iret (pc := 22) C hr hlk (2 : Int32) (T, F0, out) hF rfl dL_on_22
  · skip
    refine zv_cs (k := 1) (n := 6) rfl rfl ?_
    obtain ⟨T_1, T_2⟩ := uz
    refine zv_i2l (pc := 10) C  dL_on_10 ?_
    obtain ⟨r_4, er_4⟩ : ∃ y : zRowL, y = (vp_updL out (Int32.toNatClampNeg (0 : Int32)) (Int32.toInt64 v_3)) := ⟨_, rfl⟩
    replace hF := hF r_4 er_4
    refine zl_last (pc := 11) (n := 1) (f := out) (ws' := (zd_L_on cI cL adO qO3 qO4 qO5 qO6 adP0 qP00 qP01 qP02 qP03 qP04 adP1 qP10 qP11 qP12 qP13 qP14 adT qT0 qT1 qT2 qT3 qT4 qT5 qT6 qT7 adF0 qF00 qF01 qF02 qF03 qout oO2 oO7 oO10 oO11 O P0 P1 T_1 T_2 r_4)) C hKL 31 (vp_in_iff.mpr (by decide)) rfl (by rw [er_4]; rfl) dL_on_11 ?_
    refine zv_goto (pc := 12) (tgt := 23) C dL_on_12 (by decide) ?_
    refine zv_iconst (pc := 23) (v := 0) C (by decide) dL_on_23 ?_
    exact zv_iret (pc := 24) C hr hlk (0 : Int32) (T_1, T_2, r_4) hF rfl dL_on_24
theorem zy_L_entry : yL_entry.cls ≠ "java/lang/invoke/MethodHandle" ∧ yL_entry.cls ≠ "java/lang/invoke/VarHandle" ∧ (parseMethodDescriptor yL_entry.desc).map (fun d => d.parameters.length) = some 6 := by decide +kernel
set_option maxHeartbeats 4000000 in
set_option maxRecDepth 100000 in
theorem zc_L_entry (l : Launch) (hlt : l.stackTraces = false) (G : va_G) (cI cL : ClassId) (adO qO3 qO4 qO5 qO6 adP0 qP00 qP01 qP02 qP03 qP04 adP1 qP10 qP11 qP12 qP13 qP14 adT qT0 qT1 qT2 qT3 qT4 qT5 qT6 qT7 adF0 qF00 qF01 qF02 qF03 qout oO2 oO7 oO10 oO11 : Nat) (O : zMem) (P0 : zMem) (P1 : zMem) (T : zMem) (F0 : zMem) (out : zRowL) (b0 : Int32) (b1 : Int32) (b2 : Int32) (b3 : Int32) (post : Int32 → zMem → zMem → zRowL → Prop) (hF : zw_L_entry O P0 P1 T F0 out b0 b1 b2 b3 post) (sz : Nat) : Met l yL_entry wsL_entry rmL_entry (va_Pc [.ref adO, .int b0, .int b1, .int b2, .int b3, .ref qout] (zl_in G cI cL (zd_L_entry cI cL adO qO3 qO4 qO5 qO6 adP0 qP00 qP01 qP02 qP03 qP04 adP1 qP10 qP11 qP12 qP13 qP14 adT qT0 qT1 qT2 qT3 qT4 qT5 qT6 qT7 adF0 qF00 qF01 qF02 qF03 qout oO2 oO7 oO10 oO11 O P0 P1 T F0 out) sz)) (va_Qi (fun (rz : Int32) (uz : zMem × zMem × zRowL) => post rz uz.1 uz.2.1 uz.2.2) (fun (uz : zMem × zMem × zRowL) t => zv_out G cI (va_A (zd_L_entry cI cL adO qO3 qO4 qO5 qO6 adP0 qP00 qP01 qP02 qP03 qP04 adP1 qP10 qP11 qP12 qP13 qP14 adT qT0 qT1 qT2 qT3 qT4 qT5 qT6 qT7 adF0 qF00 qF01 qF02 qF03 qout oO2 oO7 oO10 oO11 O P0 P1 T F0 out) sz) (zd_L_entry cI cL adO qO3 qO4 qO5 qO6 adP0 qP00 qP01 qP02 qP03 qP04 adP1 qP10 qP11 qP12 qP13 qP14 adT qT0 qT1 qT2 qT3 qT4 qT5 qT6 qT7 adF0 qF00 qF01 qF02 qF03 qout oO2 oO7 oO10 oO11 O P0 P1 uz.1 uz.2.1 uz.2.2) t) (va_A (zd_L_entry cI cL adO qO3 qO4 qO5 qO6 adP0 qP00 qP01 qP02 qP03 qP04 adP1 qP10 qP11 qP12 qP13 qP14 adT qT0 qT1 qT2 qT3 qT4 qT5 qT6 qT7 adF0 qF00 qF01 qF02 qF03 qout oO2 oO7 oO10 oO11 O P0 P1 T F0 out) sz)) 1 6 (va_A (zd_L_entry cI cL adO qO3 qO4 qO5 qO6 adP0 qP00 qP01 qP02 qP03 qP04 adP1 qP10 qP11 qP12 qP13 qP14 adT qT0 qT1 qT2 qT3 qT4 qT5 qT6 qT7 adF0 qF00 qF01 qF02 qF03 qout oO2 oO7 oO10 oO11 O P0 P1 T F0 out) sz) := by
  refine zl_met (cc := cL_entry) (maxL := 7) (ret := (some .int)) (hh := [(0, 14, 17, 13), (0, 14, 21, 15)]) (lv0 := [(0, .ref adO), (1, .int b0), (2, .int b1), (3, .int b2), (4, .int b3), (5, .ref qout)]) (Qc := fun A => va_Qi (fun (rz : Int32) (uz : zMem × zMem × zRowL) => post rz uz.1 uz.2.1 uz.2.2) (fun (uz : zMem × zMem × zRowL) t => zv_out G cI A (zd_L_entry cI cL adO qO3 qO4 qO5 qO6 adP0 qP00 qP01 qP02 qP03 qP04 adP1 qP10 qP11 qP12 qP13 qP14 adT qT0 qT1 qT2 qT3 qT4 qT5 qT6 qT7 adF0 qF00 qF01 qF02 qF03 qout oO2 oO7 oO10 oO11 O P0 P1 uz.1 uz.2.1 uz.2.2) t) A) (by decide) rfl (Nat.le_of_ble_eq_true rfl) rfl ?_ sz
  intro p e s m below meth c A C hB hKL hN hTb hr hlk
  clear sz
  refine zv_aload (pc := 0) C 5 rfl dL_entry_0 ?_
  refine zv_iconst (pc := 2) (v := 0) C (by decide) dL_entry_2 ?_
  refine zv_aload_n (pc := 3) C rfl 0 rfl dL_entry_3 ?_
  refine zv_iload_n (pc := 4) C rfl 1 rfl dL_entry_4 ?_
  refine zv_iload_n (pc := 5) C rfl 2 rfl dL_entry_5 ?_
  refine zv_iload_n (pc := 6) C rfl 3 rfl dL_entry_6 ?_
  refine zv_iload (pc := 7) C 4 rfl dL_entry_7 ?_
  refine zl_ci (pc := 9) (ws' := (fun uz : zMem × zMem => (zd_L_entry cI cL adO qO3 qO4 qO5 qO6 adP0 qP00 qP01 qP02 qP03 qP04 adP1 qP10 qP11 qP12 qP13 qP14 adT qT0 qT1 qT2 qT3 qT4 qT5 qT6 qT7 adF0 qF00 qF01 qF02 qF03 qout oO2 oO7 oO10 oO11 O P0 P1 uz.1 uz.2 out))) C (zl_runV (As := [.int b0, .int b1, .int b2, .int b3]) (b := adO) (rest := [.int (0 : Int32), .ref qout]) (ci := 4) (q0 := 0) C hB (zc_X5_entry l hlt G cI adO qO3 qO4 qO5 qO6 adP0 qP00 qP01 qP02 qP03 qP04 adP1 qP10 qP11 qP12 qP13 qP14 adT qT0 qT1 qT2 qT3 qT4 qT5 qT6 qT7 adF0 qF00 qF01 qF02 qF03 oO2 oO7 oO10 oO11 O P0 P1 T F0 b0 b1 b2 b3 _ _ _ hF) (cwV 4 C.2.2.2.2.1 gL_entry_X5_entry rfl rfl rfl zy_X5_entry ⟨(Nat.le_of_ble_eq_true rfl), (Nat.le_of_ble_eq_true rfl)⟩) rfl rfl rfl rfl rfl (Nat.le_of_ble_eq_true rfl) ⟨(Nat.le_of_ble_eq_true rfl), (Nat.le_of_ble_eq_true rfl)⟩ dL_entry_9) [0, 1, 2, 3, 4, 5, 6, 7, 8, 9, 10, 11, 12, 13, 14, 15, 16, 17, 18, 19, 20, 21, 22, 23, 24, 25, 26, 27, 28, 29, 30] [31] rfl rfl rfl rfl rfl rfl (fun _ => rfl) (fun _ => rfl) (fun _ => rfl) ?_ (fun v_3 uz hF => ?_)
  · rintro E (⟨rfl, hF⟩ | ⟨rfl, hF⟩)
    · refine ⟨17, zl_H1 hTb rfl (by decide) (C.2.2.2.2.1 _ (List.mem_of_getElem? (i := 1) rfl)) (va_Nw.use rfl (hB.2.2.2 _ (List.mem_of_getElem? (i := 1) rfl))), fun q9 => ?_⟩
      refine zv_cs (k := 1) (n := 6) rfl rfl ?_
      refine zv_astore (pc := 17) (lv' := [(6, .ref q9), (0, .ref adO), (1, .int b0), (2, .int b1), (3, .int b2), (4, .int b3), (5, .ref qout)]) C (by decide) rfl dL_entry_17 ?_
      refine zv_iconst (pc := 19) (v := 1) C (by decide) dL_entry_19 ?_
      exact zv_iret (pc := 20) C hr hlk (1 : Int32) (T, F0, out) hF rfl dL_entry_20
    · refine ⟨21, zl_H2 hTb (by decide) (C.2.2.2.2.1 _ (List.mem_of_getElem? (i := 1) rfl)) hN.1 rfl (by decide) (C.2.2.2.2.1 _ (List.mem_of_getElem? (i := 2) rfl)) (va_Nw.use rfl (hB.2.2.2 _ (List.mem_of_getElem? (i := 0) rfl))), fun q9 => ?_⟩
      refine zv_cs (k := 1) (n := 6) rfl rfl ?_
      refine zv_astore (pc := 21) (lv' := [(6, .ref q9), (0, .ref adO), (1, .int b0), (2, .int b1), (3, .int b2), (4, .int b3), (5, .ref qout)]) C (by decide) rfl dL_entry_21 ?_
      refine zv_iconst (pc := 23) (v := 2) C (by decide) dL_entry_23 ?_
      exact zv_iret (pc := 24) C hr hlk (2 : Int32) (T, F0, out) hF rfl dL_entry_24
  · skip
    refine zv_cs (k := 1) (n := 6) rfl rfl ?_
    obtain ⟨T_1, T_2⟩ := uz
    refine zv_i2l (pc := 12) C  dL_entry_12 ?_
    obtain ⟨r_4, er_4⟩ : ∃ y : zRowL, y = (vp_updL out (Int32.toNatClampNeg (0 : Int32)) (Int32.toInt64 v_3)) := ⟨_, rfl⟩
    replace hF := hF r_4 er_4
    refine zl_last (pc := 13) (n := 1) (f := out) (ws' := (zd_L_entry cI cL adO qO3 qO4 qO5 qO6 adP0 qP00 qP01 qP02 qP03 qP04 adP1 qP10 qP11 qP12 qP13 qP14 adT qT0 qT1 qT2 qT3 qT4 qT5 qT6 qT7 adF0 qF00 qF01 qF02 qF03 qout oO2 oO7 oO10 oO11 O P0 P1 T_1 T_2 r_4)) C hKL 31 (vp_in_iff.mpr (by decide)) rfl (by rw [er_4]; rfl) dL_entry_13 ?_
    refine zv_goto (pc := 14) (tgt := 25) C dL_entry_14 (by decide) ?_
    refine zv_iconst (pc := 25) (v := 0) C (by decide) dL_entry_25 ?_
    exact zv_iret (pc := 26) C hr hlk (0 : Int32) (T_1, T_2, r_4) hF rfl dL_entry_26
theorem zy_L_sign : yL_sign.cls ≠ "java/lang/invoke/MethodHandle" ∧ yL_sign.cls ≠ "java/lang/invoke/VarHandle" ∧ (parseMethodDescriptor yL_sign.desc).map (fun d => d.parameters.length) = some 4 := by decide +kernel
set_option maxHeartbeats 4000000 in
set_option maxRecDepth 100000 in
theorem zc_L_sign (l : Launch) (hlt : l.stackTraces = false) (G : va_G) (cI cL : ClassId) (adO qO3 qO4 qO5 qO6 adP0 qP00 qP01 qP02 qP03 qP04 adP1 qP10 qP11 qP12 qP13 qP14 adT qT0 qT1 qT2 qT3 qT4 qT5 qT6 qT7 qout oO2 oO7 oO9 oO10 oO11 : Nat) (O : zMem) (P0 : zMem) (P1 : zMem) (T : zMem) (out : zRowL) (b0 : Int32) (b1 : Int32) (post : Int32 → zMem → zRowL → Prop) (hF : zw_L_sign O P0 P1 T out b0 b1 post) (sz : Nat) : Met l yL_sign wsL_sign rmL_sign (va_Pc [.ref adO, .int b0, .int b1, .ref qout] (zl_in G cI cL (zd_L_sign cI cL adO qO3 qO4 qO5 qO6 adP0 qP00 qP01 qP02 qP03 qP04 adP1 qP10 qP11 qP12 qP13 qP14 adT qT0 qT1 qT2 qT3 qT4 qT5 qT6 qT7 qout oO2 oO7 oO9 oO10 oO11 O P0 P1 T out) sz)) (va_Qi (fun (rz : Int32) (uz : zMem × zRowL) => post rz uz.1 uz.2) (fun (uz : zMem × zRowL) t => zv_out G cI (va_A (zd_L_sign cI cL adO qO3 qO4 qO5 qO6 adP0 qP00 qP01 qP02 qP03 qP04 adP1 qP10 qP11 qP12 qP13 qP14 adT qT0 qT1 qT2 qT3 qT4 qT5 qT6 qT7 qout oO2 oO7 oO9 oO10 oO11 O P0 P1 T out) sz) (zd_L_sign cI cL adO qO3 qO4 qO5 qO6 adP0 qP00 qP01 qP02 qP03 qP04 adP1 qP10 qP11 qP12 qP13 qP14 adT qT0 qT1 qT2 qT3 qT4 qT5 qT6 qT7 qout oO2 oO7 oO9 oO10 oO11 O P0 P1 uz.1 uz.2) t) (va_A (zd_L_sign cI cL adO qO3 qO4 qO5 qO6 adP0 qP00 qP01 qP02 qP03 qP04 adP1 qP10 qP11 qP12 qP13 qP14 adT qT0 qT1 qT2 qT3 qT4 qT5 qT6 qT7 qout oO2 oO7 oO9 oO10 oO11 O P0 P1 T out) sz)) 1 6 (va_A (zd_L_sign cI cL adO qO3 qO4 qO5 qO6 adP0 qP00 qP01 qP02 qP03 qP04 adP1 qP10 qP11 qP12 qP13 qP14 adT qT0 qT1 qT2 qT3 qT4 qT5 qT6 qT7 qout oO2 oO7 oO9 oO10 oO11 O P0 P1 T out) sz) := by
  refine zl_met (cc := cL_sign) (maxL := 5) (ret := (some .int)) (hh := [(0, 10, 13, 13), (0, 10, 17, 15)]) (lv0 := [(0, .ref adO), (1, .int b0), (2, .int b1), (3, .ref qout)]) (Qc := fun A => va_Qi (fun (rz : Int32) (uz : zMem × zRowL) => post rz uz.1 uz.2) (fun (uz : zMem × zRowL) t => zv_out G cI A (zd_L_sign cI cL adO qO3 qO4 qO5 qO6 adP0 qP00 qP01 qP02 qP03 qP04 adP1 qP10 qP11 qP12 qP13 qP14 adT qT0 qT1 qT2 qT3 qT4 qT5 qT6 qT7 qout oO2 oO7 oO9 oO10 oO11 O P0 P1 uz.1 uz.2) t) A) (by decide) rfl (Nat.le_of_ble_eq_true rfl) rfl ?_ sz
  intro p e s m below meth c A C hB hKL hN hTb hr hlk
  clear sz
  refine zv_aload_n (pc := 0) C rfl 3 rfl dL_sign_0 ?_
  refine zv_iconst (pc := 1) (v := 0) C (by decide) dL_sign_1 ?_
  refine zv_aload_n (pc := 2) C rfl 0 rfl dL_sign_2 ?_
  refine zv_iload_n (pc := 3) C rfl 1 rfl dL_sign_3 ?_
  refine zv_iload_n (pc := 4) C rfl 2 rfl dL_sign_4 ?_
  refine zl_ci (pc := 5) (ws' := (fun uz : zMem => (zd_L_sign cI cL adO qO3 qO4 qO5 qO6 adP0 qP00 qP01 qP02 qP03 qP04 adP1 qP10 qP11 qP12 qP13 qP14 adT qT0 qT1 qT2 qT3 qT4 qT5 qT6 qT7 qout oO2 oO7 oO9 oO10 oO11 O P0 P1 uz out))) C (zl_runV (As := [.int b0, .int b1]) (b := adO) (rest := [.int (0 : Int32), .ref qout]) (ci := 4) (q0 := 0) C hB (zc_X5_sign l hlt G cI adO qO3 qO4 qO5 qO6 adP0 qP00 qP01 qP02 qP03 qP04 adP1 qP10 qP11 qP12 qP13 qP14 adT qT0 qT1 qT2 qT3 qT4 qT5 qT6 qT7 oO2 oO7 oO9 oO10 oO11 O P0 P1 T b0 b1 _ _ _ hF) (cwV 2 C.2.2.2.2.1 gL_sign_X5_sign rfl rfl rfl zy_X5_sign ⟨(Nat.le_of_ble_eq_true rfl), (Nat.le_of_ble_eq_true rfl)⟩) rfl rfl rfl rfl rfl (Nat.le_of_ble_eq_true rfl) ⟨(Nat.le_of_ble_eq_true rfl), (Nat.le_of_ble_eq_true rfl)⟩ dL_sign_5) [0, 1, 2, 3, 4, 5, 6, 7, 8, 9, 10, 11, 12, 13, 14, 15, 16, 17, 18, 19, 20, 21, 22, 23, 24, 25] [26] rfl rfl rfl rfl rfl rfl (fun _ => rfl) (fun _ => rfl) (fun _ => rfl) ?_ (fun v_2 uz hF => ?_)
  · rintro E (⟨rfl, hF⟩ | ⟨rfl, hF⟩)
    · refine ⟨13, zl_H1 hTb rfl (by decide) (C.2.2.2.2.1 _ (List.mem_of_getElem? (i := 1) rfl)) (va_Nw.use rfl (hB.2.2.2 _ (List.mem_of_getElem? (i := 1) rfl))), fun q9 => ?_⟩
      refine zv_cs (k := 1) (n := 6) rfl rfl ?_
      refine zv_astore (pc := 13) (lv' := [(4, .ref q9), (0, .ref adO), (1, .int b0), (2, .int b1), (3, .ref qout)]) C (by decide) rfl dL_sign_13 ?_
      refine zv_iconst (pc := 15) (v := 1) C (by decide) dL_sign_15 ?_
      exact zv_iret (pc := 16) C hr hlk (1 : Int32) (T, out) hF rfl dL_sign_16
    · refine ⟨17, zl_H2 hTb (by decide) (C.2.2.2.2.1 _ (List.mem_of_getElem? (i := 1) rfl)) hN.1 rfl (by decide) (C.2.2.2.2.1 _ (List.mem_of_getElem? (i := 2) rfl)) (va_Nw.use rfl (hB.2.2.2 _ (List.mem_of_getElem? (i := 0) rfl))), fun q9 => ?_⟩
      refine zv_cs (k := 1) (n := 6) rfl rfl ?_
      refine zv_astore (pc := 17) (lv' := [(4, .ref q9), (0, .ref adO), (1, .int b0), (2, .int b1), (3, .ref qout)]) C (by decide) rfl dL_sign_17 ?_
      refine zv_iconst (pc := 19) (v := 2) C (by decide) dL_sign_19 ?_
      exact zv_iret (pc := 20) C hr hlk (2 : Int32) (T, out) hF rfl dL_sign_20
  · skip
    refine zv_cs (k := 1) (n := 6) rfl rfl ?_
    obtain ⟨T_1, hE⟩ : ∃ z, z = uz := ⟨_, rfl⟩; subst hE
    refine zv_i2l (pc := 8) C  dL_sign_8 ?_
    obtain ⟨r_3, er_3⟩ : ∃ y : zRowL, y = (vp_updL out (Int32.toNatClampNeg (0 : Int32)) (Int32.toInt64 v_2)) := ⟨_, rfl⟩
    replace hF := hF r_3 er_3
    refine zl_last (pc := 9) (n := 1) (f := out) (ws' := (zd_L_sign cI cL adO qO3 qO4 qO5 qO6 adP0 qP00 qP01 qP02 qP03 qP04 adP1 qP10 qP11 qP12 qP13 qP14 adT qT0 qT1 qT2 qT3 qT4 qT5 qT6 qT7 qout oO2 oO7 oO9 oO10 oO11 O P0 P1 T_1 r_3)) C hKL 26 (vp_in_iff.mpr (by decide)) rfl (by rw [er_3]; rfl) dL_sign_9 ?_
    refine zv_goto (pc := 10) (tgt := 21) C dL_sign_10 (by decide) ?_
    refine zv_iconst (pc := 21) (v := 0) C (by decide) dL_sign_21 ?_
    exact zv_iret (pc := 22) C hr hlk (0 : Int32) (T_1, r_3) hF rfl dL_sign_22
theorem zy_L_stops : yL_stops.cls ≠ "java/lang/invoke/MethodHandle" ∧ yL_stops.cls ≠ "java/lang/invoke/VarHandle" ∧ (parseMethodDescriptor yL_stops.desc).map (fun d => d.parameters.length) = some 3 := by decide +kernel
set_option maxHeartbeats 4000000 in
set_option maxRecDepth 100000 in
theorem zc_L_stops (l : Launch) (hlt : l.stackTraces = false) (G : va_G) (cI cL : ClassId) (adO qO3 qO4 qO5 qO6 adP0 qP00 qP01 qP02 qP03 qP04 adP1 qP10 qP11 qP12 qP13 qP14 adT qT0 qT1 qT2 qT3 qT4 qT5 qT6 qT7 qout oO2 oO7 oO9 oO10 oO11 : Nat) (O : zMem) (P0 : zMem) (P1 : zMem) (T : zMem) (out : zRowL) (b0 : Int32) (post : Int32 → zMem → zRowL → Prop) (hF : zw_L_stops O P0 P1 T out b0 post) (sz : Nat) : Met l yL_stops wsL_stops rmL_stops (va_Pc [.ref adO, .int b0, .ref qout] (zl_in G cI cL (zd_L_stops cI cL adO qO3 qO4 qO5 qO6 adP0 qP00 qP01 qP02 qP03 qP04 adP1 qP10 qP11 qP12 qP13 qP14 adT qT0 qT1 qT2 qT3 qT4 qT5 qT6 qT7 qout oO2 oO7 oO9 oO10 oO11 O P0 P1 T out) sz)) (va_Qi (fun (rz : Int32) (uz : zMem × zRowL) => post rz uz.1 uz.2) (fun (uz : zMem × zRowL) t => zv_out G cI (va_A (zd_L_stops cI cL adO qO3 qO4 qO5 qO6 adP0 qP00 qP01 qP02 qP03 qP04 adP1 qP10 qP11 qP12 qP13 qP14 adT qT0 qT1 qT2 qT3 qT4 qT5 qT6 qT7 qout oO2 oO7 oO9 oO10 oO11 O P0 P1 T out) sz) (zd_L_stops cI cL adO qO3 qO4 qO5 qO6 adP0 qP00 qP01 qP02 qP03 qP04 adP1 qP10 qP11 qP12 qP13 qP14 adT qT0 qT1 qT2 qT3 qT4 qT5 qT6 qT7 qout oO2 oO7 oO9 oO10 oO11 O P0 P1 uz.1 uz.2) t) (va_A (zd_L_stops cI cL adO qO3 qO4 qO5 qO6 adP0 qP00 qP01 qP02 qP03 qP04 adP1 qP10 qP11 qP12 qP13 qP14 adT qT0 qT1 qT2 qT3 qT4 qT5 qT6 qT7 qout oO2 oO7 oO9 oO10 oO11 O P0 P1 T out) sz)) 1 6 (va_A (zd_L_stops cI cL adO qO3 qO4 qO5 qO6 adP0 qP00 qP01 qP02 qP03 qP04 adP1 qP10 qP11 qP12 qP13 qP14 adT qT0 qT1 qT2 qT3 qT4 qT5 qT6 qT7 qout oO2 oO7 oO9 oO10 oO11 O P0 P1 T out) sz) := by
  refine zl_met (cc := cL_stops) (maxL := 4) (ret := (some .int)) (hh := [(0, 16, 19, 13)]) (lv0 := [(0, .ref adO), (1, .int b0), (2, .ref qout)]) (Qc := fun A => va_Qi (fun (rz : Int32) (uz : zMem × zRowL) => post rz uz.1 uz.2) (fun (uz : zMem × zRowL) t => zv_out G cI A (zd_L_stops cI cL adO qO3 qO4 qO5 qO6 adP0 qP00 qP01 qP02 qP03 qP04 adP1 qP10 qP11 qP12 qP13 qP14 adT qT0 qT1 qT2 qT3 qT4 qT5 qT6 qT7 qout oO2 oO7 oO9 oO10 oO11 O P0 P1 uz.1 uz.2) t) A) (by decide) rfl (Nat.le_of_ble_eq_true rfl) rfl ?_ sz
  intro p e s m below meth c A C hB hKL hN hTb hr hlk
  clear sz
  refine zv_aload_n (pc := 0) C rfl 2 rfl dL_stops_0 ?_
  refine zv_iconst (pc := 1) (v := 0) C (by decide) dL_stops_1 ?_
  refine zv_aload_n (pc := 2) C rfl 0 rfl dL_stops_2 ?_
  refine zv_iload_n (pc := 3) C rfl 1 rfl dL_stops_3 ?_
  refine zl_ci (pc := 4) (ws' := (fun uz : zMem => (zd_L_stops cI cL adO qO3 qO4 qO5 qO6 adP0 qP00 qP01 qP02 qP03 qP04 adP1 qP10 qP11 qP12 qP13 qP14 adT qT0 qT1 qT2 qT3 qT4 qT5 qT6 qT7 qout oO2 oO7 oO9 oO10 oO11 O P0 P1 uz out))) C (zl_runV (As := [.int b0]) (b := adO) (rest := [.int (0 : Int32), .ref qout]) (ci := 4) (q0 := 0) C hB (zc_X5_stops l hlt G cI adO qO3 qO4 qO5 qO6 adP0 qP00 qP01 qP02 qP03 qP04 adP1 qP10 qP11 qP12 qP13 qP14 adT qT0 qT1 qT2 qT3 qT4 qT5 qT6 qT7 oO2 oO7 oO9 oO10 oO11 O P0 P1 T b0 _ _ hF) (cwV 1 C.2.2.2.2.1 gL_stops_X5_stops rfl rfl rfl zy_X5_stops ⟨(Nat.le_of_ble_eq_true rfl), (Nat.le_of_ble_eq_true rfl)⟩) rfl rfl rfl rfl rfl (Nat.le_of_ble_eq_true rfl) ⟨(Nat.le_of_ble_eq_true rfl), (Nat.le_of_ble_eq_true rfl)⟩ dL_stops_4) [0, 1, 2, 3, 4, 5, 6, 7, 8, 9, 10, 11, 12, 13, 14, 15, 16, 17, 18, 19, 20, 21, 22, 23, 24, 25] [26] rfl rfl rfl rfl rfl rfl (fun _ => rfl) (fun _ => rfl) (fun _ => rfl) ?_ (fun v_2 uz hF => ?_)
  · rintro E ⟨rfl, hF⟩
    · refine ⟨19, zl_H1 hTb rfl (by decide) (C.2.2.2.2.1 _ (List.mem_of_getElem? (i := 1) rfl)) (va_Nw.use rfl (hB.2.2.2 _ (List.mem_of_getElem? (i := 1) rfl))), fun q9 => ?_⟩
      refine zv_cs (k := 1) (n := 6) rfl rfl ?_
      refine zv_astore_n (pc := 19) (lv' := [(3, .ref q9), (0, .ref adO), (1, .int b0), (2, .ref qout)]) C rfl (by decide) rfl dL_stops_19 ?_
      refine zv_iconst (pc := 20) (v := 1) C (by decide) dL_stops_20 ?_
      exact zv_iret (pc := 21) C hr hlk (1 : Int32) (T, out) hF rfl dL_stops_21
  · skip
    refine zv_cs (k := 1) (n := 6) rfl rfl ?_
    obtain ⟨T_1, hE⟩ : ∃ z, z = uz := ⟨_, rfl⟩; subst hE
    refine zv_if_eq (pc := 7) (tgt := 14) C dL_stops_7 (by decide) (fun c_3 => ?_) (fun c_3 => ?_)
    · replace hF := And.left hF c_3
      refine zv_lconst (pc := 14) (v := 0) C (by decide) dL_stops_14 ?_
      obtain ⟨r_4, er_4⟩ : ∃ y : zRowL, y = (vp_updL out (Int32.toNatClampNeg (0 : Int32)) (0 : Int64)) := ⟨_, rfl⟩
      replace hF := hF r_4 er_4
      refine zl_last (pc := 15) (n := 1) (f := out) (ws' := (zd_L_stops cI cL adO qO3 qO4 qO5 qO6 adP0 qP00 qP01 qP02 qP03 qP04 adP1 qP10 qP11 qP12 qP13 qP14 adT qT0 qT1 qT2 qT3 qT4 qT5 qT6 qT7 qout oO2 oO7 oO9 oO10 oO11 O P0 P1 T_1 r_4)) C hKL 26 (vp_in_iff.mpr (by decide)) rfl (by rw [er_4]; rfl) dL_stops_15 ?_
      refine zv_goto (pc := 16) (tgt := 22) C dL_stops_16 (by decide) ?_
      refine zv_iconst (pc := 22) (v := 0) C (by decide) dL_stops_22 ?_
      exact zv_iret (pc := 23) C hr hlk (0 : Int32) (T_1, r_4) hF rfl dL_stops_23
    · replace hF := And.right hF c_3
      refine zv_lconst (pc := 10) (v := 1) C (by decide) dL_stops_10 ?_
      refine zv_goto (pc := 11) (tgt := 15) C dL_stops_11 (by decide) ?_
      obtain ⟨r_5, er_5⟩ : ∃ y : zRowL, y = (vp_updL out (Int32.toNatClampNeg (0 : Int32)) (1 : Int64)) := ⟨_, rfl⟩
      replace hF := hF r_5 er_5
      refine zl_last (pc := 15) (n := 1) (f := out) (ws' := (zd_L_stops cI cL adO qO3 qO4 qO5 qO6 adP0 qP00 qP01 qP02 qP03 qP04 adP1 qP10 qP11 qP12 qP13 qP14 adT qT0 qT1 qT2 qT3 qT4 qT5 qT6 qT7 qout oO2 oO7 oO9 oO10 oO11 O P0 P1 T_1 r_5)) C hKL 26 (vp_in_iff.mpr (by decide)) rfl (by rw [er_5]; rfl) dL_stops_15 ?_
      refine zv_goto (pc := 16) (tgt := 22) C dL_stops_16 (by decide) ?_
      refine zv_iconst (pc := 22) (v := 0) C (by decide) dL_stops_22 ?_
      exact zv_iret (pc := 23) C hr hlk (0 : Int32) (T_1, r_5) hF rfl dL_stops_23
theorem zy_L_extreme : yL_extreme.cls ≠ "java/lang/invoke/MethodHandle" ∧ yL_extreme.cls ≠ "java/lang/invoke/VarHandle" ∧ (parseMethodDescriptor yL_extreme.desc).map (fun d => d.parameters.length) = some 5 := by decide +kernel
set_option maxHeartbeats 4000000 in
set_option maxRecDepth 100000 in
theorem zc_L_extreme (l : Launch) (hlt : l.stackTraces = false) (G : va_G) (cI cL : ClassId) (adO qO3 qO4 qO5 qO6 adP0 qP00 qP01 qP02 qP03 qP04 adP1 qP10 qP11 qP12 qP13 qP14 adT qT0 qT1 qT2 qT3 qT4 qT5 qT6 qT7 adF1 qF10 qF11 qF12 qF13 adF2 qF20 qF21 qF22 qF23 qout oO2 oO7 oO9 : Nat) (O : zMem) (P0 : zMem) (P1 : zMem) (T : zMem) (F1 : zMem) (F2 : zMem) (out : zRowL) (b0 : Int32) (b1 : Int32) (b2 : Int32) (post : Int32 → zMem → zMem → zMem → zRowL → Prop) (hF : zw_L_extreme O P0 P1 T F1 F2 out b0 b1 b2 post) (sz : Nat) : Met l yL_extreme wsL_extreme rmL_extreme (va_Pc [.ref adO, .int b0, .int b1, .int b2, .ref qout] (zl_in G cI cL (zd_L_extreme cI cL adO qO3 qO4 qO5 qO6 adP0 qP00 qP01 qP02 qP03 qP04 adP1 qP10 qP11 qP12 qP13 qP14 adT qT0 qT1 qT2 qT3 qT4 qT5 qT6 qT7 adF1 qF10 qF11 qF12 qF13 adF2 qF20 qF21 qF22 qF23 qout oO2 oO7 oO9 O P0 P1 T F1 F2 out) sz)) (va_Qi (fun (rz : Int32) (uz : zMem × zMem × zMem × zRowL) => post rz uz.1 uz.2.1 uz.2.2.1 uz.2.2.2) (fun (uz : zMem × zMem × zMem × zRowL) t => zv_out G cI (va_A (zd_L_extreme cI cL adO qO3 qO4 qO5 qO6 adP0 qP00 qP01 qP02 qP03 qP04 adP1 qP10 qP11 qP12 qP13 qP14 adT qT0 qT1 qT2 qT3 qT4 qT5 qT6 qT7 adF1 qF10 qF11 qF12 qF13 adF2 qF20 qF21 qF22 qF23 qout oO2 oO7 oO9 O P0 P1 T F1 F2 out) sz) (zd_L_extreme cI cL adO qO3 qO4 qO5 qO6 adP0 qP00 qP01 qP02 qP03 qP04 adP1 qP10 qP11 qP12 qP13 qP14 adT qT0 qT1 qT2 qT3 qT4 qT5 qT6 qT7 adF1 qF10 qF11 qF12 qF13 adF2 qF20 qF21 qF22 qF23 qout oO2 oO7 oO9 O P0 P1 uz.1 uz.2.1 uz.2.2.1 uz.2.2.2) t) (va_A (zd_L_extreme cI cL adO qO3 qO4 qO5 qO6 adP0 qP00 qP01 qP02 qP03 qP04 adP1 qP10 qP11 qP12 qP13 qP14 adT qT0 qT1 qT2 qT3 qT4 qT5 qT6 qT7 adF1 qF10 qF11 qF12 qF13 adF2 qF20 qF21 qF22 qF23 qout oO2 oO7 oO9 O P0 P1 T F1 F2 out) sz)) 1 6 (va_A (zd_L_extreme cI cL adO qO3 qO4 qO5 qO6 adP0 qP00 qP01 qP02 qP03 qP04 adP1 qP10 qP11 qP12 qP13 qP14 adT qT0 qT1 qT2 qT3 qT4 qT5 qT6 qT7 adF1 qF10 qF11 qF12 qF13 adF2 qF20 qF21 qF22 qF23 qout oO2 oO7 oO9 O P0 P1 T F1 F2 out) sz) := by
  refine zl_met (cc := cL_extreme) (maxL := 6) (ret := (some .int)) (hh := [(0, 12, 15, 13), (0, 12, 19, 15)]) (lv0 := [(0, .ref adO), (1, .int b0), (2, .int b1), (3, .int b2), (4, .ref qout)]) (Qc := fun A => va_Qi (fun (rz : Int32) (uz : zMem × zMem × zMem × zRowL) => post rz uz.1 uz.2.1 uz.2.2.1 uz.2.2.2) (fun (uz : zMem × zMem × zMem × zRowL) t => zv_out G cI A (zd_L_extreme cI cL adO qO3 qO4 qO5 qO6 adP0 qP00 qP01 qP02 qP03 qP04 adP1 qP10 qP11 qP12 qP13 qP14 adT qT0 qT1 qT2 qT3 qT4 qT5 qT6 qT7 adF1 qF10 qF11 qF12 qF13 adF2 qF20 qF21 qF22 qF23 qout oO2 oO7 oO9 O P0 P1 uz.1 uz.2.1 uz.2.2.1 uz.2.2.2) t) A) (by decide) rfl (Nat.le_of_ble_eq_true rfl) rfl ?_ sz
  intro p e s m below meth c A C hB hKL hN hTb hr hlk
  clear sz
  refine zv_aload (pc := 0) C 4 rfl dL_extreme_0 ?_
  refine zv_iconst (pc := 2) (v := 0) C (by decide) dL_extreme_2 ?_
  refine zv_aload_n (pc := 3) C rfl 0 rfl dL_extreme_3 ?_
  refine zv_iload_n (pc := 4) C rfl 1 rfl dL_extreme_4 ?_
  refine zv_iload_n (pc := 5) C rfl 2 rfl dL_extreme_5 ?_
  refine zv_iload_n (pc := 6) C rfl 3 rfl dL_extreme_6 ?_
  refine zl_ci (pc := 7) (ws' := (fun uz : zMem × zMem × zMem => (zd_L_extreme cI cL adO qO3 qO4 qO5 qO6 adP0 qP00 qP01 qP02 qP03 qP04 adP1 qP10 qP11 qP12 qP13 qP14 adT qT0 qT1 qT2 qT3 qT4 qT5 qT6 qT7 adF1 qF10 qF11 qF12 qF13 adF2 qF20 qF21 qF22 qF23 qout oO2 oO7 oO9 O P0 P1 uz.1 uz.2.1 uz.2.2 out))) C (zl_runV (As := [.int b0, .int b1, .int b2]) (b := adO) (rest := [.int (0 : Int32), .ref qout]) (ci := 4) (q0 := 0) C hB (zc_X5_extreme l hlt G cI adO qO3 qO4 qO5 qO6 adP0 qP00 qP01 qP02 qP03 qP04 adP1 qP10 qP11 qP12 qP13 qP14 adT qT0 qT1 qT2 qT3 qT4 qT5 qT6 qT7 adF1 qF10 qF11 qF12 qF13 adF2 qF20 qF21 qF22 qF23 oO2 oO7 oO9 O P0 P1 T F1 F2 b0 b1 b2 _ _ _ hF) (cwV 3 C.2.2.2.2.1 gL_extreme_X5_extreme rfl rfl rfl zy_X5_extreme ⟨(Nat.le_of_ble_eq_true rfl), (Nat.le_of_ble_eq_true rfl)⟩) rfl rfl rfl rfl rfl (Nat.le_of_ble_eq_true rfl) ⟨(Nat.le_of_ble_eq_true rfl), (Nat.le_of_ble_eq_true rfl)⟩ dL_extreme_7) [0, 1, 2, 3, 4, 5, 6, 7, 8, 9, 10, 11, 12, 13, 14, 15, 16, 17, 18, 19, 20, 21, 22, 23, 24, 25, 26, 27, 28, 29, 30, 31, 32, 33, 34, 35] [36] rfl rfl rfl rfl rfl rfl (fun _ => rfl) (fun _ => rfl) (fun _ => rfl) ?_ (fun v_4 uz hF => ?_)
  · rintro E (⟨rfl, hF⟩ | ⟨rfl, hF⟩)
    · refine ⟨15, zl_H1 hTb rfl (by decide) (C.2.2.2.2.1 _ (List.mem_of_getElem? (i := 1) rfl)) (va_Nw.use rfl (hB.2.2.2 _ (List.mem_of_getElem? (i := 1) rfl))), fun q9 => ?_⟩
      refine zv_cs (k := 1) (n := 6) rfl rfl ?_
      refine zv_astore (pc := 15) (lv' := [(5, .ref q9), (0, .ref adO), (1, .int b0), (2, .int b1), (3, .int b2), (4, .ref qout)]) C (by decide) rfl dL_extreme_15 ?_
      refine zv_iconst (pc := 17) (v := 1) C (by decide) dL_extreme_17 ?_
      exact zv_iret (pc := 18) C hr hlk (1 : Int32) (T, F1, F2, out) hF rfl dL_extreme_18
    · refine ⟨19, zl_H2 hTb (by decide) (C.2.2.2.2.1 _ (List.mem_of_getElem? (i := 1) rfl)) hN.1 rfl (by decide) (C.2.2.2.2.1 _ (List.mem_of_getElem? (i := 2) rfl)) (va_Nw.use rfl (hB.2.2.2 _ (List.mem_of_getElem? (i := 0) rfl))), fun q9 => ?_⟩
      refine zv_cs (k := 1) (n := 6) rfl rfl ?_
      refine zv_astore (pc := 19) (lv' := [(5, .ref q9), (0, .ref adO), (1, .int b0), (2, .int b1), (3, .int b2), (4, .ref qout)]) C (by decide) rfl dL_extreme_19 ?_
      refine zv_iconst (pc := 21) (v := 2) C (by decide) dL_extreme_21 ?_
      exact zv_iret (pc := 22) C hr hlk (2 : Int32) (T, F1, F2, out) hF rfl dL_extreme_22
  · skip
    refine zv_cs (k := 1) (n := 6) rfl rfl ?_
    obtain ⟨T_1, T_2, T_3⟩ := uz
    refine zv_i2l (pc := 10) C  dL_extreme_10 ?_
    obtain ⟨r_5, er_5⟩ : ∃ y : zRowL, y = (vp_updL out (Int32.toNatClampNeg (0 : Int32)) (Int32.toInt64 v_4)) := ⟨_, rfl⟩
    replace hF := hF r_5 er_5
    refine zl_last (pc := 11) (n := 1) (f := out) (ws' := (zd_L_extreme cI cL adO qO3 qO4 qO5 qO6 adP0 qP00 qP01 qP02 qP03 qP04 adP1 qP10 qP11 qP12 qP13 qP14 adT qT0 qT1 qT2 qT3 qT4 qT5 qT6 qT7 adF1 qF10 qF11 qF12 qF13 adF2 qF20 qF21 qF22 qF23 qout oO2 oO7 oO9 O P0 P1 T_1 T_2 T_3 r_5)) C hKL 36 (vp_in_iff.mpr (by decide)) rfl (by rw [er_5]; rfl) dL_extreme_11 ?_
    refine zv_goto (pc := 12) (tgt := 23) C dL_extreme_12 (by decide) ?_
    refine zv_iconst (pc := 23) (v := 0) C (by decide) dL_extreme_23 ?_
    exact zv_iret (pc := 24) C hr hlk (0 : Int32) (T_1, T_2, T_3, r_5) hF rfl dL_extreme_24
theorem zy_L_list : yL_list.cls ≠ "java/lang/invoke/MethodHandle" ∧ yL_list.cls ≠ "java/lang/invoke/VarHandle" ∧ (parseMethodDescriptor yL_list.desc).map (fun d => d.parameters.length) = some 4 := by decide +kernel
set_option maxHeartbeats 4000000 in
set_option maxRecDepth 100000 in
theorem zc_L_list (l : Launch) (hlt : l.stackTraces = false) (G : va_G) (cI cL : ClassId) (adO qO3 qO4 qO5 qO6 qout oO0 oO1 oO2 oO7 oO8 oO9 oO10 oO11 : Nat) (O : zMem) (out : zRowL) (b0 : Int32) (b1 : Int32) (post : Int32 → zMem → zRowL → Prop) (hF : zw_L_list O out b0 b1 post) (sz : Nat) : Met l yL_list wsL_list rmL_list (va_Pc [.ref adO, .int b0, .int b1, .ref qout] (zl_in G cI cL (zd_L_list cI cL adO qO3 qO4 qO5 qO6 qout oO0 oO1 oO2 oO7 oO8 oO9 oO10 oO11 O out) sz)) (va_Qi (fun (rz : Int32) (uz : zMem × zRowL) => post rz uz.1 uz.2) (fun (uz : zMem × zRowL) t => zv_out G cI (va_A (zd_L_list cI cL adO qO3 qO4 qO5 qO6 qout oO0 oO1 oO2 oO7 oO8 oO9 oO10 oO11 O out) sz) (zd_L_list cI cL adO qO3 qO4 qO5 qO6 qout oO0 oO1 oO2 oO7 oO8 oO9 oO10 oO11 uz.1 uz.2) t) (va_A (zd_L_list cI cL adO qO3 qO4 qO5 qO6 qout oO0 oO1 oO2 oO7 oO8 oO9 oO10 oO11 O out) sz)) 1 6 (va_A (zd_L_list cI cL adO qO3 qO4 qO5 qO6 qout oO0 oO1 oO2 oO7 oO8 oO9 oO10 oO11 O out) sz) := by
  refine zl_met (cc := cL_list) (maxL := 5) (ret := (some .int)) (hh := [(0, 10, 13, 15)]) (lv0 := [(0, .ref adO), (1, .int b0), (2, .int b1), (3, .ref qout)]) (Qc := fun A => va_Qi (fun (rz : Int32) (uz : zMem × zRowL) => post rz uz.1 uz.2) (fun (uz : zMem × zRowL) t => zv_out G cI A (zd_L_list cI cL adO qO3 qO4 qO5 qO6 qout oO0 oO1 oO2 oO7 oO8 oO9 oO10 oO11 uz.1 uz.2) t) A) (by decide) rfl (Nat.le_of_ble_eq_true rfl) rfl ?_ sz
  intro p e s m below meth c A C hB hKL hN hTb hr hlk
  clear sz
  refine zv_aload_n (pc := 0) C rfl 3 rfl dL_list_0 ?_
  refine zv_iconst (pc := 1) (v := 0) C (by decide) dL_list_1 ?_
  refine zv_aload_n (pc := 2) C rfl 0 rfl dL_list_2 ?_
  refine zv_iload_n (pc := 3) C rfl 1 rfl dL_list_3 ?_
  refine zv_iload_n (pc := 4) C rfl 2 rfl dL_list_4 ?_
  refine zl_ci (pc := 5) (ws' := (fun uz : zMem => (zd_L_list cI cL adO qO3 qO4 qO5 qO6 qout oO0 oO1 oO2 oO7 oO8 oO9 oO10 oO11 uz out))) C (zl_runV (As := [.int b0, .int b1]) (b := adO) (rest := [.int (0 : Int32), .ref qout]) (ci := 4) (q0 := 0) C hB (zc_X5_list l hlt G cI adO qO3 qO4 qO5 qO6 oO0 oO1 oO2 oO7 oO8 oO9 oO10 oO11 O b0 b1 _ _ hF) (cwV 2 C.2.2.2.2.1 gL_list_X5_list rfl rfl rfl zy_X5_list ⟨(Nat.le_of_ble_eq_true rfl), (Nat.le_of_ble_eq_true rfl)⟩) rfl rfl rfl rfl rfl (Nat.le_of_ble_eq_true rfl) ⟨(Nat.le_of_ble_eq_true rfl), (Nat.le_of_ble_eq_true rfl)⟩ dL_list_5) [0, 1, 2, 3, 4] [5] rfl rfl rfl rfl rfl rfl (fun _ => rfl) (fun _ => rfl) (fun _ => rfl) ?_ (fun v_2 uz hF => ?_)
  · rintro E ⟨rfl, hF⟩
    · refine ⟨13, zl_H1 hTb rfl (by decide) (C.2.2.2.2.1 _ (List.mem_of_getElem? (i := 1) rfl)) (va_Nw.use rfl (hB.2.2.2 _ (List.mem_of_getElem? (i := 0) rfl))), fun q9 => ?_⟩
      refine zv_cs (k := 1) (n := 6) rfl rfl ?_
      refine zv_astore (pc := 13) (lv' := [(4, .ref q9), (0, .ref adO), (1, .int b0), (2, .int b1), (3, .ref qout)]) C (by decide) rfl dL_list_13 ?_
      refine zv_iconst (pc := 15) (v := 1) C (by decide) dL_list_15 ?_
      exact zv_iret (pc := 16) C hr hlk (1 : Int32) (O, out) hF rfl dL_list_16
  · skip
    refine zv_cs (k := 1) (n := 6) rfl rfl ?_
    obtain ⟨T_1, hE⟩ : ∃ z, z = uz := ⟨_, rfl⟩; subst hE
    refine zv_i2l (pc := 8) C  dL_list_8 ?_
    obtain ⟨r_3, er_3⟩ : ∃ y : zRowL, y = (vp_updL out (Int32.toNatClampNeg (0 : Int32)) (Int32.toInt64 v_2)) := ⟨_, rfl⟩
    replace hF := hF r_3 er_3
    refine zl_last (pc := 9) (n := 1) (f := out) (ws' := (zd_L_list cI cL adO qO3 qO4 qO5 qO6 qout oO0 oO1 oO2 oO7 oO8 oO9 oO10 oO11 T_1 r_3)) C hKL 5 (vp_in_iff.mpr (by decide)) rfl (by rw [er_3]; rfl) dL_list_9 ?_
    refine zv_goto (pc := 10) (tgt := 17) C dL_list_10 (by decide) ?_
    refine zv_iconst (pc := 17) (v := 0) C (by decide) dL_list_17 ?_
    exact zv_iret (pc := 18) C hr hlk (0 : Int32) (T_1, r_3) hF rfl dL_list_18
theorem zy_L_choose : yL_choose.cls ≠ "java/lang/invoke/MethodHandle" ∧ yL_choose.cls ≠ "java/lang/invoke/VarHandle" ∧ (parseMethodDescriptor yL_choose.desc).map (fun d => d.parameters.length) = some 4 := by decide +kernel
set_option maxHeartbeats 4000000 in
set_option maxRecDepth 100000 in
theorem zc_L_choose (l : Launch) (hlt : l.stackTraces = false) (G : va_G) (cI cL : ClassId) (adO qO3 qO4 qO5 qO6 adP0 qP00 qP01 qP02 qP03 qP04 adP1 qP10 qP11 qP12 qP13 qP14 adP2 qP20 qP21 qP22 qP23 qP24 adT qT0 qT1 qT2 qT3 qT4 qT5 qT6 qT7 adF1 qF10 qF11 qF12 qF13 adF2 qF20 qF21 qF22 qF23 qout oO7 oO9 : Nat) (O : zMem) (P0 : zMem) (P1 : zMem) (P2 : zMem) (T : zMem) (F1 : zMem) (F2 : zMem) (out : zRowL) (b0 : Int32) (b1 : Int32) (post : Int32 → zMem → zMem → zMem → zMem → zMem → zMem → zMem → zRowL → Prop) (hF : zw_L_choose O P0 P1 P2 T F1 F2 out b0 b1 post) (sz : Nat) : Met l yL_choose wsL_choose rmL_choose (va_Pc [.ref adO, .int b0, .int b1, .ref qout] (zl_in G cI cL (zd_L_choose cI cL adO qO3 qO4 qO5 qO6 adP0 qP00 qP01 qP02 qP03 qP04 adP1 qP10 qP11 qP12 qP13 qP14 adP2 qP20 qP21 qP22 qP23 qP24 adT qT0 qT1 qT2 qT3 qT4 qT5 qT6 qT7 adF1 qF10 qF11 qF12 qF13 adF2 qF20 qF21 qF22 qF23 qout oO7 oO9 O P0 P1 P2 T F1 F2 out) sz)) (va_Qi (fun (rz : Int32) (uz : zMem × zMem × zMem × zMem × zMem × zMem × zMem × zRowL) => post rz uz.1 uz.2.1 uz.2.2.1 uz.2.2.2.1 uz.2.2.2.2.1 uz.2.2.2.2.2.1 uz.2.2.2.2.2.2.1 uz.2.2.2.2.2.2.2) (fun (uz : zMem × zMem × zMem × zMem × zMem × zMem × zMem × zRowL) t => zv_out G cI (va_A (zd_L_choose cI cL adO qO3 qO4 qO5 qO6 adP0 qP00 qP01 qP02 qP03 qP04 adP1 qP10 qP11 qP12 qP13 qP14 adP2 qP20 qP21 qP22 qP23 qP24 adT qT0 qT1 qT2 qT3 qT4 qT5 qT6 qT7 adF1 qF10 qF11 qF12 qF13 adF2 qF20 qF21 qF22 qF23 qout oO7 oO9 O P0 P1 P2 T F1 F2 out) sz) (zd_L_choose cI cL adO qO3 qO4 qO5 qO6 adP0 qP00 qP01 qP02 qP03 qP04 adP1 qP10 qP11 qP12 qP13 qP14 adP2 qP20 qP21 qP22 qP23 qP24 adT qT0 qT1 qT2 qT3 qT4 qT5 qT6 qT7 adF1 qF10 qF11 qF12 qF13 adF2 qF20 qF21 qF22 qF23 qout oO7 oO9 uz.1 uz.2.1 uz.2.2.1 uz.2.2.2.1 uz.2.2.2.2.1 uz.2.2.2.2.2.1 uz.2.2.2.2.2.2.1 uz.2.2.2.2.2.2.2) t) (va_A (zd_L_choose cI cL adO qO3 qO4 qO5 qO6 adP0 qP00 qP01 qP02 qP03 qP04 adP1 qP10 qP11 qP12 qP13 qP14 adP2 qP20 qP21 qP22 qP23 qP24 adT qT0 qT1 qT2 qT3 qT4 qT5 qT6 qT7 adF1 qF10 qF11 qF12 qF13 adF2 qF20 qF21 qF22 qF23 qout oO7 oO9 O P0 P1 P2 T F1 F2 out) sz)) 1 6 (va_A (zd_L_choose cI cL adO qO3 qO4 qO5 qO6 adP0 qP00 qP01 qP02 qP03 qP04 adP1 qP10 qP11 qP12 qP13 qP14 adP2 qP20 qP21 qP22 qP23 qP24 adT qT0 qT1 qT2 qT3 qT4 qT5 qT6 qT7 adF1 qF10 qF11 qF12 qF13 adF2 qF20 qF21 qF22 qF23 qout oO7 oO9 O P0 P1 P2 T F1 F2 out) sz) := by
  refine zl_met (cc := cL_choose) (maxL := 5) (ret := (some .int)) (hh := [(0, 10, 13, 13), (0, 10, 17, 15)]) (lv0 := [(0, .ref adO), (1, .int b0), (2, .int b1), (3, .ref qout)]) (Qc := fun A => va_Qi (fun (rz : Int32) (uz : zMem × zMem × zMem × zMem × zMem × zMem × zMem × zRowL) => post rz uz.1 uz.2.1 uz.2.2.1 uz.2.2.2.1 uz.2.2.2.2.1 uz.2.2.2.2.2.1 uz.2.2.2.2.2.2.1 uz.2.2.2.2.2.2.2) (fun (uz : zMem × zMem × zMem × zMem × zMem × zMem × zMem × zRowL) t => zv_out G cI A (zd_L_choose cI cL adO qO3 qO4 qO5 qO6 adP0 qP00 qP01 qP02 qP03 qP04 adP1 qP10 qP11 qP12 qP13 qP14 adP2 qP20 qP21 qP22 qP23 qP24 adT qT0 qT1 qT2 qT3 qT4 qT5 qT6 qT7 adF1 qF10 qF11 qF12 qF13 adF2 qF20 qF21 qF22 qF23 qout oO7 oO9 uz.1 uz.2.1 uz.2.2.1 uz.2.2.2.1 uz.2.2.2.2.1 uz.2.2.2.2.2.1 uz.2.2.2.2.2.2.1 uz.2.2.2.2.2.2.2) t) A) (by decide) rfl (Nat.le_of_ble_eq_true rfl) rfl ?_ sz
  intro p e s m below meth c A C hB hKL hN hTb hr hlk
  clear sz
  refine zv_aload_n (pc := 0) C rfl 3 rfl dL_choose_0 ?_
  refine zv_iconst (pc := 1) (v := 0) C (by decide) dL_choose_1 ?_
  refine zv_aload_n (pc := 2) C rfl 0 rfl dL_choose_2 ?_
  refine zv_iload_n (pc := 3) C rfl 1 rfl dL_choose_3 ?_
  refine zv_iload_n (pc := 4) C rfl 2 rfl dL_choose_4 ?_
  refine zl_ci (pc := 5) (ws' := (fun uz : zMem × zMem × zMem × zMem × zMem × zMem × zMem => (zd_L_choose cI cL adO qO3 qO4 qO5 qO6 adP0 qP00 qP01 qP02 qP03 qP04 adP1 qP10 qP11 qP12 qP13 qP14 adP2 qP20 qP21 qP22 qP23 qP24 adT qT0 qT1 qT2 qT3 qT4 qT5 qT6 qT7 adF1 qF10 qF11 qF12 qF13 adF2 qF20 qF21 qF22 qF23 qout oO7 oO9 uz.1 uz.2.1 uz.2.2.1 uz.2.2.2.1 uz.2.2.2.2.1 uz.2.2.2.2.2.1 uz.2.2.2.2.2.2 out))) C (zl_runV (As := [.int b0, .int b1]) (b := adO) (rest := [.int (0 : Int32), .ref qout]) (ci := 4) (q0 := 0) C hB (zc_X5_choose l hlt G cI adO qO3 qO4 qO5 qO6 adP0 qP00 qP01 qP02 qP03 qP04 adP1 qP10 qP11 qP12 qP13 qP14 adP2 qP20 qP21 qP22 qP23 qP24 adT qT0 qT1 qT2 qT3 qT4 qT5 qT6 qT7 adF1 qF10 qF11 qF12 qF13 adF2 qF20 qF21 qF22 qF23 oO7 oO9 O P0 P1 P2 T F1 F2 b0 b1 _ _ _ hF) (cwV 2 C.2.2.2.2.1 gL_choose_X5_choose rfl rfl rfl zy_X5_choose ⟨(Nat.le_of_ble_eq_true rfl), (Nat.le_of_ble_eq_true rfl)⟩) rfl rfl rfl rfl rfl (Nat.le_of_ble_eq_true rfl) ⟨(Nat.le_of_ble_eq_true rfl), (Nat.le_of_ble_eq_true rfl)⟩ dL_choose_5) [0, 1, 2, 3, 4, 5, 6, 7, 8, 9, 10, 11, 12, 13, 14, 15, 16, 17, 18, 19, 20, 21, 22, 23, 24, 25, 26, 27, 28, 29, 30, 31, 32, 33, 34, 35, 36, 37, 38, 39, 40, 41] [42] rfl rfl rfl rfl rfl rfl (fun _ => rfl) (fun _ => rfl) (fun _ => rfl) ?_ (fun v_8 uz hF => ?_)
  · rintro E (⟨rfl, hF⟩ | ⟨rfl, hF⟩)
    · refine ⟨13, zl_H1 hTb rfl (by decide) (C.2.2.2.2.1 _ (List.mem_of_getElem? (i := 1) rfl)) (va_Nw.use rfl (hB.2.2.2 _ (List.mem_of_getElem? (i := 1) rfl))), fun q9 => ?_⟩
      refine zv_cs (k := 1) (n := 6) rfl rfl ?_
      refine zv_astore (pc := 13) (lv' := [(4, .ref q9), (0, .ref adO), (1, .int b0), (2, .int b1), (3, .ref qout)]) C (by decide) rfl dL_choose_13 ?_
      refine zv_iconst (pc := 15) (v := 1) C (by decide) dL_choose_15 ?_
      exact zv_iret (pc := 16) C hr hlk (1 : Int32) (O, P0, P1, P2, T, F1, F2, out) hF rfl dL_choose_16
    · refine ⟨17, zl_H2 hTb (by decide) (C.2.2.2.2.1 _ (List.mem_of_getElem? (i := 1) rfl)) hN.1 rfl (by decide) (C.2.2.2.2.1 _ (List.mem_of_getElem? (i := 2) rfl)) (va_Nw.use rfl (hB.2.2.2 _ (List.mem_of_getElem? (i := 0) rfl))), fun q9 => ?_⟩
      refine zv_cs (k := 1) (n := 6) rfl rfl ?_
      refine zv_astore (pc := 17) (lv' := [(4, .ref q9), (0, .ref adO), (1, .int b0), (2, .int b1), (3, .ref qout)]) C (by decide) rfl dL_choose_17 ?_
      refine zv_iconst (pc := 19) (v := 2) C (by decide) dL_choose_19 ?_
      exact zv_iret (pc := 20) C hr hlk (2 : Int32) (O, P0, P1, P2, T, F1, F2, out) hF rfl dL_choose_20
  · skip
    refine zv_cs (k := 1) (n := 6) rfl rfl ?_
    obtain ⟨T_1, T_2, T_3, T_4, T_5, T_6, T_7⟩ := uz
    refine zv_i2l (pc := 8) C  dL_choose_8 ?_
    obtain ⟨r_9, er_9⟩ : ∃ y : zRowL, y = (vp_updL out (Int32.toNatClampNeg (0 : Int32)) (Int32.toInt64 v_8)) := ⟨_, rfl⟩
    replace hF := hF r_9 er_9
    refine zl_last (pc := 9) (n := 1) (f := out) (ws' := (zd_L_choose cI cL adO qO3 qO4 qO5 qO6 adP0 qP00 qP01 qP02 qP03 qP04 adP1 qP10 qP11 qP12 qP13 qP14 adP2 qP20 qP21 qP22 qP23 qP24 adT qT0 qT1 qT2 qT3 qT4 qT5 qT6 qT7 adF1 qF10 qF11 qF12 qF13 adF2 qF20 qF21 qF22 qF23 qout oO7 oO9 T_1 T_2 T_3 T_4 T_5 T_6 T_7 r_9)) C hKL 42 (vp_in_iff.mpr (by decide)) rfl (by rw [er_9]; rfl) dL_choose_9 ?_
    refine zv_goto (pc := 10) (tgt := 21) C dL_choose_10 (by decide) ?_
    refine zv_iconst (pc := 21) (v := 0) C (by decide) dL_choose_21 ?_
    exact zv_iret (pc := 22) C hr hlk (0 : Int32) (T_1, T_2, T_3, T_4, T_5, T_6, T_7, r_9) hF rfl dL_choose_22
theorem zy_L_pane : yL_pane.cls ≠ "java/lang/invoke/MethodHandle" ∧ yL_pane.cls ≠ "java/lang/invoke/VarHandle" ∧ (parseMethodDescriptor yL_pane.desc).map (fun d => d.parameters.length) = some 6 := by decide +kernel
set_option maxHeartbeats 4000000 in
set_option maxRecDepth 100000 in
theorem zc_L_pane (l : Launch) (hlt : l.stackTraces = false) (G : va_G) (cI cL : ClassId) (adO qO3 qO4 qO5 qO6 adN qN0 qN1 qN2 qN3 qN4 qN5 qout oO0 oO1 oO2 oO8 oO9 oO10 oO11 : Nat) (O : zMem) (N : zMem) (out : zRowL) (b0 : Int32) (b1 : Int32) (b2 : Int32) (b3 : Int32) (post : Int32 → zMem → zRowL → Prop) (hF : zw_L_pane O N out b0 b1 b2 b3 post) (sz : Nat) : Met l yL_pane wsL_pane rmL_pane (va_Pc [.ref adO, .int b0, .int b1, .int b2, .int b3, .ref qout] (zl_in G cI cL (zd_L_pane cI cL adO qO3 qO4 qO5 qO6 adN qN0 qN1 qN2 qN3 qN4 qN5 qout oO0 oO1 oO2 oO8 oO9 oO10 oO11 O N out) sz)) (va_Qi (fun (rz : Int32) (uz : zMem × zRowL) => post rz uz.1 uz.2) (fun (uz : zMem × zRowL) t => zv_out G cI (va_A (zd_L_pane cI cL adO qO3 qO4 qO5 qO6 adN qN0 qN1 qN2 qN3 qN4 qN5 qout oO0 oO1 oO2 oO8 oO9 oO10 oO11 O N out) sz) (zd_L_pane cI cL adO qO3 qO4 qO5 qO6 adN qN0 qN1 qN2 qN3 qN4 qN5 qout oO0 oO1 oO2 oO8 oO9 oO10 oO11 O uz.1 uz.2) t) (va_A (zd_L_pane cI cL adO qO3 qO4 qO5 qO6 adN qN0 qN1 qN2 qN3 qN4 qN5 qout oO0 oO1 oO2 oO8 oO9 oO10 oO11 O N out) sz)) 1 6 (va_A (zd_L_pane cI cL adO qO3 qO4 qO5 qO6 adN qN0 qN1 qN2 qN3 qN4 qN5 qout oO0 oO1 oO2 oO8 oO9 oO10 oO11 O N out) sz) := by
  refine zl_met (cc := cL_pane) (maxL := 7) (ret := (some .int)) (hh := [(0, 14, 17, 15)]) (lv0 := [(0, .ref adO), (1, .int b0), (2, .int b1), (3, .int b2), (4, .int b3), (5, .ref qout)]) (Qc := fun A => va_Qi (fun (rz : Int32) (uz : zMem × zRowL) => post rz uz.1 uz.2) (fun (uz : zMem × zRowL) t => zv_out G cI A (zd_L_pane cI cL adO qO3 qO4 qO5 qO6 adN qN0 qN1 qN2 qN3 qN4 qN5 qout oO0 oO1 oO2 oO8 oO9 oO10 oO11 O uz.1 uz.2) t) A) (by decide) rfl (Nat.le_of_ble_eq_true rfl) rfl ?_ sz
  intro p e s m below meth c A C hB hKL hN hTb hr hlk
  clear sz
  refine zv_aload (pc := 0) C 5 rfl dL_pane_0 ?_
  refine zv_iconst (pc := 2) (v := 0) C (by decide) dL_pane_2 ?_
  refine zv_aload_n (pc := 3) C rfl 0 rfl dL_pane_3 ?_
  refine zv_iload_n (pc := 4) C rfl 1 rfl dL_pane_4 ?_
  refine zv_iload_n (pc := 5) C rfl 2 rfl dL_pane_5 ?_
  refine zv_iload_n (pc := 6) C rfl 3 rfl dL_pane_6 ?_
  refine zv_iload (pc := 7) C 4 rfl dL_pane_7 ?_
  refine zl_ci (pc := 9) (ws' := (fun uz : zMem => (zd_L_pane cI cL adO qO3 qO4 qO5 qO6 adN qN0 qN1 qN2 qN3 qN4 qN5 qout oO0 oO1 oO2 oO8 oO9 oO10 oO11 O uz out))) C (zl_runV (As := [.int b0, .int b1, .int b2, .int b3]) (b := adO) (rest := [.int (0 : Int32), .ref qout]) (ci := 4) (q0 := 0) C hB (zc_X5_pane l hlt G cI adO qO3 qO4 qO5 qO6 adN qN0 qN1 qN2 qN3 qN4 qN5 oO0 oO1 oO2 oO8 oO9 oO10 oO11 O N b0 b1 b2 b3 _ _ hF) (cwV 4 C.2.2.2.2.1 gL_pane_X5_pane rfl rfl rfl zy_X5_pane ⟨(Nat.le_of_ble_eq_true rfl), (Nat.le_of_ble_eq_true rfl)⟩) rfl rfl rfl rfl rfl (Nat.le_of_ble_eq_true rfl) ⟨(Nat.le_of_ble_eq_true rfl), (Nat.le_of_ble_eq_true rfl)⟩ dL_pane_9) [0, 1, 2, 3, 4, 5, 6, 7, 8, 9, 10, 11] [12] rfl rfl rfl rfl rfl rfl (fun _ => rfl) (fun _ => rfl) (fun _ => rfl) ?_ (fun v_2 uz hF => ?_)
  · rintro E ⟨rfl, hF⟩
    · refine ⟨17, zl_H1 hTb rfl (by decide) (C.2.2.2.2.1 _ (List.mem_of_getElem? (i := 1) rfl)) (va_Nw.use rfl (hB.2.2.2 _ (List.mem_of_getElem? (i := 0) rfl))), fun q9 => ?_⟩
      refine zv_cs (k := 1) (n := 6) rfl rfl ?_
      refine zv_astore (pc := 17) (lv' := [(6, .ref q9), (0, .ref adO), (1, .int b0), (2, .int b1), (3, .int b2), (4, .int b3), (5, .ref qout)]) C (by decide) rfl dL_pane_17 ?_
      refine zv_iconst (pc := 19) (v := 1) C (by decide) dL_pane_19 ?_
      exact zv_iret (pc := 20) C hr hlk (1 : Int32) (N, out) hF rfl dL_pane_20
  · skip
    refine zv_cs (k := 1) (n := 6) rfl rfl ?_
    obtain ⟨T_1, hE⟩ : ∃ z, z = uz := ⟨_, rfl⟩; subst hE
    refine zv_i2l (pc := 12) C  dL_pane_12 ?_
    obtain ⟨r_3, er_3⟩ : ∃ y : zRowL, y = (vp_updL out (Int32.toNatClampNeg (0 : Int32)) (Int32.toInt64 v_2)) := ⟨_, rfl⟩
    replace hF := hF r_3 er_3
    refine zl_last (pc := 13) (n := 1) (f := out) (ws' := (zd_L_pane cI cL adO qO3 qO4 qO5 qO6 adN qN0 qN1 qN2 qN3 qN4 qN5 qout oO0 oO1 oO2 oO8 oO9 oO10 oO11 O T_1 r_3)) C hKL 12 (vp_in_iff.mpr (by decide)) rfl (by rw [er_3]; rfl) dL_pane_13 ?_
    refine zv_goto (pc := 14) (tgt := 21) C dL_pane_14 (by decide) ?_
    refine zv_iconst (pc := 21) (v := 0) C (by decide) dL_pane_21 ?_
    exact zv_iret (pc := 22) C hr hlk (0 : Int32) (T_1, r_3) hF rfl dL_pane_22
theorem zy_L_share : yL_share.cls ≠ "java/lang/invoke/MethodHandle" ∧ yL_share.cls ≠ "java/lang/invoke/VarHandle" ∧ (parseMethodDescriptor yL_share.desc).map (fun d => d.parameters.length) = some 5 := by decide +kernel
set_option maxHeartbeats 4000000 in
set_option maxRecDepth 100000 in
theorem zc_L_share (l : Launch) (hlt : l.stackTraces = false) (G : va_G) (cI cL : ClassId) (adO qO3 qO4 qO5 qO6 adN qN0 qN1 qN2 qN3 qN4 qN5 adF0 qF00 qF01 qF02 qF03 qout oO0 oO1 oO2 oO8 oO10 oO11 : Nat) (O : zMem) (N : zMem) (F0 : zMem) (out : zRowL) (b0 : Int32) (b1 : Int32) (b2 : Int32) (post : Int32 → zMem → zMem → zRowL → Prop) (hF : zw_L_share O N F0 out b0 b1 b2 post) (sz : Nat) : Met l yL_share wsL_share rmL_share (va_Pc [.ref adO, .int b0, .int b1, .int b2, .ref qout] (zl_in G cI cL (zd_L_share cI cL adO qO3 qO4 qO5 qO6 adN qN0 qN1 qN2 qN3 qN4 qN5 adF0 qF00 qF01 qF02 qF03 qout oO0 oO1 oO2 oO8 oO10 oO11 O N F0 out) sz)) (va_Qi (fun (rz : Int32) (uz : zMem × zMem × zRowL) => post rz uz.1 uz.2.1 uz.2.2) (fun (uz : zMem × zMem × zRowL) t => zv_out G cI (va_A (zd_L_share cI cL adO qO3 qO4 qO5 qO6 adN qN0 qN1 qN2 qN3 qN4 qN5 adF0 qF00 qF01 qF02 qF03 qout oO0 oO1 oO2 oO8 oO10 oO11 O N F0 out) sz) (zd_L_share cI cL adO qO3 qO4 qO5 qO6 adN qN0 qN1 qN2 qN3 qN4 qN5 adF0 qF00 qF01 qF02 qF03 qout oO0 oO1 oO2 oO8 oO10 oO11 O uz.1 uz.2.1 uz.2.2) t) (va_A (zd_L_share cI cL adO qO3 qO4 qO5 qO6 adN qN0 qN1 qN2 qN3 qN4 qN5 adF0 qF00 qF01 qF02 qF03 qout oO0 oO1 oO2 oO8 oO10 oO11 O N F0 out) sz)) 1 6 (va_A (zd_L_share cI cL adO qO3 qO4 qO5 qO6 adN qN0 qN1 qN2 qN3 qN4 qN5 adF0 qF00 qF01 qF02 qF03 qout oO0 oO1 oO2 oO8 oO10 oO11 O N F0 out) sz) := by
  refine zl_met (cc := cL_share) (maxL := 6) (ret := (some .int)) (hh := [(0, 12, 15, 15)]) (lv0 := [(0, .ref adO), (1, .int b0), (2, .int b1), (3, .int b2), (4, .ref qout)]) (Qc := fun A => va_Qi (fun (rz : Int32) (uz : zMem × zMem × zRowL) => post rz uz.1 uz.2.1 uz.2.2) (fun (uz : zMem × zMem × zRowL) t => zv_out G cI A (zd_L_share cI cL adO qO3 qO4 qO5 qO6 adN qN0 qN1 qN2 qN3 qN4 qN5 adF0 qF00 qF01 qF02 qF03 qout oO0 oO1 oO2 oO8 oO10 oO11 O uz.1 uz.2.1 uz.2.2) t) A) (by decide) rfl (Nat.le_of_ble_eq_true rfl) rfl ?_ sz
  intro p e s m below meth c A C hB hKL hN hTb hr hlk
  clear sz
  refine zv_aload (pc := 0) C 4 rfl dL_share_0 ?_
  refine zv_iconst (pc := 2) (v := 0) C (by decide) dL_share_2 ?_
  refine zv_aload_n (pc := 3) C rfl 0 rfl dL_share_3 ?_
  refine zv_iload_n (pc := 4) C rfl 1 rfl dL_share_4 ?_
  refine zv_iload_n (pc := 5) C rfl 2 rfl dL_share_5 ?_
  refine zv_iload_n (pc := 6) C rfl 3 rfl dL_share_6 ?_
  refine zl_ci (pc := 7) (ws' := (fun uz : zMem × zMem => (zd_L_share cI cL adO qO3 qO4 qO5 qO6 adN qN0 qN1 qN2 qN3 qN4 qN5 adF0 qF00 qF01 qF02 qF03 qout oO0 oO1 oO2 oO8 oO10 oO11 O uz.1 uz.2 out))) C (zl_runV (As := [.int b0, .int b1, .int b2]) (b := adO) (rest := [.int (0 : Int32), .ref qout]) (ci := 4) (q0 := 0) C hB (zc_X5_share l hlt G cI adO qO3 qO4 qO5 qO6 adN qN0 qN1 qN2 qN3 qN4 qN5 adF0 qF00 qF01 qF02 qF03 oO0 oO1 oO2 oO8 oO10 oO11 O N F0 b0 b1 b2 _ _ hF) (cwV 3 C.2.2.2.2.1 gL_share_X5_share rfl rfl rfl zy_X5_share ⟨(Nat.le_of_ble_eq_true rfl), (Nat.le_of_ble_eq_true rfl)⟩) rfl rfl rfl rfl rfl (Nat.le_of_ble_eq_true rfl) ⟨(Nat.le_of_ble_eq_true rfl), (Nat.le_of_ble_eq_true rfl)⟩ dL_share_7) [0, 1, 2, 3, 4, 5, 6, 7, 8, 9, 10, 11, 12, 13, 14, 15, 16] [17] rfl rfl rfl rfl rfl rfl (fun _ => rfl) (fun _ => rfl) (fun _ => rfl) ?_ (fun v_3 uz hF => ?_)
  · rintro E ⟨rfl, hF⟩
    · refine ⟨15, zl_H1 hTb rfl (by decide) (C.2.2.2.2.1 _ (List.mem_of_getElem? (i := 1) rfl)) (va_Nw.use rfl (hB.2.2.2 _ (List.mem_of_getElem? (i := 0) rfl))), fun q9 => ?_⟩
      refine zv_cs (k := 1) (n := 6) rfl rfl ?_
      refine zv_astore (pc := 15) (lv' := [(5, .ref q9), (0, .ref adO), (1, .int b0), (2, .int b1), (3, .int b2), (4, .ref qout)]) C (by decide) rfl dL_share_15 ?_
      refine zv_iconst (pc := 17) (v := 1) C (by decide) dL_share_17 ?_
      exact zv_iret (pc := 18) C hr hlk (1 : Int32) (N, F0, out) hF rfl dL_share_18
  · skip
    refine zv_cs (k := 1) (n := 6) rfl rfl ?_
    obtain ⟨T_1, T_2⟩ := uz
    refine zv_i2l (pc := 10) C  dL_share_10 ?_
    obtain ⟨r_4, er_4⟩ : ∃ y : zRowL, y = (vp_updL out (Int32.toNatClampNeg (0 : Int32)) (Int32.toInt64 v_3)) := ⟨_, rfl⟩
    replace hF := hF r_4 er_4
    refine zl_last (pc := 11) (n := 1) (f := out) (ws' := (zd_L_share cI cL adO qO3 qO4 qO5 qO6 adN qN0 qN1 qN2 qN3 qN4 qN5 adF0 qF00 qF01 qF02 qF03 qout oO0 oO1 oO2 oO8 oO10 oO11 O T_1 T_2 r_4)) C hKL 17 (vp_in_iff.mpr (by decide)) rfl (by rw [er_4]; rfl) dL_share_11 ?_
    refine zv_goto (pc := 12) (tgt := 19) C dL_share_12 (by decide) ?_
    refine zv_iconst (pc := 19) (v := 0) C (by decide) dL_share_19 ?_
    exact zv_iret (pc := 20) C hr hlk (0 : Int32) (T_1, T_2, r_4) hF rfl dL_share_20
