/-! X5_needIndex -/
def zd_X5_needIndex (cI : ClassId) : va_W := []
abbrev rmX5_needIndex : Room := { frames := 6, cells := 1, slots := 6, locals := 90 }
def zw_X5_needIndex (up : Int32) (lo : Int32) (post : Prop) (PXA : Prop) : Prop := ((up < (1 : Int32) → PXA) ∧ (¬ up < (1 : Int32) → (((9 : Int32) < up → PXA) ∧ (¬ (9 : Int32) < up → ((lo < (1 : Int32) → PXA) ∧ (¬ lo < (1 : Int32) → ((lo ≤ (9 : Int32) → post) ∧ (¬ lo ≤ (9 : Int32) → PXA))))))))
/-! X5_needLightBelow -/
def zd_X5_needLightBelow (cI : ClassId) : va_W := []
abbrev rmX5_needLightBelow : Room := { frames := 6, cells := 1, slots := 6, locals := 90 }
def zw_X5_needLightBelow (v : Int32) (post : Prop) (PXA : Prop) : Prop := ((v < (1 : Int32) → PXA) ∧ (¬ v < (1 : Int32) → ((v ≤ (25 : Int32) → post) ∧ (¬ v ≤ (25 : Int32) → PXA))))
/-! X5_needPart -/
def zd_X5_needPart (cI : ClassId) : va_W := []
abbrev rmX5_needPart : Room := { frames := 6, cells := 1, slots := 6, locals := 90 }
def zw_X5_needPart (kk : Int32) (post : Prop) (PXA : Prop) : Prop := ((kk < 0 → PXA) ∧ (¬ kk < 0 → ((kk < (40 : Int32) → post) ∧ (¬ kk < (40 : Int32) → PXA))))
/-! X5_needEntry -/
def zd_X5_needEntry (cI : ClassId) : va_W := []
abbrev rmX5_needEntry : Room := { frames := 6, cells := 1, slots := 6, locals := 90 }
def zw_X5_needEntry (en : Int32) (post : Prop) (PXA : Prop) : Prop := ((en < 0 → PXA) ∧ (¬ en < 0 → ((en < (4 : Int32) → post) ∧ (¬ en < (4 : Int32) → PXA))))
/-! X5_pileAt -/
def zd_X5_pileAt (cI : ClassId) (adO qO3 qO4 qO5 qO6 oO0 oO1 oO2 oO7 oO8 oO9 oO10 oO11 : Nat) (O : zMem) : va_W := [(adO, .inr (4, [.ref oO0, .ref oO1, .ref oO2, .ref qO3, .ref qO4, .ref qO5, .ref qO6, .ref oO7, .ref oO8, .ref oO9, .ref oO10, .ref oO11, .int (O 12 0), .int (O 13 0), .int (O 14 0)])), (qO3, .inl (cI, 6, .inl (O 3))), (qO4, .inl (cI, 6, .inl (O 4))), (qO5, .inl (cI, 3, .inl (O 5))), (qO6, .inl (cI, 3, .inl (O 6)))]
abbrev rmX5_pileAt : Room := { frames := 6, cells := 1, slots := 6, locals := 90 }
def zw_X5_pileAt (O : zMem) (st : Int32) (P0 P1 : Prop) (PXI : Prop) : Prop := ((st = 0 → ((¬ st = 0 → P1) ∧ (st = 0 → P0))) ∧ (¬ st = 0 → ((st = (1 : Int32) → ((¬ st = 0 → P1) ∧ (st = 0 → P0))) ∧ (¬ st = (1 : Int32) → PXI))))
/-! X5_edge -/
def zd_X5_edge (cI : ClassId) (adO qO3 qO4 qO5 qO6 adP0 qP00 qP01 qP02 qP03 qP04 adP1 qP10 qP11 qP12 qP13 qP14 oO2 oO7 oO8 oO9 oO10 oO11 : Nat) (O : zMem) (P0 : zMem) (P1 : zMem) : va_W := [(adO, .inr (4, [.ref adP0, .ref adP1, .ref oO2, .ref qO3, .ref qO4, .ref qO5, .ref qO6, .ref oO7, .ref oO8, .ref oO9, .ref oO10, .ref oO11, .int (O 12 0), .int (O 13 0), .int (O 14 0)])), (qO3, .inl (cI, 6, .inl (O 3))), (qO4, .inl (cI, 6, .inl (O 4))), (qO5, .inl (cI, 3, .inl (O 5))), (qO6, .inl (cI, 3, .inl (O 6))), (adP0, .inr (2, [.ref qP00, .ref qP01, .ref qP02, .ref qP03, .ref qP04, .int (P0 5 0)])), (qP00, .inl (cI, 2, .inl (P0 0))), (qP01, .inl (cI, 2, .inl (P0 1))), (qP02, .inl (cI, 6, .inl (P0 2))), (qP03, .inl (cI, 6, .inl (P0 3))), (qP04, .inl (cI, 6, .inl (P0 4))), (adP1, .inr (2, [.ref qP10, .ref qP11, .ref qP12, .ref qP13, .ref qP14, .int (P1 5 0)])), (qP10, .inl (cI, 2, .inl (P1 0))), (qP11, .inl (cI, 2, .inl (P1 1))), (qP12, .inl (cI, 6, .inl (P1 2))), (qP13, .inl (cI, 6, .inl (P1 3))), (qP14, .inl (cI, 6, .inl (P1 4)))]
abbrev rmX5_edge : Room := { frames := 7, cells := 1, slots := 6, locals := 111 }
def zw_X5_edge (O : zMem) (P0 : zMem) (P1 : zMem) (st : Int32) (wh : Int32) (up : Int32) (lo : Int32) (post : zMem → zMem → Prop) (PXI PXA : Prop) : Prop := zw_X5_pileAt O st (((wh = 0 → zw_X5_needIndex up lo (zw_X3_setEdge P0 wh up lo (fun (T_2 : zMem) => post T_2 P1)) PXA) ∧ (¬ wh = 0 → ((wh = (1 : Int32) → zw_X5_needIndex up lo (zw_X3_setEdge P0 wh up lo (fun (T_4 : zMem) => post T_4 P1)) PXA) ∧ (¬ wh = (1 : Int32) → PXA))))) (((wh = 0 → zw_X5_needIndex up lo (zw_X3_setEdge P1 wh up lo (fun (T_6 : zMem) => post P0 T_6)) PXA) ∧ (¬ wh = 0 → ((wh = (1 : Int32) → zw_X5_needIndex up lo (zw_X3_setEdge P1 wh up lo (fun (T_8 : zMem) => post P0 T_8)) PXA) ∧ (¬ wh = (1 : Int32) → PXA))))) PXI
/-! X5_layer -/
def zd_X5_layer (cI : ClassId) (adO qO3 qO4 qO5 qO6 adP0 qP00 qP01 qP02 qP03 qP04 adP1 qP10 qP11 qP12 qP13 qP14 oO2 oO7 oO8 oO9 oO10 oO11 : Nat) (O : zMem) (P0 : zMem) (P1 : zMem) : va_W := [(adO, .inr (4, [.ref adP0, .ref adP1, .ref oO2, .ref qO3, .ref qO4, .ref qO5, .ref qO6, .ref oO7, .ref oO8, .ref oO9, .ref oO10, .ref oO11, .int (O 12 0), .int (O 13 0), .int (O 14 0)])), (qO3, .inl (cI, 6, .inl (O 3))), (qO4, .inl (cI, 6, .inl (O 4))), (qO5, .inl (cI, 3, .inl (O 5))), (qO6, .inl (cI, 3, .inl (O 6))), (adP0, .inr (2, [.ref qP00, .ref qP01, .ref qP02, .ref qP03, .ref qP04, .int (P0 5 0)])), (qP00, .inl (cI, 2, .inl (P0 0))), (qP01, .inl (cI, 2, .inl (P0 1))), (qP02, .inl (cI, 6, .inl (P0 2))), (qP03, .inl (cI, 6, .inl (P0 3))), (qP04, .inl (cI, 6, .inl (P0 4))), (adP1, .inr (2, [.ref qP10, .ref qP11, .ref qP12, .ref qP13, .ref qP14, .int (P1 5 0)])), (qP10, .inl (cI, 2, .inl (P1 0))), (qP11, .inl (cI, 2, .inl (P1 1))), (qP12, .inl (cI, 6, .inl (P1 2))), (qP13, .inl (cI, 6, .inl (P1 3))), (qP14, .inl (cI, 6, .inl (P1 4)))]
abbrev rmX5_layer : Room := { frames := 7, cells := 1, slots := 6, locals := 111 }
def zw_X5_layer (O : zMem) (P0 : zMem) (P1 : zMem) (st : Int32) (i : Int32) (up : Int32) (lo : Int32) (wi : Int32) (post : Int32 → zMem → zMem → Prop) (PXI PXA : Prop) : Prop := zw_X5_pileAt O st (zw_X5_needIndex up lo (((wi < (1 : Int32) → PXA) ∧ (¬ wi < (1 : Int32) → ((wi ≤ (4 : Int32) → ((i < 0 → PXA) ∧ (¬ i < 0 → ((i ≤ (P0 5 0) → zw_X3_insert P0 i up lo wi (fun (v_6 : Int32) (T_5 : zMem) => ((v_6 = 0 → post (-1 : Int32) T_5 P1) ∧ (¬ v_6 = 0 → post (T_5 5 0) T_5 P1)))) ∧ (¬ i ≤ (P0 5 0) → PXA))))) ∧ (¬ wi ≤ (4 : Int32) → PXA))))) PXA) (zw_X5_needIndex up lo (((wi < (1 : Int32) → PXA) ∧ (¬ wi < (1 : Int32) → ((wi ≤ (4 : Int32) → ((i < 0 → PXA) ∧ (¬ i < 0 → ((i ≤ (P1 5 0) → zw_X3_insert P1 i up lo wi (fun (v_13 : Int32) (T_12 : zMem) => ((v_13 = 0 → post (-1 : Int32) P0 T_12) ∧ (¬ v_13 = 0 → post (T_12 5 0) P0 T_12)))) ∧ (¬ i ≤ (P1 5 0) → PXA))))) ∧ (¬ wi ≤ (4 : Int32) → PXA))))) PXA) PXI
/-! X5_turn -/
def zd_X5_turn (cI : ClassId) (adO qO3 qO4 qO5 qO6 adP0 qP00 qP01 qP02 qP03 qP04 adP1 qP10 qP11 qP12 qP13 qP14 oO2 oO7 oO8 oO9 oO10 oO11 : Nat) (O : zMem) (P0 : zMem) (P1 : zMem) : va_W := [(adO, .inr (4, [.ref adP0, .ref adP1, .ref oO2, .ref qO3, .ref qO4, .ref qO5, .ref qO6, .ref oO7, .ref oO8, .ref oO9, .ref oO10, .ref oO11, .int (O 12 0), .int (O 13 0), .int (O 14 0)])), (qO3, .inl (cI, 6, .inl (O 3))), (qO4, .inl (cI, 6, .inl (O 4))), (qO5, .inl (cI, 3, .inl (O 5))), (qO6, .inl (cI, 3, .inl (O 6))), (adP0, .inr (2, [.ref qP00, .ref qP01, .ref qP02, .ref qP03, .ref qP04, .int (P0 5 0)])), (qP00, .inl (cI, 2, .inl (P0 0))), (qP01, .inl (cI, 2, .inl (P0 1))), (qP02, .inl (cI, 6, .inl (P0 2))), (qP03, .inl (cI, 6, .inl (P0 3))), (qP04, .inl (cI, 6, .inl (P0 4))), (adP1, .inr (2, [.ref qP10, .ref qP11, .ref qP12, .ref qP13, .ref qP14, .int (P1 5 0)])), (qP10, .inl (cI, 2, .inl (P1 0))), (qP11, .inl (cI, 2, .inl (P1 1))), (qP12, .inl (cI, 6, .inl (P1 2))), (qP13, .inl (cI, 6, .inl (P1 3))), (qP14, .inl (cI, 6, .inl (P1 4)))]
abbrev rmX5_turn : Room := { frames := 7, cells := 1, slots := 6, locals := 111 }
def zw_X5_turn (O : zMem) (P0 : zMem) (P1 : zMem) (st : Int32) (post : zMem → zMem → Prop) (PXI : Prop) : Prop := zw_X5_pileAt O st (zw_X3_reverse P0 (fun (T_1 : zMem) => post T_1 P1)) (zw_X3_reverse P1 (fun (T_2 : zMem) => post P0 T_2)) PXI
/-! X5_copy -/
def zd_X5_copy (cI : ClassId) (adO qO3 qO4 qO5 qO6 adP0 qP00 qP01 qP02 qP03 qP04 adP1 qP10 qP11 qP12 qP13 qP14 oO2 oO7 oO8 oO9 oO10 oO11 : Nat) (O : zMem) (P0 : zMem) (P1 : zMem) : va_W := [(adO, .inr (4, [.ref adP0, .ref adP1, .ref oO2, .ref qO3, .ref qO4, .ref qO5, .ref qO6, .ref oO7, .ref oO8, .ref oO9, .ref oO10, .ref oO11, .int (O 12 0), .int (O 13 0), .int (O 14 0)])), (qO3, .inl (cI, 6, .inl (O 3))), (qO4, .inl (cI, 6, .inl (O 4))), (qO5, .inl (cI, 3, .inl (O 5))), (qO6, .inl (cI, 3, .inl (O 6))), (adP0, .inr (2, [.ref qP00, .ref qP01, .ref qP02, .ref qP03, .ref qP04, .int (P0 5 0)])), (qP00, .inl (cI, 2, .inl (P0 0))), (qP01, .inl (cI, 2, .inl (P0 1))), (qP02, .inl (cI, 6, .inl (P0 2))), (qP03, .inl (cI, 6, .inl (P0 3))), (qP04, .inl (cI, 6, .inl (P0 4))), (adP1, .inr (2, [.ref qP10, .ref qP11, .ref qP12, .ref qP13, .ref qP14, .int (P1 5 0)])), (qP10, .inl (cI, 2, .inl (P1 0))), (qP11, .inl (cI, 2, .inl (P1 1))), (qP12, .inl (cI, 6, .inl (P1 2))), (qP13, .inl (cI, 6, .inl (P1 3))), (qP14, .inl (cI, 6, .inl (P1 4)))]
abbrev rmX5_copy : Room := { frames := 7, cells := 1, slots := 6, locals := 111 }
def zw_X5_copy (O : zMem) (P0 : zMem) (P1 : zMem) (st : Int32) (post : zMem → zMem → Prop) (PXI : Prop) : Prop := zw_X5_pileAt O st (((¬ st = 0 → False) ∧ (st = 0 → zw_X3_becomeLike P1 P0 (fun (T_2 : zMem) => post P0 T_2)))) (((¬ st = 0 → zw_X3_becomeLike P0 P1 (fun (T_4 : zMem) => post T_4 P1)) ∧ (st = 0 → False))) PXI
/-! X5_light -/
def zd_X5_light (cI : ClassId) (adO qO3 qO4 qO5 qO6 oO0 oO1 oO2 oO7 oO8 oO9 oO10 oO11 : Nat) (O : zMem) : va_W := [(adO, .inr (4, [.ref oO0, .ref oO1, .ref oO2, .ref qO3, .ref qO4, .ref qO5, .ref qO6, .ref oO7, .ref oO8, .ref oO9, .ref oO10, .ref oO11, .int (O 12 0), .int (O 13 0), .int (O 14 0)])), (qO3, .inl (cI, 6, .inl (O 3))), (qO4, .inl (cI, 6, .inl (O 4))), (qO5, .inl (cI, 3, .inl (O 5))), (qO6, .inl (cI, 3, .inl (O 6)))]
abbrev rmX5_light : Room := { frames := 7, cells := 1, slots := 6, locals := 110 }
def zw_X5_light (O : zMem) (uv : Int32) (v : Int32) (post : zMem → Prop) (PXA : Prop) : Prop := zw_X5_needLightBelow v (((uv < (-v) → PXA) ∧ (¬ uv < (-v) → ((uv ≤ v → post (zset (zset O 12 (fun _ => uv)) 13 (fun _ => v))) ∧ (¬ uv ≤ v → PXA))))) PXA
/-! X5_isListed -/
def zd_X5_isListed (cI : ClassId) (adO qO3 qO4 qO5 qO6 oO0 oO1 oO2 oO7 oO8 oO9 oO10 oO11 : Nat) (O : zMem) : va_W := [(adO, .inr (4, [.ref oO0, .ref oO1, .ref oO2, .ref qO3, .ref qO4, .ref qO5, .ref qO6, .ref oO7, .ref oO8, .ref oO9, .ref oO10, .ref oO11, .int (O 12 0), .int (O 13 0), .int (O 14 0)])), (qO3, .inl (cI, 6, .inl (O 3))), (qO4, .inl (cI, 6, .inl (O 4))), (qO5, .inl (cI, 3, .inl (O 5))), (qO6, .inl (cI, 3, .inl (O 6)))]
abbrev rmX5_isListed : Room := { frames := 0, cells := 0, slots := 0, locals := 0 }
def zw_X5_isListed_2 (O : zMem) (c1 : Int32) (c2 : Int32) (K36 : Prop) (K44 : Prop) : Nat → Int32 → Prop
  | 0, _ => False
  | k + 1, p3 => (((O 14 0) ≤ p3 → (K44 )) ∧ (¬ (O 14 0) ≤ p3 → (((6 : Int32) ≤ p3 → (K44 )) ∧ (¬ (6 : Int32) ≤ p3 → (vp_in p3 6 ∧ ((¬ ((O 3) (Int32.toNatClampNeg p3)) = c1 → ∀ x3_5 : Int32, x3_5 = p3 + (1 : Int32) → ((zw_X5_isListed_2 O c1 c2 K36 K44 k x3_5))) ∧ (((O 3) (Int32.toNatClampNeg p3)) = c1 → (vp_in p3 6 ∧ ((¬ ((O 4) (Int32.toNatClampNeg p3)) = c2 → ∀ x3_8 : Int32, x3_8 = p3 + (1 : Int32) → ((zw_X5_isListed_2 O c1 c2 K36 K44 k x3_8))) ∧ (((O 4) (Int32.toNatClampNeg p3)) = c2 → (K36 )))))))))))
def zw_X5_isListed (O : zMem) (up : Int32) (lo : Int32) (post : Int32 → Prop) : Prop := (∃ kf, zw_X5_isListed_2 O up lo ((narrow .boolean (.int (1 : Int32)) = .int (1 : Int32) ∧ post (1 : Int32) )) ((narrow .boolean (.int (0 : Int32)) = .int (0 : Int32) ∧ post (0 : Int32) )) kf (0 : Int32))
/-! X5_list -/
def zd_X5_list (cI : ClassId) (adO qO3 qO4 qO5 qO6 oO0 oO1 oO2 oO7 oO8 oO9 oO10 oO11 : Nat) (O : zMem) : va_W := [(adO, .inr (4, [.ref oO0, .ref oO1, .ref oO2, .ref qO3, .ref qO4, .ref qO5, .ref qO6, .ref oO7, .ref oO8, .ref oO9, .ref oO10, .ref oO11, .int (O 12 0), .int (O 13 0), .int (O 14 0)])), (qO3, .inl (cI, 6, .inl (O 3))), (qO4, .inl (cI, 6, .inl (O 4))), (qO5, .inl (cI, 3, .inl (O 5))), (qO6, .inl (cI, 3, .inl (O 6)))]
abbrev rmX5_list : Room := { frames := 7, cells := 1, slots := 6, locals := 111 }
def zw_X5_list (O : zMem) (up : Int32) (lo : Int32) (post : Int32 → zMem → Prop) (PXA : Prop) : Prop := zw_X5_needIndex up lo (zw_X3_lowest up lo (fun (v_1 : Int32) => zw_X3_lowest lo up (fun (v_2 : Int32) => (((6 : Int32) ≤ (O 14 0) → post (-1 : Int32) O) ∧ (¬ (6 : Int32) ≤ (O 14 0) → zw_X5_isListed O v_1 v_2 (fun (v_4 : Int32) => ((v_4 = 0 → (vp_in (O 14 0) 6 ∧ ∀ r_7 : zRow, r_7 = (upd (O 3) (Int32.toNatClampNeg (O 14 0)) v_1) → ((vp_in (O 14 0) 6 ∧ ∀ r_9 : zRow, r_9 = (upd (O 4) (Int32.toNatClampNeg (O 14 0)) v_2) → (∀ y_10 : Int32, y_10 = ((O 14 0) + (1 : Int32)) → (post y_10 (zset (zset (zset O 3 r_7) 4 r_9) 14 (fun _ => y_10)))))))) ∧ (¬ v_4 = 0 → post (-1 : Int32) O)))))))) PXA
/-! X5_unlist -/
def zd_X5_unlist (cI : ClassId) (adO qO3 qO4 qO5 qO6 oO0 oO1 oO2 oO7 oO8 oO9 oO10 oO11 : Nat) (O : zMem) : va_W := [(adO, .inr (4, [.ref oO0, .ref oO1, .ref oO2, .ref qO3, .ref qO4, .ref qO5, .ref qO6, .ref oO7, .ref oO8, .ref oO9, .ref oO10, .ref oO11, .int (O 12 0), .int (O 13 0), .int (O 14 0)])), (qO3, .inl (cI, 6, .inl (O 3))), (qO4, .inl (cI, 6, .inl (O 4))), (qO5, .inl (cI, 3, .inl (O 5))), (qO6, .inl (cI, 3, .inl (O 6)))]
abbrev rmX5_unlist : Room := { frames := 0, cells := 0, slots := 0, locals := 0 }
def zw_X5_unlist (O : zMem) (post : zMem → Prop) : Prop := post (zset O 14 (fun _ => (0 : Int32)))
/-! X5_waysToChoose -/
def zd_X5_waysToChoose (cI : ClassId) (adO qO3 qO4 qO5 qO6 oO0 oO1 oO2 oO7 oO8 oO9 oO10 oO11 : Nat) (O : zMem) : va_W := [(adO, .inr (4, [.ref oO0, .ref oO1, .ref oO2, .ref qO3, .ref qO4, .ref qO5, .ref qO6, .ref oO7, .ref oO8, .ref oO9, .ref oO10, .ref oO11, .int (O 12 0), .int (O 13 0), .int (O 14 0)])), (qO3, .inl (cI, 6, .inl (O 3))), (qO4, .inl (cI, 6, .inl (O 4))), (qO5, .inl (cI, 3, .inl (O 5))), (qO6, .inl (cI, 3, .inl (O 6)))]
abbrev rmX5_waysToChoose : Room := { frames := 0, cells := 0, slots := 0, locals := 0 }
def zw_X5_waysToChoose_4 (O : zMem) (c1 : Int32) (K22 : Int32 → Prop) : Nat → Int32 → Int32 → Prop
  | 0, _, _ => False
  | k + 1, p2, p3 => ((c1 ≤ p3 → (K22 p2)) ∧ (¬ c1 ≤ p3 → ∀ x2_2 : Int32, x2_2 = (p2 * (O 14 0)) → (∀ x3_3 : Int32, x3_3 = p3 + (1 : Int32) → ((zw_X5_waysToChoose_4 O c1 K22 k x2_2 x3_3)))))
def zw_X5_waysToChoose (O : zMem) (nn : Int32) (post : Int32 → Prop) : Prop := (∃ kf, zw_X5_waysToChoose_4 O nn (fun (x2_4 : Int32) => post x2_4 ) kf (1 : Int32) (0 : Int32))
/-! X5_advanceNumbers -/
def zd_X5_advanceNumbers (cI : ClassId) (adO qO3 qO4 qO5 qO6 oO0 oO1 oO2 oO7 oO8 oO9 oO10 oO11 : Nat) (O : zMem) : va_W := [(adO, .inr (4, [.ref oO0, .ref oO1, .ref oO2, .ref qO3, .ref qO4, .ref qO5, .ref qO6, .ref oO7, .ref oO8, .ref oO9, .ref oO10, .ref oO11, .int (O 12 0), .int (O 13 0), .int (O 14 0)])), (qO3, .inl (cI, 6, .inl (O 3))), (qO4, .inl (cI, 6, .inl (O 4))), (qO5, .inl (cI, 3, .inl (O 5))), (qO6, .inl (cI, 3, .inl (O 6)))]
abbrev rmX5_advanceNumbers : Room := { frames := 1, cells := 0, slots := 0, locals := 21 }
def zw_X5_advanceNumbers_8 (K35 : zMem → Prop) (K49 : zMem → Prop) : Nat → Int32 → zMem → Prop
  | 0, _, _ => False
  | k + 1, p2, O => ((p2 < 0 → (K49 O)) ∧ (¬ p2 < 0 → (vp_in p2 3 ∧ (vp_in p2 3 ∧ ∀ r_5 : zRow, r_5 = (upd (O 5) (Int32.toNatClampNeg p2) (((O 5) (Int32.toNatClampNeg p2)) + (1 : Int32))) → ((vp_in p2 3 ∧ (((O 14 0) ≤ (r_5 (Int32.toNatClampNeg p2)) → (vp_in p2 3 ∧ ∀ r_9 : zRow, r_9 = (upd r_5 (Int32.toNatClampNeg p2) (0 : Int32)) → (∀ x2_10 : Int32, x2_10 = p2 + (-1 : Int32) → ((zw_X5_advanceNumbers_8 K35 K49 k x2_10 (zset O 5 r_9)))))) ∧ (¬ (O 14 0) ≤ (r_5 (Int32.toNatClampNeg p2)) → (K35 (zset O 5 r_5))))))))))
def zw_X5_advanceNumbers (O : zMem) (nn : Int32) (post : zMem → Prop) : Prop := ∀ x2_1 : Int32, x2_1 = ((if (3 : Int32) < nn then (3 : Int32) else nn) - (1 : Int32)) → ((∃ kf, zw_X5_advanceNumbers_8  (fun (T_11 : zMem) => post T_11) (fun (T_12 : zMem) => post T_12) kf x2_1 O))
/-! X5_layNumbers_tr -/
def zd_X5_layNumbers_tr (cI : ClassId) (adO qO3 qO4 qO5 qO6 adP2 qP20 qP21 qP22 qP23 qP24 oO0 oO1 oO7 oO8 oO9 oO10 oO11 : Nat) (O : zMem) (P2 : zMem) : va_W := [(adO, .inr (4, [.ref oO0, .ref oO1, .ref adP2, .ref qO3, .ref qO4, .ref qO5, .ref qO6, .ref oO7, .ref oO8, .ref oO9, .ref oO10, .ref oO11, .int (O 12 0), .int (O 13 0), .int (O 14 0)])), (qO3, .inl (cI, 6, .inl (O 3))), (qO4, .inl (cI, 6, .inl (O 4))), (qO5, .inl (cI, 3, .inl (O 5))), (qO6, .inl (cI, 3, .inl (O 6))), (adP2, .inr (2, [.ref qP20, .ref qP21, .ref qP22, .ref qP23, .ref qP24, .int (P2 5 0)])), (qP20, .inl (cI, 2, .inl (P2 0))), (qP21, .inl (cI, 2, .inl (P2 1))), (qP22, .inl (cI, 6, .inl (P2 2))), (qP23, .inl (cI, 6, .inl (P2 3))), (qP24, .inl (cI, 6, .inl (P2 4)))]
abbrev rmX5_layNumbers_tr : Room := { frames := 2, cells := 0, slots := 0, locals := 47 }
def zw_X5_layNumbers_tr_7 (O : zMem) (c3 : Int32) (K77 : zMem → Prop) : Nat → Int32 → zMem → Prop
  | 0, _, _ => False
  | k + 1, p4, P2 => ((c3 ≤ p4 → (K77 P2)) ∧ (¬ c3 ≤ p4 → (((3 : Int32) ≤ p4 → (K77 P2)) ∧ (¬ (3 : Int32) ≤ p4 → (vp_in p4 3 ∧ ∀ x5_5 : Int32, x5_5 = ((O 5) (Int32.toNatClampNeg p4)) → (((x5_5 < 0 → ∀ x4_7 : Int32, x4_7 = p4 + (1 : Int32) → ((zw_X5_layNumbers_tr_7 O c3 K77 k x4_7 P2))) ∧ (¬ x5_5 < 0 → (((O 14 0) ≤ x5_5 → ∀ x4_9 : Int32, x4_9 = p4 + (1 : Int32) → ((zw_X5_layNumbers_tr_7 O c3 K77 k x4_9 P2))) ∧ (¬ (O 14 0) ≤ x5_5 → (((6 : Int32) ≤ x5_5 → ∀ x4_11 : Int32, x4_11 = p4 + (1 : Int32) → ((zw_X5_layNumbers_tr_7 O c3 K77 k x4_11 P2))) ∧ (¬ (6 : Int32) ≤ x5_5 → (vp_in x5_5 6 ∧ (vp_in x5_5 6 ∧ zw_X3_insert P2 (P2 5 0) ((O 3) (Int32.toNatClampNeg x5_5)) ((O 4) (Int32.toNatClampNeg x5_5)) (1 : Int32) (fun (v_15 : Int32) (T_14 : zMem) => ∀ x4_16 : Int32, x4_16 = p4 + (1 : Int32) → ((zw_X5_layNumbers_tr_7 O c3 K77 k x4_16 T_14)))))))))))))))))
def zw_X5_layNumbers_tr (O : zMem) (P2 : zMem) (nn : Int32) (post : zMem → Prop) : Prop := zw_X3_removeAll P2 (fun (T_1 : zMem) => (∃ kf, zw_X5_layNumbers_tr_7 O nn (fun (T_17 : zMem) => post T_17) kf (0 : Int32) T_1))
/-! X5_layNumbers_pi -/
def zd_X5_layNumbers_pi (cI : ClassId) (adO qO3 qO4 qO5 qO6 adP qP0 qP1 qP2 qP3 qP4 oO0 oO1 oO2 oO7 oO8 oO9 oO10 oO11 : Nat) (O : zMem) (P : zMem) : va_W := [(adO, .inr (4, [.ref oO0, .ref oO1, .ref oO2, .ref qO3, .ref qO4, .ref qO5, .ref qO6, .ref oO7, .ref oO8, .ref oO9, .ref oO10, .ref oO11, .int (O 12 0), .int (O 13 0), .int (O 14 0)])), (qO3, .inl (cI, 6, .inl (O 3))), (qO4, .inl (cI, 6, .inl (O 4))), (qO5, .inl (cI, 3, .inl (O 5))), (qO6, .inl (cI, 3, .inl (O 6))), (adP, .inr (2, [.ref qP0, .ref qP1, .ref qP2, .ref qP3, .ref qP4, .int (P 5 0)])), (qP0, .inl (cI, 2, .inl (P 0))), (qP1, .inl (cI, 2, .inl (P 1))), (qP2, .inl (cI, 6, .inl (P 2))), (qP3, .inl (cI, 6, .inl (P 3))), (qP4, .inl (cI, 6, .inl (P 4)))]
abbrev rmX5_layNumbers_pi : Room := { frames := 2, cells := 0, slots := 0, locals := 47 }
def zw_X5_layNumbers_pi_7 (O : zMem) (c3 : Int32) (K77 : zMem → Prop) : Nat → Int32 → zMem → Prop
  | 0, _, _ => False
  | k + 1, p4, P => ((c3 ≤ p4 → (K77 P)) ∧ (¬ c3 ≤ p4 → (((3 : Int32) ≤ p4 → (K77 P)) ∧ (¬ (3 : Int32) ≤ p4 → (vp_in p4 3 ∧ ∀ x5_5 : Int32, x5_5 = ((O 6) (Int32.toNatClampNeg p4)) → (((x5_5 < 0 → ∀ x4_7 : Int32, x4_7 = p4 + (1 : Int32) → ((zw_X5_layNumbers_pi_7 O c3 K77 k x4_7 P))) ∧ (¬ x5_5 < 0 → (((O 14 0) ≤ x5_5 → ∀ x4_9 : Int32, x4_9 = p4 + (1 : Int32) → ((zw_X5_layNumbers_pi_7 O c3 K77 k x4_9 P))) ∧ (¬ (O 14 0) ≤ x5_5 → (((6 : Int32) ≤ x5_5 → ∀ x4_11 : Int32, x4_11 = p4 + (1 : Int32) → ((zw_X5_layNumbers_pi_7 O c3 K77 k x4_11 P))) ∧ (¬ (6 : Int32) ≤ x5_5 → (vp_in x5_5 6 ∧ (vp_in x5_5 6 ∧ zw_X3_insert P (P 5 0) ((O 3) (Int32.toNatClampNeg x5_5)) ((O 4) (Int32.toNatClampNeg x5_5)) (1 : Int32) (fun (v_15 : Int32) (T_14 : zMem) => ∀ x4_16 : Int32, x4_16 = p4 + (1 : Int32) → ((zw_X5_layNumbers_pi_7 O c3 K77 k x4_16 T_14)))))))))))))))))
def zw_X5_layNumbers_pi (O : zMem) (P : zMem) (nn : Int32) (post : zMem → Prop) : Prop := zw_X3_removeAll P (fun (T_1 : zMem) => (∃ kf, zw_X5_layNumbers_pi_7 O nn (fun (T_17 : zMem) => post T_17) kf (0 : Int32) T_1))
/-! X5_pane -/
def zd_X5_pane (cI : ClassId) (adO qO3 qO4 qO5 qO6 adN qN0 qN1 qN2 qN3 qN4 qN5 oO0 oO1 oO2 oO8 oO9 oO10 oO11 : Nat) (O : zMem) (N : zMem) : va_W := [(adO, .inr (4, [.ref oO0, .ref oO1, .ref oO2, .ref qO3, .ref qO4, .ref qO5, .ref qO6, .ref adN, .ref oO8, .ref oO9, .ref oO10, .ref oO11, .int (O 12 0), .int (O 13 0), .int (O 14 0)])), (qO3, .inl (cI, 6, .inl (O 3))), (qO4, .inl (cI, 6, .inl (O 4))), (qO5, .inl (cI, 3, .inl (O 5))), (qO6, .inl (cI, 3, .inl (O 6))), (adN, .inr (1, [.ref qN0, .ref qN1, .ref qN2, .ref qN3, .ref qN4, .ref qN5, .int (N 6 0)])), (qN0, .inl (cI, 8, .inl (N 0))), (qN1, .inl (cI, 8, .inl (N 1))), (qN2, .inl (cI, 8, .inl (N 2))), (qN3, .inl (cI, 8, .inl (N 3))), (qN4, .inl (cI, 8, .inl (N 4))), (qN5, .inl (cI, 8, .inl (N 5)))]
abbrev rmX5_pane : Room := { frames := 6, cells := 1, slots := 6, locals := 90 }
def zw_X5_pane (O : zMem) (N : zMem) (bu : Int32) (bl : Int32) (ou : Int32) (ol : Int32) (post : Int32 → zMem → Prop) (PXA : Prop) : Prop := zw_X2_isShare bu bl (fun (v_1 : Int32) => ((v_1 = 0 → PXA) ∧ (¬ v_1 = 0 → zw_X2_isShare ou ol (fun (v_3 : Int32) => ((¬ v_3 = 0 → ((((bu * ol) + (ou * bl)) ≤ (bl * ol) → zw_X2_append N bu bl ou ol (fun (v_7 : Int32) (T_6 : zMem) => ((v_7 = 0 → post (-1 : Int32) T_6) ∧ (¬ v_7 = 0 → post (T_6 6 0) T_6)))) ∧ (¬ ((bu * ol) + (ou * bl)) ≤ (bl * ol) → PXA))) ∧ (v_3 = 0 → PXA))))))
/-! X5_clear -/
def zd_X5_clear (cI : ClassId) (adO qO3 qO4 qO5 qO6 adN qN0 qN1 qN2 qN3 qN4 qN5 oO0 oO1 oO2 oO8 oO9 oO10 oO11 : Nat) (O : zMem) (N : zMem) : va_W := [(adO, .inr (4, [.ref oO0, .ref oO1, .ref oO2, .ref qO3, .ref qO4, .ref qO5, .ref qO6, .ref adN, .ref oO8, .ref oO9, .ref oO10, .ref oO11, .int (O 12 0), .int (O 13 0), .int (O 14 0)])), (qO3, .inl (cI, 6, .inl (O 3))), (qO4, .inl (cI, 6, .inl (O 4))), (qO5, .inl (cI, 3, .inl (O 5))), (qO6, .inl (cI, 3, .inl (O 6))), (adN, .inr (1, [.ref qN0, .ref qN1, .ref qN2, .ref qN3, .ref qN4, .ref qN5, .int (N 6 0)])), (qN0, .inl (cI, 8, .inl (N 0))), (qN1, .inl (cI, 8, .inl (N 1))), (qN2, .inl (cI, 8, .inl (N 2))), (qN3, .inl (cI, 8, .inl (N 3))), (qN4, .inl (cI, 8, .inl (N 4))), (qN5, .inl (cI, 8, .inl (N 5)))]
abbrev rmX5_clear : Room := { frames := 3, cells := 0, slots := 0, locals := 62 }
def zw_X5_clear (O : zMem) (N : zMem) (post : Int32 → zMem → Prop) : Prop := ∀ x1_1 : Int32, x1_1 = (N 6 0) → (zw_X2_removeAll N (fun (T_2 : zMem) => post x1_1 T_2))
/-! X5_share -/
def zd_X5_share (cI : ClassId) (adO qO3 qO4 qO5 qO6 adN qN0 qN1 qN2 qN3 qN4 qN5 adF0 qF00 qF01 qF02 qF03 oO0 oO1 oO2 oO8 oO10 oO11 : Nat) (O : zMem) (N : zMem) (F0 : zMem) : va_W := [(adO, .inr (4, [.ref oO0, .ref oO1, .ref oO2, .ref qO3, .ref qO4, .ref qO5, .ref qO6, .ref adN, .ref oO8, .ref adF0, .ref oO10, .ref oO11, .int (O 12 0), .int (O 13 0), .int (O 14 0)])), (qO3, .inl (cI, 6, .inl (O 3))), (qO4, .inl (cI, 6, .inl (O 4))), (qO5, .inl (cI, 3, .inl (O 5))), (qO6, .inl (cI, 3, .inl (O 6))), (adN, .inr (1, [.ref qN0, .ref qN1, .ref qN2, .ref qN3, .ref qN4, .ref qN5, .int (N 6 0)])), (qN0, .inl (cI, 8, .inl (N 0))), (qN1, .inl (cI, 8, .inl (N 1))), (qN2, .inl (cI, 8, .inl (N 2))), (qN3, .inl (cI, 8, .inl (N 3))), (qN4, .inl (cI, 8, .inl (N 4))), (qN5, .inl (cI, 8, .inl (N 5))), (adF0, .inr (0, [.ref qF00, .ref qF01, .ref qF02, .ref qF03])), (qF00, .inl (cI, 16, .inl (F0 0))), (qF01, .inl (cI, 16, .inl (F0 1))), (qF02, .inl (cI, 32, .inl (F0 2))), (qF03, .inl (cI, 32, .inl (F0 3)))]
abbrev rmX5_share : Room := { frames := 7, cells := 1, slots := 6, locals := 119 }
def zw_X5_share (O : zMem) (N : zMem) (F0 : zMem) (wh : Int32) (be : Int32) (kk : Int32) (post : Int32 → zMem → zMem → Prop) (PXA : Prop) : Prop := ((wh < 0 → PXA) ∧ (¬ wh < 0 → ((wh ≤ (3 : Int32) → zw_X5_needPart kk (zw_X2_tell N F0 wh (fun (T_3 : zMem) (T_4 : zMem) => zw_X0_toLowestTerms T_4 (fun (T_5 : zMem) => zw_X0_part T_5 be kk (fun (v_6 : Int32) => post v_6 T_3 T_5)))) PXA) ∧ (¬ wh ≤ (3 : Int32) → PXA))))
theorem zxb_80 : ∀ w ∈ (vx_atS RX5 80 "java/lang/IllegalArgumentException" ["java/lang/RuntimeException", "java/lang/Exception"]).filter (fun w => !goodWord w), w ∈ zx_bw := by decide +kernel
theorem zxg_76_80 : ∀ w ∈ Cond.classLink RX5 76 "java/lang/IllegalArgumentException" :: Cond.initialized "java/lang/IllegalArgumentException" :: vx_atS RX5 80 "java/lang/IllegalArgumentException" ["java/lang/RuntimeException", "java/lang/Exception"], vx_ot w = true := by decide +kernel
theorem zy_X5_needIndex : yX5_needIndex.cls ≠ "java/lang/invoke/MethodHandle" ∧ yX5_needIndex.cls ≠ "java/lang/invoke/VarHandle" ∧ (parseMethodDescriptor yX5_needIndex.desc).map (fun d => d.parameters.length) = some 2 := by decide +kernel
set_option maxHeartbeats 4000000 in
set_option maxRecDepth 100000 in
theorem zc_X5_needIndex (l : Launch) (hlt : l.stackTraces = false) (G : va_G) (cI : ClassId) (up : Int32) (lo : Int32) (post : Prop) (PXA : Prop) (hF : zw_X5_needIndex up lo post PXA) (sz : Nat) : vx_Met l yX5_needIndex wsX5_needIndex rmX5_needIndex (va_Pc [.int up, .int lo] (zu_in G cI [] sz)) (zu_Qn post) (zu_X (fun E => (E = "java/lang/IllegalArgumentException" ∧ PXA))) 1 6 (fun _ => False) := by
  refine zu_met (cc := cX5_needIndex) (maxL := 2) (ret := none) (lv0 := [(0, .int up), (1, .int lo)]) (by decide) rfl (Nat.le_of_ble_eq_true rfl) rfl ?_ sz
  intro p e s m below meth c C hP0 hB hT hr hlk
  refine zu_iload_n (pc := 0) C rfl 0 rfl dX5_needIndex_0 ?_
  refine zu_iconst (pc := 1) (v := 1) C (by decide) dX5_needIndex_1 ?_
  refine zu_icmp_lt (pc := 2) (tgt := 22) C dX5_needIndex_2 (by decide) (fun c_1 => ?_) (fun c_1 => ?_)
  · replace hF := And.left hF c_1
    exact zu_throw (pc := 22) (cls := "java/lang/IllegalArgumentException") (text := "an index is 1 to 9 by 1 to 9") (ik := 76) (is := 229) (ic := 80) C hB hT hlt hlk rfl (by decide +kernel) (List.mem_of_getElem? (i := 2) rfl) (List.mem_of_getElem? (i := 1) rfl) (List.mem_of_getElem? (i := 2) rfl) (fun w h => List.mem_cons_of_mem _ (List.mem_append_right _ h)) zxb_80 zxg_76_80 dX5_needIndex_22 dX5_needIndex_25 dX5_needIndex_26 dX5_needIndex_28 dX5_needIndex_31 (Nat.le_of_ble_eq_true rfl) (Nat.le_of_ble_eq_true rfl) (Nat.le_of_ble_eq_true rfl) (Nat.le_of_ble_eq_true rfl) (⟨rfl, hF⟩)
  · replace hF := And.right hF c_1
    refine zu_iload_n (pc := 5) C rfl 0 rfl dX5_needIndex_5 ?_
    refine zu_bipush (pc := 6) (v := 9) C (by decide) dX5_needIndex_6 ?_
    refine zu_icmp_gt (pc := 8) (tgt := 22) C dX5_needIndex_8 (by decide) (fun c_2 => ?_) (fun c_2 => ?_)
    · replace hF := And.left hF c_2
      exact zu_throw (pc := 22) (cls := "java/lang/IllegalArgumentException") (text := "an index is 1 to 9 by 1 to 9") (ik := 76) (is := 229) (ic := 80) C hB hT hlt hlk rfl (by decide +kernel) (List.mem_of_getElem? (i := 2) rfl) (List.mem_of_getElem? (i := 1) rfl) (List.mem_of_getElem? (i := 2) rfl) (fun w h => List.mem_cons_of_mem _ (List.mem_append_right _ h)) zxb_80 zxg_76_80 dX5_needIndex_22 dX5_needIndex_25 dX5_needIndex_26 dX5_needIndex_28 dX5_needIndex_31 (Nat.le_of_ble_eq_true rfl) (Nat.le_of_ble_eq_true rfl) (Nat.le_of_ble_eq_true rfl) (Nat.le_of_ble_eq_true rfl) (⟨rfl, hF⟩)
    · replace hF := And.right hF c_2
      refine zu_iload_n (pc := 11) C rfl 1 rfl dX5_needIndex_11 ?_
      refine zu_iconst (pc := 12) (v := 1) C (by decide) dX5_needIndex_12 ?_
      refine zu_icmp_lt (pc := 13) (tgt := 22) C dX5_needIndex_13 (by decide) (fun c_3 => ?_) (fun c_3 => ?_)
      · replace hF := And.left hF c_3
        exact zu_throw (pc := 22) (cls := "java/lang/IllegalArgumentException") (text := "an index is 1 to 9 by 1 to 9") (ik := 76) (is := 229) (ic := 80) C hB hT hlt hlk rfl (by decide +kernel) (List.mem_of_getElem? (i := 2) rfl) (List.mem_of_getElem? (i := 1) rfl) (List.mem_of_getElem? (i := 2) rfl) (fun w h => List.mem_cons_of_mem _ (List.mem_append_right _ h)) zxb_80 zxg_76_80 dX5_needIndex_22 dX5_needIndex_25 dX5_needIndex_26 dX5_needIndex_28 dX5_needIndex_31 (Nat.le_of_ble_eq_true rfl) (Nat.le_of_ble_eq_true rfl) (Nat.le_of_ble_eq_true rfl) (Nat.le_of_ble_eq_true rfl) (⟨rfl, hF⟩)
      · replace hF := And.right hF c_3
        refine zu_iload_n (pc := 16) C rfl 1 rfl dX5_needIndex_16 ?_
        refine zu_bipush (pc := 17) (v := 9) C (by decide) dX5_needIndex_17 ?_
        refine zu_icmp_le (pc := 19) (tgt := 32) C dX5_needIndex_19 (by decide) (fun c_4 => ?_) (fun c_4 => ?_)
        · replace hF := And.left hF c_4
          exact zu_vret (pc := 32) C hr hlk hF dX5_needIndex_32
        · replace hF := And.right hF c_4
          exact zu_throw (pc := 22) (cls := "java/lang/IllegalArgumentException") (text := "an index is 1 to 9 by 1 to 9") (ik := 76) (is := 229) (ic := 80) C hB hT hlt hlk rfl (by decide +kernel) (List.mem_of_getElem? (i := 2) rfl) (List.mem_of_getElem? (i := 1) rfl) (List.mem_of_getElem? (i := 2) rfl) (fun w h => List.mem_cons_of_mem _ (List.mem_append_right _ h)) zxb_80 zxg_76_80 dX5_needIndex_22 dX5_needIndex_25 dX5_needIndex_26 dX5_needIndex_28 dX5_needIndex_31 (Nat.le_of_ble_eq_true rfl) (Nat.le_of_ble_eq_true rfl) (Nat.le_of_ble_eq_true rfl) (Nat.le_of_ble_eq_true rfl) (⟨rfl, hF⟩)
theorem zy_X5_needLightBelow : yX5_needLightBelow.cls ≠ "java/lang/invoke/MethodHandle" ∧ yX5_needLightBelow.cls ≠ "java/lang/invoke/VarHandle" ∧ (parseMethodDescriptor yX5_needLightBelow.desc).map (fun d => d.parameters.length) = some 1 := by decide +kernel
set_option maxHeartbeats 4000000 in
set_option maxRecDepth 100000 in
theorem zc_X5_needLightBelow (l : Launch) (hlt : l.stackTraces = false) (G : va_G) (cI : ClassId) (v : Int32) (post : Prop) (PXA : Prop) (hF : zw_X5_needLightBelow v post PXA) (sz : Nat) : vx_Met l yX5_needLightBelow wsX5_needLightBelow rmX5_needLightBelow (va_Pc [.int v] (zu_in G cI [] sz)) (zu_Qn post) (zu_X (fun E => (E = "java/lang/IllegalArgumentException" ∧ PXA))) 1 6 (fun _ => False) := by
  refine zu_met (cc := cX5_needLightBelow) (maxL := 1) (ret := none) (lv0 := [(0, .int v)]) (by decide) rfl (Nat.le_of_ble_eq_true rfl) rfl ?_ sz
  intro p e s m below meth c C hP0 hB hT hr hlk
  refine zu_iload_n (pc := 0) C rfl 0 rfl dX5_needLightBelow_0 ?_
  refine zu_iconst (pc := 1) (v := 1) C (by decide) dX5_needLightBelow_1 ?_
  refine zu_icmp_lt (pc := 2) (tgt := 11) C dX5_needLightBelow_2 (by decide) (fun c_1 => ?_) (fun c_1 => ?_)
  · replace hF := And.left hF c_1
    exact zu_throw (pc := 11) (cls := "java/lang/IllegalArgumentException") (text := "a cosine's lower part is 1 to 25") (ik := 76) (is := 231) (ic := 80) C hB hT hlt hlk rfl (by decide +kernel) (List.mem_of_getElem? (i := 7) rfl) (List.mem_of_getElem? (i := 1) rfl) (List.mem_of_getElem? (i := 2) rfl) (fun w h => List.mem_cons_of_mem _ (List.mem_append_right _ h)) zxb_80 zxg_76_80 dX5_needLightBelow_11 dX5_needLightBelow_14 dX5_needLightBelow_15 dX5_needLightBelow_17 dX5_needLightBelow_20 (Nat.le_of_ble_eq_true rfl) (Nat.le_of_ble_eq_true rfl) (Nat.le_of_ble_eq_true rfl) (Nat.le_of_ble_eq_true rfl) (⟨rfl, hF⟩)
  · replace hF := And.right hF c_1
    refine zu_iload_n (pc := 5) C rfl 0 rfl dX5_needLightBelow_5 ?_
    refine zu_bipush (pc := 6) (v := 25) C (by decide) dX5_needLightBelow_6 ?_
    refine zu_icmp_le (pc := 8) (tgt := 21) C dX5_needLightBelow_8 (by decide) (fun c_2 => ?_) (fun c_2 => ?_)
    · replace hF := And.left hF c_2
      exact zu_vret (pc := 21) C hr hlk hF dX5_needLightBelow_21
    · replace hF := And.right hF c_2
      exact zu_throw (pc := 11) (cls := "java/lang/IllegalArgumentException") (text := "a cosine's lower part is 1 to 25") (ik := 76) (is := 231) (ic := 80) C hB hT hlt hlk rfl (by decide +kernel) (List.mem_of_getElem? (i := 7) rfl) (List.mem_of_getElem? (i := 1) rfl) (List.mem_of_getElem? (i := 2) rfl) (fun w h => List.mem_cons_of_mem _ (List.mem_append_right _ h)) zxb_80 zxg_76_80 dX5_needLightBelow_11 dX5_needLightBelow_14 dX5_needLightBelow_15 dX5_needLightBelow_17 dX5_needLightBelow_20 (Nat.le_of_ble_eq_true rfl) (Nat.le_of_ble_eq_true rfl) (Nat.le_of_ble_eq_true rfl) (Nat.le_of_ble_eq_true rfl) (⟨rfl, hF⟩)
theorem zy_X5_needPart : yX5_needPart.cls ≠ "java/lang/invoke/MethodHandle" ∧ yX5_needPart.cls ≠ "java/lang/invoke/VarHandle" ∧ (parseMethodDescriptor yX5_needPart.desc).map (fun d => d.parameters.length) = some 1 := by decide +kernel
set_option maxHeartbeats 4000000 in
set_option maxRecDepth 100000 in
theorem zc_X5_needPart (l : Launch) (hlt : l.stackTraces = false) (G : va_G) (cI : ClassId) (kk : Int32) (post : Prop) (PXA : Prop) (hF : zw_X5_needPart kk post PXA) (sz : Nat) : vx_Met l yX5_needPart wsX5_needPart rmX5_needPart (va_Pc [.int kk] (zu_in G cI [] sz)) (zu_Qn post) (zu_X (fun E => (E = "java/lang/IllegalArgumentException" ∧ PXA))) 1 6 (fun _ => False) := by
  refine zu_met (cc := cX5_needPart) (maxL := 1) (ret := none) (lv0 := [(0, .int kk)]) (by decide) rfl (Nat.le_of_ble_eq_true rfl) rfl ?_ sz
  intro p e s m below meth c C hP0 hB hT hr hlk
  refine zu_iload_n (pc := 0) C rfl 0 rfl dX5_needPart_0 ?_
  refine zu_if_lt (pc := 1) (tgt := 10) C dX5_needPart_1 (by decide) (fun c_1 => ?_) (fun c_1 => ?_)
  · replace hF := And.left hF c_1
    exact zu_throw (pc := 10) (cls := "java/lang/IllegalArgumentException") (text := "a part is 0 to 39") (ik := 76) (is := 233) (ic := 80) C hB hT hlt hlk rfl (by decide +kernel) (List.mem_of_getElem? (i := 9) rfl) (List.mem_of_getElem? (i := 1) rfl) (List.mem_of_getElem? (i := 2) rfl) (fun w h => List.mem_cons_of_mem _ (List.mem_append_right _ h)) zxb_80 zxg_76_80 dX5_needPart_10 dX5_needPart_13 dX5_needPart_14 dX5_needPart_16 dX5_needPart_19 (Nat.le_of_ble_eq_true rfl) (Nat.le_of_ble_eq_true rfl) (Nat.le_of_ble_eq_true rfl) (Nat.le_of_ble_eq_true rfl) (⟨rfl, hF⟩)
  · replace hF := And.right hF c_1
    refine zu_iload_n (pc := 4) C rfl 0 rfl dX5_needPart_4 ?_
    refine zu_bipush (pc := 5) (v := 40) C (by decide) dX5_needPart_5 ?_
    refine zu_icmp_lt (pc := 7) (tgt := 20) C dX5_needPart_7 (by decide) (fun c_2 => ?_) (fun c_2 => ?_)
    · replace hF := And.left hF c_2
      exact zu_vret (pc := 20) C hr hlk hF dX5_needPart_20
    · replace hF := And.right hF c_2
      exact zu_throw (pc := 10) (cls := "java/lang/IllegalArgumentException") (text := "a part is 0 to 39") (ik := 76) (is := 233) (ic := 80) C hB hT hlt hlk rfl (by decide +kernel) (List.mem_of_getElem? (i := 9) rfl) (List.mem_of_getElem? (i := 1) rfl) (List.mem_of_getElem? (i := 2) rfl) (fun w h => List.mem_cons_of_mem _ (List.mem_append_right _ h)) zxb_80 zxg_76_80 dX5_needPart_10 dX5_needPart_13 dX5_needPart_14 dX5_needPart_16 dX5_needPart_19 (Nat.le_of_ble_eq_true rfl) (Nat.le_of_ble_eq_true rfl) (Nat.le_of_ble_eq_true rfl) (Nat.le_of_ble_eq_true rfl) (⟨rfl, hF⟩)
theorem zy_X5_needEntry : yX5_needEntry.cls ≠ "java/lang/invoke/MethodHandle" ∧ yX5_needEntry.cls ≠ "java/lang/invoke/VarHandle" ∧ (parseMethodDescriptor yX5_needEntry.desc).map (fun d => d.parameters.length) = some 1 := by decide +kernel
set_option maxHeartbeats 4000000 in
set_option maxRecDepth 100000 in
theorem zc_X5_needEntry (l : Launch) (hlt : l.stackTraces = false) (G : va_G) (cI : ClassId) (en : Int32) (post : Prop) (PXA : Prop) (hF : zw_X5_needEntry en post PXA) (sz : Nat) : vx_Met l yX5_needEntry wsX5_needEntry rmX5_needEntry (va_Pc [.int en] (zu_in G cI [] sz)) (zu_Qn post) (zu_X (fun E => (E = "java/lang/IllegalArgumentException" ∧ PXA))) 1 6 (fun _ => False) := by
  refine zu_met (cc := cX5_needEntry) (maxL := 1) (ret := none) (lv0 := [(0, .int en)]) (by decide) rfl (Nat.le_of_ble_eq_true rfl) rfl ?_ sz
  intro p e s m below meth c C hP0 hB hT hr hlk
  refine zu_iload_n (pc := 0) C rfl 0 rfl dX5_needEntry_0 ?_
  refine zu_if_lt (pc := 1) (tgt := 9) C dX5_needEntry_1 (by decide) (fun c_1 => ?_) (fun c_1 => ?_)
  · replace hF := And.left hF c_1
    exact zu_throw (pc := 9) (cls := "java/lang/IllegalArgumentException") (text := "an entry is 0 to 3") (ik := 76) (is := 235) (ic := 80) C hB hT hlt hlk rfl (by decide +kernel) (List.mem_of_getElem? (i := 10) rfl) (List.mem_of_getElem? (i := 1) rfl) (List.mem_of_getElem? (i := 2) rfl) (fun w h => List.mem_cons_of_mem _ (List.mem_append_right _ h)) zxb_80 zxg_76_80 dX5_needEntry_9 dX5_needEntry_12 dX5_needEntry_13 dX5_needEntry_15 dX5_needEntry_18 (Nat.le_of_ble_eq_true rfl) (Nat.le_of_ble_eq_true rfl) (Nat.le_of_ble_eq_true rfl) (Nat.le_of_ble_eq_true rfl) (⟨rfl, hF⟩)
  · replace hF := And.right hF c_1
    refine zu_iload_n (pc := 4) C rfl 0 rfl dX5_needEntry_4 ?_
    refine zu_iconst (pc := 5) (v := 4) C (by decide) dX5_needEntry_5 ?_
    refine zu_icmp_lt (pc := 6) (tgt := 19) C dX5_needEntry_6 (by decide) (fun c_2 => ?_) (fun c_2 => ?_)
    · replace hF := And.left hF c_2
      exact zu_vret (pc := 19) C hr hlk hF dX5_needEntry_19
    · replace hF := And.right hF c_2
      exact zu_throw (pc := 9) (cls := "java/lang/IllegalArgumentException") (text := "an entry is 0 to 3") (ik := 76) (is := 235) (ic := 80) C hB hT hlt hlk rfl (by decide +kernel) (List.mem_of_getElem? (i := 10) rfl) (List.mem_of_getElem? (i := 1) rfl) (List.mem_of_getElem? (i := 2) rfl) (fun w h => List.mem_cons_of_mem _ (List.mem_append_right _ h)) zxb_80 zxg_76_80 dX5_needEntry_9 dX5_needEntry_12 dX5_needEntry_13 dX5_needEntry_15 dX5_needEntry_18 (Nat.le_of_ble_eq_true rfl) (Nat.le_of_ble_eq_true rfl) (Nat.le_of_ble_eq_true rfl) (Nat.le_of_ble_eq_true rfl) (⟨rfl, hF⟩)
theorem zf_X5_pileAt_10 : Cond.fieldLink RX5 10 "GlassStack" "pileZero" "LGlassStack$Pile;" ∈ wsX5_pileAt := (List.mem_of_getElem? (i := 3) rfl)
theorem zf_X5_pileAt_16 : Cond.fieldLink RX5 16 "GlassStack" "pileOne" "LGlassStack$Pile;" ∈ wsX5_pileAt := (List.mem_of_getElem? (i := 4) rfl)
theorem zi_X5_pileAt_X5 : ∀ w ∈ wsX50, w ∈ wsX5_pileAt := fun w h => List.mem_cons_of_mem _ (List.mem_append_left _ (List.mem_append_right _ h))
theorem zxb_228 : ∀ w ∈ (vx_atS RX5 228 "java/lang/IndexOutOfBoundsException" ["java/lang/RuntimeException", "java/lang/Exception"]).filter (fun w => !goodWord w), w ∈ zx_bw := by decide +kernel
theorem zxg_224_228 : ∀ w ∈ Cond.classLink RX5 224 "java/lang/IndexOutOfBoundsException" :: Cond.initialized "java/lang/IndexOutOfBoundsException" :: vx_atS RX5 228 "java/lang/IndexOutOfBoundsException" ["java/lang/RuntimeException", "java/lang/Exception"], vx_ot w = true := by decide +kernel
theorem zy_X5_pileAt : yX5_pileAt.cls = RX5 ∧ yX5_pileAt.cls ≠ "java/lang/invoke/MethodHandle" ∧ yX5_pileAt.cls ≠ "java/lang/invoke/VarHandle" ∧ (parseMethodDescriptor yX5_pileAt.desc).map (fun d => d.parameters.length) = some 1 := by decide +kernel
set_option maxHeartbeats 4000000 in
set_option maxRecDepth 100000 in
theorem zc_X5_pileAt (l : Launch) (hlt : l.stackTraces = false) (G : va_G) (cI : ClassId) (adO qO3 qO4 qO5 qO6 oO0 oO1 oO2 oO7 oO8 oO9 oO10 oO11 : Nat) (O : zMem) (st : Int32) (P0 P1 : Prop) (PXI : Prop) (hF : zw_X5_pileAt O st P0 P1 PXI) (sz : Nat) : vx_Met l yX5_pileAt wsX5_pileAt rmX5_pileAt (va_Pc [.ref adO, .int st] (zu_in G cI (zd_X5_pileAt cI adO qO3 qO4 qO5 qO6 oO0 oO1 oO2 oO7 oO8 oO9 oO10 oO11 O) sz)) (zu_Qr (fun u : Nat => [oO0, oO1].getD u 0) (fun u : Nat => (u = 0 ∧ P0) ∨ (u = 1 ∧ P1))) (zu_X (fun E => (E = "java/lang/IndexOutOfBoundsException" ∧ PXI))) 1 6 (fun _ => False) := by
  refine zu_met (cc := cX5_pileAt) (maxL := 2) (ret := (some (.object "GlassStack$Pile"))) (lv0 := [(0, .ref adO), (1, .int st)]) (by decide) rfl (Nat.le_of_ble_eq_true rfl) rfl ?_ sz
  intro p e s m below meth c C hP0 hB hT hr hlk
  refine zu_iload_n (pc := 0) C rfl 1 rfl dX5_pileAt_0 ?_
  refine zu_if_eq (pc := 1) (tgt := 19) C dX5_pileAt_1 (by decide) (fun c_1 => ?_) (fun c_1 => ?_)
  · replace hF := And.left hF c_1
    refine zu_iload_n (pc := 19) C rfl 1 rfl dX5_pileAt_19 ?_
    refine zu_if_ne (pc := 20) (tgt := 30) C dX5_pileAt_20 (by decide) (fun c_2 => ?_) (fun c_2 => ?_)
    · replace hF := And.left hF c_2
      refine zu_aload_n (pc := 30) C rfl 0 rfl dX5_pileAt_30 ?_
      refine zu_get (pc := 31) (CC := RX5) (T := TX5) (N := 15) (ci := 4) (v := .ref oO1) C hP0 zi_X5_pileAt_X5 0 rfl 1 (by decide) zf_X5_pileAt_16 rfl rfl dX5_pileAt_31 ?_
      exact zu_aret (pc := 34) C hr (by first | exact Or.inl ⟨_, rfl⟩ | exact Or.inr ⟨_, rfl⟩) hlk 1 rfl (Or.inr (⟨rfl, hF⟩)) dX5_pileAt_34
    · replace hF := And.right hF c_2
      refine zu_aload_n (pc := 23) C rfl 0 rfl dX5_pileAt_23 ?_
      refine zu_get (pc := 24) (CC := RX5) (T := TX5) (N := 15) (ci := 4) (v := .ref oO0) C hP0 zi_X5_pileAt_X5 0 rfl 0 (by decide) zf_X5_pileAt_10 rfl rfl dX5_pileAt_24 ?_
      refine zu_goto (pc := 27) (tgt := 34) C dX5_pileAt_27 (by decide) ?_
      exact zu_aret (pc := 34) C hr (by first | exact Or.inl ⟨_, rfl⟩ | exact Or.inr ⟨_, rfl⟩) hlk 0 rfl (Or.inl ⟨rfl, hF⟩) dX5_pileAt_34
  · replace hF := And.right hF c_1
    refine zu_iload_n (pc := 4) C rfl 1 rfl dX5_pileAt_4 ?_
    refine zu_iconst (pc := 5) (v := 1) C (by decide) dX5_pileAt_5 ?_
    refine zu_icmp_eq (pc := 6) (tgt := 19) C dX5_pileAt_6 (by decide) (fun c_3 => ?_) (fun c_3 => ?_)
    · replace hF := And.left hF c_3
      refine zu_iload_n (pc := 19) C rfl 1 rfl dX5_pileAt_19 ?_
      refine zu_if_ne (pc := 20) (tgt := 30) C dX5_pileAt_20 (by decide) (fun c_4 => ?_) (fun c_4 => ?_)
      · replace hF := And.left hF c_4
        refine zu_aload_n (pc := 30) C rfl 0 rfl dX5_pileAt_30 ?_
        refine zu_get (pc := 31) (CC := RX5) (T := TX5) (N := 15) (ci := 4) (v := .ref oO1) C hP0 zi_X5_pileAt_X5 0 rfl 1 (by decide) zf_X5_pileAt_16 rfl rfl dX5_pileAt_31 ?_
        exact zu_aret (pc := 34) C hr (by first | exact Or.inl ⟨_, rfl⟩ | exact Or.inr ⟨_, rfl⟩) hlk 1 rfl (Or.inr (⟨rfl, hF⟩)) dX5_pileAt_34
      · replace hF := And.right hF c_4
        refine zu_aload_n (pc := 23) C rfl 0 rfl dX5_pileAt_23 ?_
        refine zu_get (pc := 24) (CC := RX5) (T := TX5) (N := 15) (ci := 4) (v := .ref oO0) C hP0 zi_X5_pileAt_X5 0 rfl 0 (by decide) zf_X5_pileAt_10 rfl rfl dX5_pileAt_24 ?_
        refine zu_goto (pc := 27) (tgt := 34) C dX5_pileAt_27 (by decide) ?_
        exact zu_aret (pc := 34) C hr (by first | exact Or.inl ⟨_, rfl⟩ | exact Or.inr ⟨_, rfl⟩) hlk 0 rfl (Or.inl ⟨rfl, hF⟩) dX5_pileAt_34
    · replace hF := And.right hF c_3
      exact zu_throw (pc := 9) (cls := "java/lang/IndexOutOfBoundsException") (text := "no such stack") (ik := 224) (is := 226) (ic := 228) C hB hT hlt hlk rfl (by decide +kernel) (List.mem_of_getElem? (i := 0) rfl) (List.mem_of_getElem? (i := 1) rfl) (List.mem_of_getElem? (i := 2) rfl) (fun w h => List.mem_cons_of_mem _ (List.mem_append_right _ h)) zxb_228 zxg_224_228 dX5_pileAt_9 dX5_pileAt_12 dX5_pileAt_13 dX5_pileAt_15 dX5_pileAt_18 (Nat.le_of_ble_eq_true rfl) (Nat.le_of_ble_eq_true rfl) (Nat.le_of_ble_eq_true rfl) (Nat.le_of_ble_eq_true rfl) (⟨rfl, hF⟩)
theorem zy_X5_edge : yX5_edge.cls = RX5 ∧ yX5_edge.cls ≠ "java/lang/invoke/MethodHandle" ∧ yX5_edge.cls ≠ "java/lang/invoke/VarHandle" ∧ (parseMethodDescriptor yX5_edge.desc).map (fun d => d.parameters.length) = some 4 := by decide +kernel
set_option maxHeartbeats 4000000 in
set_option maxRecDepth 100000 in
theorem zc_X5_edge (l : Launch) (hlt : l.stackTraces = false) (G : va_G) (cI : ClassId) (adO qO3 qO4 qO5 qO6 adP0 qP00 qP01 qP02 qP03 qP04 adP1 qP10 qP11 qP12 qP13 qP14 oO2 oO7 oO8 oO9 oO10 oO11 : Nat) (O : zMem) (P0 : zMem) (P1 : zMem) (st : Int32) (wh : Int32) (up : Int32) (lo : Int32) (post : zMem → zMem → Prop) (PXI PXA : Prop) (hF : zw_X5_edge O P0 P1 st wh up lo post PXI PXA) (sz : Nat) : vx_Met l yX5_edge wsX5_edge rmX5_edge (va_Pc [.ref adO, .int st, .int wh, .int up, .int lo] (zx_in G cI (zd_X5_edge cI adO qO3 qO4 qO5 qO6 adP0 qP00 qP01 qP02 qP03 qP04 adP1 qP10 qP11 qP12 qP13 qP14 oO2 oO7 oO8 oO9 oO10 oO11 O P0 P1) sz)) (va_Qv (fun uz : zMem × zMem => post uz.1 uz.2) (fun (uz : zMem × zMem) t => zv_out G cI (va_A (zd_X5_edge cI adO qO3 qO4 qO5 qO6 adP0 qP00 qP01 qP02 qP03 qP04 adP1 qP10 qP11 qP12 qP13 qP14 oO2 oO7 oO8 oO9 oO10 oO11 O P0 P1) sz) (zd_X5_edge cI adO qO3 qO4 qO5 qO6 adP0 qP00 qP01 qP02 qP03 qP04 adP1 qP10 qP11 qP12 qP13 qP14 oO2 oO7 oO8 oO9 oO10 oO11 O uz.1 uz.2) t) (va_A (zd_X5_edge cI adO qO3 qO4 qO5 qO6 adP0 qP00 qP01 qP02 qP03 qP04 adP1 qP10 qP11 qP12 qP13 qP14 oO2 oO7 oO8 oO9 oO10 oO11 O P0 P1) sz)) (zx_X G cI (va_A (zd_X5_edge cI adO qO3 qO4 qO5 qO6 adP0 qP00 qP01 qP02 qP03 qP04 adP1 qP10 qP11 qP12 qP13 qP14 oO2 oO7 oO8 oO9 oO10 oO11 O P0 P1) sz) (zd_X5_edge cI adO qO3 qO4 qO5 qO6 adP0 qP00 qP01 qP02 qP03 qP04 adP1 qP10 qP11 qP12 qP13 qP14 oO2 oO7 oO8 oO9 oO10 oO11 O P0 P1) (fun E => (E = "java/lang/IndexOutOfBoundsException" ∧ PXI) ∨ (E = "java/lang/IllegalArgumentException" ∧ PXA))) 1 6 (va_A (zd_X5_edge cI adO qO3 qO4 qO5 qO6 adP0 qP00 qP01 qP02 qP03 qP04 adP1 qP10 qP11 qP12 qP13 qP14 oO2 oO7 oO8 oO9 oO10 oO11 O P0 P1) sz) := by
  refine zx_met (cc := cX5_edge) (maxL := 6) (ret := none) (lv0 := [(0, .ref adO), (1, .int st), (2, .int wh), (3, .int up), (4, .int lo)]) (Qc := fun A => va_Qv (fun uz : zMem × zMem => post uz.1 uz.2) (fun (uz : zMem × zMem) t => zv_out G cI A (zd_X5_edge cI adO qO3 qO4 qO5 qO6 adP0 qP00 qP01 qP02 qP03 qP04 adP1 qP10 qP11 qP12 qP13 qP14 oO2 oO7 oO8 oO9 oO10 oO11 O uz.1 uz.2) t) A) (XC := fun A => zx_X G cI A (zd_X5_edge cI adO qO3 qO4 qO5 qO6 adP0 qP00 qP01 qP02 qP03 qP04 adP1 qP10 qP11 qP12 qP13 qP14 oO2 oO7 oO8 oO9 oO10 oO11 O P0 P1) (fun E => (E = "java/lang/IndexOutOfBoundsException" ∧ PXI) ∨ (E = "java/lang/IllegalArgumentException" ∧ PXA))) (by decide) rfl (Nat.le_of_ble_eq_true rfl) rfl ?_ sz
  intro p e s m below meth c A C hB hT hr hlk
  clear sz
  refine zv_aload_n (pc := 0) C rfl 0 rfl dX5_edge_0 ?_
  refine zv_iload_n (pc := 1) C rfl 1 rfl dX5_edge_1 ?_
  refine zu_cr (pc := 2) (mc := 1) (ms := 6) C hT hlk rfl (Nat.le_of_ble_eq_true rfl) (Nat.le_of_ble_eq_true rfl) (fun _ h => Or.inl (h)) (zu_runV (As := [.int st]) (b := adO) (rest := []) (ci := 4) (q0 := 0) C hB (zc_X5_pileAt l hlt G cI adO qO3 qO4 qO5 qO6 adP0 adP1 oO2 oO7 oO8 oO9 oO10 oO11 O st _ _ _ hF) (cwV 1 C.2.2.2.2.1 gX5_edge_X5_pileAt rfl rfl rfl zy_X5_pileAt ⟨(Nat.le_of_ble_eq_true rfl), (Nat.le_of_ble_eq_true rfl)⟩) [0, 1, 2, 3, 4] rfl rfl rfl rfl rfl rfl (Nat.le_of_ble_eq_true rfl) ⟨(Nat.le_of_ble_eq_true rfl), (Nat.le_of_ble_eq_true rfl)⟩ dX5_edge_2) (fun u ra hF hra => ?_)
  rcases hF with ⟨rfl, hF⟩ | ⟨rfl, hF⟩
  · have hra2 : adP0 = ra := hra.symm
    subst hra2
    refine zv_astore (pc := 5) (lv' := [(5, .ref adP0), (0, .ref adO), (1, .int st), (2, .int wh), (3, .int up), (4, .int lo)]) C (by decide) rfl dX5_edge_5 ?_
    refine zv_iload_n (pc := 7) C rfl 3 rfl dX5_edge_7 ?_
    refine zv_if_eq (pc := 8) (tgt := 26) C dX5_edge_8 (by decide) (fun c_1 => ?_) (fun c_1 => ?_)
    · replace hF := And.left hF c_1
      refine zv_iload_n (pc := 26) C rfl 4 rfl dX5_edge_26 ?_
      refine zv_iload (pc := 27) C 5 rfl dX5_edge_27 ?_
      refine zu_cv (pc := 29) (mc := 1) (ms := 6) C hT hlk rfl (Nat.le_of_ble_eq_true rfl) (Nat.le_of_ble_eq_true rfl) (fun _ h => Or.inr (h)) (zu_runS (As := [.int up, .int lo]) (rest := []) C hB (zc_X5_needIndex l hlt G cI up lo _ _ hF) (va_cwS 2 C.2.2.2.2.1 gX5_edge_X5_needIndex rfl rfl rfl zy_X5_needIndex ⟨(Nat.le_of_ble_eq_true rfl), (Nat.le_of_ble_eq_true rfl)⟩) rfl rfl (Nat.le_of_ble_eq_true rfl) ⟨(Nat.le_of_ble_eq_true rfl), (Nat.le_of_ble_eq_true rfl)⟩ dX5_edge_29) (fun hF => ?_)
      refine zv_aload (pc := 32) C 0 rfl dX5_edge_32 ?_
      refine zv_iload_n (pc := 34) C rfl 3 rfl dX5_edge_34 ?_
      refine zv_iload_n (pc := 35) C rfl 4 rfl dX5_edge_35 ?_
      refine zv_iload (pc := 36) C 5 rfl dX5_edge_36 ?_
      refine zv_cv0 (pc := 38) (ws' := (fun uz : zMem => (zd_X5_edge cI adO qO3 qO4 qO5 qO6 adP0 qP00 qP01 qP02 qP03 qP04 adP1 qP10 qP11 qP12 qP13 qP14 oO2 oO7 oO8 oO9 oO10 oO11 O uz P1))) C (zv_runV (As := [.int wh, .int up, .int lo]) (b := adP0) (rest := []) (ci := 2) (q0 := 5) C (zc_X3_setEdge l G cI adP0 qP00 qP01 qP02 qP03 qP04 P0 wh up lo _ hF) (cwV 3 C.2.2.2.2.1 gX5_edge_X3_setEdge rfl rfl rfl zy_X3_setEdge ⟨Nat.le_of_ble_eq_true rfl, Nat.le_of_ble_eq_true rfl⟩) rfl rfl rfl rfl rfl (Nat.le_of_ble_eq_true rfl) ⟨Nat.zero_le _, Nat.zero_le _⟩ dX5_edge_38) [5, 6, 7, 8, 9, 10] [0, 1, 2, 3, 4, 11, 12, 13, 14, 15, 16] rfl rfl rfl rfl rfl (fun _ => rfl) (fun _ => rfl) (fun _ => rfl) (fun uz hF => ?_)
      obtain ⟨T_2, hE⟩ : ∃ z, z = uz := ⟨_, rfl⟩; subst hE
      refine zx_ret (mc := 1) (ms := 6) (Nat.le_of_ble_eq_true rfl) (Nat.le_of_ble_eq_true rfl) ?_
      exact zv_vret (pc := 41) C hr hlk (T_2, P1) hF rfl dX5_edge_41
    · replace hF := And.right hF c_1
      refine zv_iload_n (pc := 11) C rfl 3 rfl dX5_edge_11 ?_
      refine zv_iconst (pc := 12) (v := 1) C (by decide) dX5_edge_12 ?_
      refine zv_icmp_eq (pc := 13) (tgt := 26) C dX5_edge_13 (by decide) (fun c_3 => ?_) (fun c_3 => ?_)
      · replace hF := And.left hF c_3
        refine zv_iload_n (pc := 26) C rfl 4 rfl dX5_edge_26 ?_
        refine zv_iload (pc := 27) C 5 rfl dX5_edge_27 ?_
        refine zu_cv (pc := 29) (mc := 1) (ms := 6) C hT hlk rfl (Nat.le_of_ble_eq_true rfl) (Nat.le_of_ble_eq_true rfl) (fun _ h => Or.inr (h)) (zu_runS (As := [.int up, .int lo]) (rest := []) C hB (zc_X5_needIndex l hlt G cI up lo _ _ hF) (va_cwS 2 C.2.2.2.2.1 gX5_edge_X5_needIndex rfl rfl rfl zy_X5_needIndex ⟨(Nat.le_of_ble_eq_true rfl), (Nat.le_of_ble_eq_true rfl)⟩) rfl rfl (Nat.le_of_ble_eq_true rfl) ⟨(Nat.le_of_ble_eq_true rfl), (Nat.le_of_ble_eq_true rfl)⟩ dX5_edge_29) (fun hF => ?_)
        refine zv_aload (pc := 32) C 0 rfl dX5_edge_32 ?_
        refine zv_iload_n (pc := 34) C rfl 3 rfl dX5_edge_34 ?_
        refine zv_iload_n (pc := 35) C rfl 4 rfl dX5_edge_35 ?_
        refine zv_iload (pc := 36) C 5 rfl dX5_edge_36 ?_
        refine zv_cv0 (pc := 38) (ws' := (fun uz : zMem => (zd_X5_edge cI adO qO3 qO4 qO5 qO6 adP0 qP00 qP01 qP02 qP03 qP04 adP1 qP10 qP11 qP12 qP13 qP14 oO2 oO7 oO8 oO9 oO10 oO11 O uz P1))) C (zv_runV (As := [.int wh, .int up, .int lo]) (b := adP0) (rest := []) (ci := 2) (q0 := 5) C (zc_X3_setEdge l G cI adP0 qP00 qP01 qP02 qP03 qP04 P0 wh up lo _ hF) (cwV 3 C.2.2.2.2.1 gX5_edge_X3_setEdge rfl rfl rfl zy_X3_setEdge ⟨Nat.le_of_ble_eq_true rfl, Nat.le_of_ble_eq_true rfl⟩) rfl rfl rfl rfl rfl (Nat.le_of_ble_eq_true rfl) ⟨Nat.zero_le _, Nat.zero_le _⟩ dX5_edge_38) [5, 6, 7, 8, 9, 10] [0, 1, 2, 3, 4, 11, 12, 13, 14, 15, 16] rfl rfl rfl rfl rfl (fun _ => rfl) (fun _ => rfl) (fun _ => rfl) (fun uz hF => ?_)
        obtain ⟨T_4, hE⟩ : ∃ z, z = uz := ⟨_, rfl⟩; subst hE
        refine zx_ret (mc := 1) (ms := 6) (Nat.le_of_ble_eq_true rfl) (Nat.le_of_ble_eq_true rfl) ?_
        exact zv_vret (pc := 41) C hr hlk (T_4, P1) hF rfl dX5_edge_41
      · replace hF := And.right hF c_3
        exact zx_throw (pc := 16) (cls := "java/lang/IllegalArgumentException") (text := "an edge is 0, the air, or 1, the ground") (ik := 76) (is := 78) (ic := 80) C hB hT hlt hlk rfl (by decide +kernel) (List.mem_of_getElem? (i := 1) rfl) (List.mem_of_getElem? (i := 1) rfl) (List.mem_of_getElem? (i := 2) rfl) (fun w h => List.mem_cons_of_mem _ (List.mem_append_left _ (List.mem_append_right _ h))) zxb_80 zxg_76_80 dX5_edge_16 dX5_edge_19 dX5_edge_20 dX5_edge_22 dX5_edge_25 (Nat.le_of_ble_eq_true rfl) (Nat.le_of_ble_eq_true rfl) (Nat.le_of_ble_eq_true rfl) (Nat.le_of_ble_eq_true rfl) (Nat.le_of_ble_eq_true rfl) (Nat.le_of_ble_eq_true rfl) rfl (Or.inr (⟨rfl, hF⟩))
  · have hra2 : adP1 = ra := hra.symm
    subst hra2
    refine zv_astore (pc := 5) (lv' := [(5, .ref adP1), (0, .ref adO), (1, .int st), (2, .int wh), (3, .int up), (4, .int lo)]) C (by decide) rfl dX5_edge_5 ?_
    refine zv_iload_n (pc := 7) C rfl 3 rfl dX5_edge_7 ?_
    refine zv_if_eq (pc := 8) (tgt := 26) C dX5_edge_8 (by decide) (fun c_5 => ?_) (fun c_5 => ?_)
    · replace hF := And.left hF c_5
      refine zv_iload_n (pc := 26) C rfl 4 rfl dX5_edge_26 ?_
      refine zv_iload (pc := 27) C 5 rfl dX5_edge_27 ?_
      refine zu_cv (pc := 29) (mc := 1) (ms := 6) C hT hlk rfl (Nat.le_of_ble_eq_true rfl) (Nat.le_of_ble_eq_true rfl) (fun _ h => Or.inr (h)) (zu_runS (As := [.int up, .int lo]) (rest := []) C hB (zc_X5_needIndex l hlt G cI up lo _ _ hF) (va_cwS 2 C.2.2.2.2.1 gX5_edge_X5_needIndex rfl rfl rfl zy_X5_needIndex ⟨(Nat.le_of_ble_eq_true rfl), (Nat.le_of_ble_eq_true rfl)⟩) rfl rfl (Nat.le_of_ble_eq_true rfl) ⟨(Nat.le_of_ble_eq_true rfl), (Nat.le_of_ble_eq_true rfl)⟩ dX5_edge_29) (fun hF => ?_)
      refine zv_aload (pc := 32) C 0 rfl dX5_edge_32 ?_
      refine zv_iload_n (pc := 34) C rfl 3 rfl dX5_edge_34 ?_
      refine zv_iload_n (pc := 35) C rfl 4 rfl dX5_edge_35 ?_
      refine zv_iload (pc := 36) C 5 rfl dX5_edge_36 ?_
      refine zv_cv0 (pc := 38) (ws' := (fun uz : zMem => (zd_X5_edge cI adO qO3 qO4 qO5 qO6 adP0 qP00 qP01 qP02 qP03 qP04 adP1 qP10 qP11 qP12 qP13 qP14 oO2 oO7 oO8 oO9 oO10 oO11 O P0 uz))) C (zv_runV (As := [.int wh, .int up, .int lo]) (b := adP1) (rest := []) (ci := 2) (q0 := 11) C (zc_X3_setEdge l G cI adP1 qP10 qP11 qP12 qP13 qP14 P1 wh up lo _ hF) (cwV 3 C.2.2.2.2.1 gX5_edge_X3_setEdge rfl rfl rfl zy_X3_setEdge ⟨Nat.le_of_ble_eq_true rfl, Nat.le_of_ble_eq_true rfl⟩) rfl rfl rfl rfl rfl (Nat.le_of_ble_eq_true rfl) ⟨Nat.zero_le _, Nat.zero_le _⟩ dX5_edge_38) [11, 12, 13, 14, 15, 16] [0, 1, 2, 3, 4, 5, 6, 7, 8, 9, 10] rfl rfl rfl rfl rfl (fun _ => rfl) (fun _ => rfl) (fun _ => rfl) (fun uz hF => ?_)
      obtain ⟨T_6, hE⟩ : ∃ z, z = uz := ⟨_, rfl⟩; subst hE
      refine zx_ret (mc := 1) (ms := 6) (Nat.le_of_ble_eq_true rfl) (Nat.le_of_ble_eq_true rfl) ?_
      exact zv_vret (pc := 41) C hr hlk (P0, T_6) hF rfl dX5_edge_41
    · replace hF := And.right hF c_5
      refine zv_iload_n (pc := 11) C rfl 3 rfl dX5_edge_11 ?_
      refine zv_iconst (pc := 12) (v := 1) C (by decide) dX5_edge_12 ?_
      refine zv_icmp_eq (pc := 13) (tgt := 26) C dX5_edge_13 (by decide) (fun c_7 => ?_) (fun c_7 => ?_)
      · replace hF := And.left hF c_7
        refine zv_iload_n (pc := 26) C rfl 4 rfl dX5_edge_26 ?_
        refine zv_iload (pc := 27) C 5 rfl dX5_edge_27 ?_
        refine zu_cv (pc := 29) (mc := 1) (ms := 6) C hT hlk rfl (Nat.le_of_ble_eq_true rfl) (Nat.le_of_ble_eq_true rfl) (fun _ h => Or.inr (h)) (zu_runS (As := [.int up, .int lo]) (rest := []) C hB (zc_X5_needIndex l hlt G cI up lo _ _ hF) (va_cwS 2 C.2.2.2.2.1 gX5_edge_X5_needIndex rfl rfl rfl zy_X5_needIndex ⟨(Nat.le_of_ble_eq_true rfl), (Nat.le_of_ble_eq_true rfl)⟩) rfl rfl (Nat.le_of_ble_eq_true rfl) ⟨(Nat.le_of_ble_eq_true rfl), (Nat.le_of_ble_eq_true rfl)⟩ dX5_edge_29) (fun hF => ?_)
        refine zv_aload (pc := 32) C 0 rfl dX5_edge_32 ?_
        refine zv_iload_n (pc := 34) C rfl 3 rfl dX5_edge_34 ?_
        refine zv_iload_n (pc := 35) C rfl 4 rfl dX5_edge_35 ?_
        refine zv_iload (pc := 36) C 5 rfl dX5_edge_36 ?_
        refine zv_cv0 (pc := 38) (ws' := (fun uz : zMem => (zd_X5_edge cI adO qO3 qO4 qO5 qO6 adP0 qP00 qP01 qP02 qP03 qP04 adP1 qP10 qP11 qP12 qP13 qP14 oO2 oO7 oO8 oO9 oO10 oO11 O P0 uz))) C (zv_runV (As := [.int wh, .int up, .int lo]) (b := adP1) (rest := []) (ci := 2) (q0 := 11) C (zc_X3_setEdge l G cI adP1 qP10 qP11 qP12 qP13 qP14 P1 wh up lo _ hF) (cwV 3 C.2.2.2.2.1 gX5_edge_X3_setEdge rfl rfl rfl zy_X3_setEdge ⟨Nat.le_of_ble_eq_true rfl, Nat.le_of_ble_eq_true rfl⟩) rfl rfl rfl rfl rfl (Nat.le_of_ble_eq_true rfl) ⟨Nat.zero_le _, Nat.zero_le _⟩ dX5_edge_38) [11, 12, 13, 14, 15, 16] [0, 1, 2, 3, 4, 5, 6, 7, 8, 9, 10] rfl rfl rfl rfl rfl (fun _ => rfl) (fun _ => rfl) (fun _ => rfl) (fun uz hF => ?_)
        obtain ⟨T_8, hE⟩ : ∃ z, z = uz := ⟨_, rfl⟩; subst hE
        refine zx_ret (mc := 1) (ms := 6) (Nat.le_of_ble_eq_true rfl) (Nat.le_of_ble_eq_true rfl) ?_
        exact zv_vret (pc := 41) C hr hlk (P0, T_8) hF rfl dX5_edge_41
      · replace hF := And.right hF c_7
        exact zx_throw (pc := 16) (cls := "java/lang/IllegalArgumentException") (text := "an edge is 0, the air, or 1, the ground") (ik := 76) (is := 78) (ic := 80) C hB hT hlt hlk rfl (by decide +kernel) (List.mem_of_getElem? (i := 1) rfl) (List.mem_of_getElem? (i := 1) rfl) (List.mem_of_getElem? (i := 2) rfl) (fun w h => List.mem_cons_of_mem _ (List.mem_append_left _ (List.mem_append_right _ h))) zxb_80 zxg_76_80 dX5_edge_16 dX5_edge_19 dX5_edge_20 dX5_edge_22 dX5_edge_25 (Nat.le_of_ble_eq_true rfl) (Nat.le_of_ble_eq_true rfl) (Nat.le_of_ble_eq_true rfl) (Nat.le_of_ble_eq_true rfl) (Nat.le_of_ble_eq_true rfl) (Nat.le_of_ble_eq_true rfl) rfl (Or.inr (⟨rfl, hF⟩))
theorem zf_X5_layer_93 : Cond.fieldLink RX5 93 "GlassStack$Pile" "count" "I" ∈ wsX5_layer := (List.mem_of_getElem? (i := 3) rfl)
theorem zi_X5_layer_X3 : ∀ w ∈ wsX30, w ∈ wsX5_layer := fun w h => List.mem_cons_of_mem _ (List.mem_append_left _ (List.mem_append_left _ (List.mem_append_left _ (List.mem_append_right _ h))))
theorem zy_X5_layer : yX5_layer.cls = RX5 ∧ yX5_layer.cls ≠ "java/lang/invoke/MethodHandle" ∧ yX5_layer.cls ≠ "java/lang/invoke/VarHandle" ∧ (parseMethodDescriptor yX5_layer.desc).map (fun d => d.parameters.length) = some 5 := by decide +kernel
set_option maxHeartbeats 4000000 in
set_option maxRecDepth 100000 in
theorem zc_X5_layer (l : Launch) (hlt : l.stackTraces = false) (G : va_G) (cI : ClassId) (adO qO3 qO4 qO5 qO6 adP0 qP00 qP01 qP02 qP03 qP04 adP1 qP10 qP11 qP12 qP13 qP14 oO2 oO7 oO8 oO9 oO10 oO11 : Nat) (O : zMem) (P0 : zMem) (P1 : zMem) (st : Int32) (i : Int32) (up : Int32) (lo : Int32) (wi : Int32) (post : Int32 → zMem → zMem → Prop) (PXI PXA : Prop) (hF : zw_X5_layer O P0 P1 st i up lo wi post PXI PXA) (sz : Nat) : vx_Met l yX5_layer wsX5_layer rmX5_layer (va_Pc [.ref adO, .int st, .int i, .int up, .int lo, .int wi] (zx_in G cI (zd_X5_layer cI adO qO3 qO4 qO5 qO6 adP0 qP00 qP01 qP02 qP03 qP04 adP1 qP10 qP11 qP12 qP13 qP14 oO2 oO7 oO8 oO9 oO10 oO11 O P0 P1) sz)) (va_Qi (fun (rz : Int32) (uz : zMem × zMem) => post rz uz.1 uz.2) (fun (uz : zMem × zMem) t => zv_out G cI (va_A (zd_X5_layer cI adO qO3 qO4 qO5 qO6 adP0 qP00 qP01 qP02 qP03 qP04 adP1 qP10 qP11 qP12 qP13 qP14 oO2 oO7 oO8 oO9 oO10 oO11 O P0 P1) sz) (zd_X5_layer cI adO qO3 qO4 qO5 qO6 adP0 qP00 qP01 qP02 qP03 qP04 adP1 qP10 qP11 qP12 qP13 qP14 oO2 oO7 oO8 oO9 oO10 oO11 O uz.1 uz.2) t) (va_A (zd_X5_layer cI adO qO3 qO4 qO5 qO6 adP0 qP00 qP01 qP02 qP03 qP04 adP1 qP10 qP11 qP12 qP13 qP14 oO2 oO7 oO8 oO9 oO10 oO11 O P0 P1) sz)) (zx_X G cI (va_A (zd_X5_layer cI adO qO3 qO4 qO5 qO6 adP0 qP00 qP01 qP02 qP03 qP04 adP1 qP10 qP11 qP12 qP13 qP14 oO2 oO7 oO8 oO9 oO10 oO11 O P0 P1) sz) (zd_X5_layer cI adO qO3 qO4 qO5 qO6 adP0 qP00 qP01 qP02 qP03 qP04 adP1 qP10 qP11 qP12 qP13 qP14 oO2 oO7 oO8 oO9 oO10 oO11 O P0 P1) (fun E => (E = "java/lang/IndexOutOfBoundsException" ∧ PXI) ∨ (E = "java/lang/IllegalArgumentException" ∧ PXA))) 1 6 (va_A (zd_X5_layer cI adO qO3 qO4 qO5 qO6 adP0 qP00 qP01 qP02 qP03 qP04 adP1 qP10 qP11 qP12 qP13 qP14 oO2 oO7 oO8 oO9 oO10 oO11 O P0 P1) sz) := by
  refine zx_met (cc := cX5_layer) (maxL := 7) (ret := (some .int)) (lv0 := [(0, .ref adO), (1, .int st), (2, .int i), (3, .int up), (4, .int lo), (5, .int wi)]) (Qc := fun A => va_Qi (fun (rz : Int32) (uz : zMem × zMem) => post rz uz.1 uz.2) (fun (uz : zMem × zMem) t => zv_out G cI A (zd_X5_layer cI adO qO3 qO4 qO5 qO6 adP0 qP00 qP01 qP02 qP03 qP04 adP1 qP10 qP11 qP12 qP13 qP14 oO2 oO7 oO8 oO9 oO10 oO11 O uz.1 uz.2) t) A) (XC := fun A => zx_X G cI A (zd_X5_layer cI adO qO3 qO4 qO5 qO6 adP0 qP00 qP01 qP02 qP03 qP04 adP1 qP10 qP11 qP12 qP13 qP14 oO2 oO7 oO8 oO9 oO10 oO11 O P0 P1) (fun E => (E = "java/lang/IndexOutOfBoundsException" ∧ PXI) ∨ (E = "java/lang/IllegalArgumentException" ∧ PXA))) (by decide) rfl (Nat.le_of_ble_eq_true rfl) rfl ?_ sz
  intro p e s m below meth c A C hB hT hr hlk
  clear sz
  refine zv_aload_n (pc := 0) C rfl 0 rfl dX5_layer_0 ?_
  refine zv_iload_n (pc := 1) C rfl 1 rfl dX5_layer_1 ?_
  refine zu_cr (pc := 2) (mc := 1) (ms := 6) C hT hlk rfl (Nat.le_of_ble_eq_true rfl) (Nat.le_of_ble_eq_true rfl) (fun _ h => Or.inl (h)) (zu_runV (As := [.int st]) (b := adO) (rest := []) (ci := 4) (q0 := 0) C hB (zc_X5_pileAt l hlt G cI adO qO3 qO4 qO5 qO6 adP0 adP1 oO2 oO7 oO8 oO9 oO10 oO11 O st _ _ _ hF) (cwV 1 C.2.2.2.2.1 gX5_layer_X5_pileAt rfl rfl rfl zy_X5_pileAt ⟨(Nat.le_of_ble_eq_true rfl), (Nat.le_of_ble_eq_true rfl)⟩) [0, 1, 2, 3, 4] rfl rfl rfl rfl rfl rfl (Nat.le_of_ble_eq_true rfl) ⟨(Nat.le_of_ble_eq_true rfl), (Nat.le_of_ble_eq_true rfl)⟩ dX5_layer_2) (fun u ra hF hra => ?_)
  rcases hF with ⟨rfl, hF⟩ | ⟨rfl, hF⟩
  · have hra2 : adP0 = ra := hra.symm
    subst hra2
    refine zv_astore (pc := 5) (lv' := [(6, .ref adP0), (0, .ref adO), (1, .int st), (2, .int i), (3, .int up), (4, .int lo), (5, .int wi)]) C (by decide) rfl dX5_layer_5 ?_
    refine zv_iload_n (pc := 7) C rfl 4 rfl dX5_layer_7 ?_
    refine zv_iload (pc := 8) C 5 rfl dX5_layer_8 ?_
    refine zu_cv (pc := 10) (mc := 1) (ms := 6) C hT hlk rfl (Nat.le_of_ble_eq_true rfl) (Nat.le_of_ble_eq_true rfl) (fun _ h => Or.inr (h)) (zu_runS (As := [.int up, .int lo]) (rest := []) C hB (zc_X5_needIndex l hlt G cI up lo _ _ hF) (va_cwS 2 C.2.2.2.2.1 gX5_layer_X5_needIndex rfl rfl rfl zy_X5_needIndex ⟨(Nat.le_of_ble_eq_true rfl), (Nat.le_of_ble_eq_true rfl)⟩) rfl rfl (Nat.le_of_ble_eq_true rfl) ⟨(Nat.le_of_ble_eq_true rfl), (Nat.le_of_ble_eq_true rfl)⟩ dX5_layer_10) (fun hF => ?_)
    refine zv_iload (pc := 13) C 6 rfl dX5_layer_13 ?_
    refine zv_iconst (pc := 15) (v := 1) C (by decide) dX5_layer_15 ?_
    refine zv_icmp_lt (pc := 16) (tgt := 25) C dX5_layer_16 (by decide) (fun c_1 => ?_) (fun c_1 => ?_)
    · replace hF := And.left hF c_1
      exact zx_throw (pc := 25) (cls := "java/lang/IllegalArgumentException") (text := "a width is 1 to 4") (ik := 76) (is := 91) (ic := 80) C hB hT hlt hlk rfl (by decide +kernel) (List.mem_of_getElem? (i := 3) rfl) (List.mem_of_getElem? (i := 1) rfl) (List.mem_of_getElem? (i := 2) rfl) (fun w h => List.mem_cons_of_mem _ (List.mem_append_left _ (List.mem_append_right _ h))) zxb_80 zxg_76_80 dX5_layer_25 dX5_layer_28 dX5_layer_29 dX5_layer_31 dX5_layer_34 (Nat.le_of_ble_eq_true rfl) (Nat.le_of_ble_eq_true rfl) (Nat.le_of_ble_eq_true rfl) (Nat.le_of_ble_eq_true rfl) (Nat.le_of_ble_eq_true rfl) (Nat.le_of_ble_eq_true rfl) rfl (Or.inr (⟨rfl, hF⟩))
    · replace hF := And.right hF c_1
      refine zv_iload (pc := 19) C 6 rfl dX5_layer_19 ?_
      refine zv_iconst (pc := 21) (v := 4) C (by decide) dX5_layer_21 ?_
      refine zv_icmp_le (pc := 22) (tgt := 35) C dX5_layer_22 (by decide) (fun c_2 => ?_) (fun c_2 => ?_)
      · replace hF := And.left hF c_2
        refine zv_iload_n (pc := 35) C rfl 3 rfl dX5_layer_35 ?_
        refine zv_if_lt (pc := 36) (tgt := 48) C dX5_layer_36 (by decide) (fun c_3 => ?_) (fun c_3 => ?_)
        · replace hF := And.left hF c_3
          exact zx_throw (pc := 48) (cls := "java/lang/IllegalArgumentException") (text := "no such place") (ik := 76) (is := 96) (ic := 80) C hB hT hlt hlk rfl (by decide +kernel) (List.mem_of_getElem? (i := 4) rfl) (List.mem_of_getElem? (i := 1) rfl) (List.mem_of_getElem? (i := 2) rfl) (fun w h => List.mem_cons_of_mem _ (List.mem_append_left _ (List.mem_append_right _ h))) zxb_80 zxg_76_80 dX5_layer_48 dX5_layer_51 dX5_layer_52 dX5_layer_54 dX5_layer_57 (Nat.le_of_ble_eq_true rfl) (Nat.le_of_ble_eq_true rfl) (Nat.le_of_ble_eq_true rfl) (Nat.le_of_ble_eq_true rfl) (Nat.le_of_ble_eq_true rfl) (Nat.le_of_ble_eq_true rfl) rfl (Or.inr (⟨rfl, hF⟩))
        · replace hF := And.right hF c_3
          refine zv_iload_n (pc := 39) C rfl 3 rfl dX5_layer_39 ?_
          refine zv_aload (pc := 40) C 0 rfl dX5_layer_40 ?_
          refine zv_get (pc := 42) (CC := RX3) (T := TX3) (N := 6) (ci := 2) (v := .int (P0 5 0)) C zi_X5_layer_X3 5 rfl 5 (by decide) zf_X5_layer_93 rfl rfl dX5_layer_42 ?_
          refine zv_icmp_le (pc := 45) (tgt := 58) C dX5_layer_45 (by decide) (fun c_4 => ?_) (fun c_4 => ?_)
          · replace hF := And.left hF c_4
            refine zv_aload (pc := 58) C 0 rfl dX5_layer_58 ?_
            refine zv_iload_n (pc := 60) C rfl 3 rfl dX5_layer_60 ?_
            refine zv_iload_n (pc := 61) C rfl 4 rfl dX5_layer_61 ?_
            refine zv_iload (pc := 62) C 5 rfl dX5_layer_62 ?_
            refine zv_iload (pc := 64) C 6 rfl dX5_layer_64 ?_
            refine zv_ci0 (pc := 66) (ws' := (fun uz : zMem => (zd_X5_layer cI adO qO3 qO4 qO5 qO6 adP0 qP00 qP01 qP02 qP03 qP04 adP1 qP10 qP11 qP12 qP13 qP14 oO2 oO7 oO8 oO9 oO10 oO11 O uz P1))) C (zv_runV (As := [.int i, .int up, .int lo, .int wi]) (b := adP0) (rest := []) (ci := 2) (q0 := 5) C (zc_X3_insert l G cI adP0 qP00 qP01 qP02 qP03 qP04 P0 i up lo wi _ hF) (cwV 4 C.2.2.2.2.1 gX5_layer_X3_insert rfl rfl rfl zy_X3_insert ⟨Nat.le_of_ble_eq_true rfl, Nat.le_of_ble_eq_true rfl⟩) rfl rfl rfl rfl rfl (Nat.le_of_ble_eq_true rfl) ⟨Nat.zero_le _, Nat.zero_le _⟩ dX5_layer_66) [5, 6, 7, 8, 9, 10] [0, 1, 2, 3, 4, 11, 12, 13, 14, 15, 16] rfl rfl rfl rfl rfl (fun _ => rfl) (fun _ => rfl) (fun _ => rfl) (fun v_6 uz hF => ?_)
            obtain ⟨T_5, hE⟩ : ∃ z, z = uz := ⟨_, rfl⟩; subst hE
            refine zv_if_eq (pc := 69) (tgt := 80) C dX5_layer_69 (by decide) (fun c_7 => ?_) (fun c_7 => ?_)
            · replace hF := And.left hF c_7
              refine zv_iconst (pc := 80) (v := -1) C (by decide) dX5_layer_80 ?_
              refine zx_ret (mc := 1) (ms := 6) (Nat.le_of_ble_eq_true rfl) (Nat.le_of_ble_eq_true rfl) ?_
              exact zv_iret (pc := 81) C hr hlk (-1 : Int32) (T_5, P1) hF rfl dX5_layer_81
            · replace hF := And.right hF c_7
              refine zv_aload (pc := 72) C 0 rfl dX5_layer_72 ?_
              refine zv_get (pc := 74) (CC := RX3) (T := TX3) (N := 6) (ci := 2) (v := .int (T_5 5 0)) C zi_X5_layer_X3 5 rfl 5 (by decide) zf_X5_layer_93 rfl rfl dX5_layer_74 ?_
              refine zv_goto (pc := 77) (tgt := 81) C dX5_layer_77 (by decide) ?_
              refine zx_ret (mc := 1) (ms := 6) (Nat.le_of_ble_eq_true rfl) (Nat.le_of_ble_eq_true rfl) ?_
              exact zv_iret (pc := 81) C hr hlk (T_5 5 0) (T_5, P1) hF rfl dX5_layer_81
          · replace hF := And.right hF c_4
            exact zx_throw (pc := 48) (cls := "java/lang/IllegalArgumentException") (text := "no such place") (ik := 76) (is := 96) (ic := 80) C hB hT hlt hlk rfl (by decide +kernel) (List.mem_of_getElem? (i := 4) rfl) (List.mem_of_getElem? (i := 1) rfl) (List.mem_of_getElem? (i := 2) rfl) (fun w h => List.mem_cons_of_mem _ (List.mem_append_left _ (List.mem_append_right _ h))) zxb_80 zxg_76_80 dX5_layer_48 dX5_layer_51 dX5_layer_52 dX5_layer_54 dX5_layer_57 (Nat.le_of_ble_eq_true rfl) (Nat.le_of_ble_eq_true rfl) (Nat.le_of_ble_eq_true rfl) (Nat.le_of_ble_eq_true rfl) (Nat.le_of_ble_eq_true rfl) (Nat.le_of_ble_eq_true rfl) rfl (Or.inr (⟨rfl, hF⟩))
      · replace hF := And.right hF c_2
        exact zx_throw (pc := 25) (cls := "java/lang/IllegalArgumentException") (text := "a width is 1 to 4") (ik := 76) (is := 91) (ic := 80) C hB hT hlt hlk rfl (by decide +kernel) (List.mem_of_getElem? (i := 3) rfl) (List.mem_of_getElem? (i := 1) rfl) (List.mem_of_getElem? (i := 2) rfl) (fun w h => List.mem_cons_of_mem _ (List.mem_append_left _ (List.mem_append_right _ h))) zxb_80 zxg_76_80 dX5_layer_25 dX5_layer_28 dX5_layer_29 dX5_layer_31 dX5_layer_34 (Nat.le_of_ble_eq_true rfl) (Nat.le_of_ble_eq_true rfl) (Nat.le_of_ble_eq_true rfl) (Nat.le_of_ble_eq_true rfl) (Nat.le_of_ble_eq_true rfl) (Nat.le_of_ble_eq_true rfl) rfl (Or.inr (⟨rfl, hF⟩))
  · have hra2 : adP1 = ra := hra.symm
    subst hra2
    refine zv_astore (pc := 5) (lv' := [(6, .ref adP1), (0, .ref adO), (1, .int st), (2, .int i), (3, .int up), (4, .int lo), (5, .int wi)]) C (by decide) rfl dX5_layer_5 ?_
    refine zv_iload_n (pc := 7) C rfl 4 rfl dX5_layer_7 ?_
    refine zv_iload (pc := 8) C 5 rfl dX5_layer_8 ?_
    refine zu_cv (pc := 10) (mc := 1) (ms := 6) C hT hlk rfl (Nat.le_of_ble_eq_true rfl) (Nat.le_of_ble_eq_true rfl) (fun _ h => Or.inr (h)) (zu_runS (As := [.int up, .int lo]) (rest := []) C hB (zc_X5_needIndex l hlt G cI up lo _ _ hF) (va_cwS 2 C.2.2.2.2.1 gX5_layer_X5_needIndex rfl rfl rfl zy_X5_needIndex ⟨(Nat.le_of_ble_eq_true rfl), (Nat.le_of_ble_eq_true rfl)⟩) rfl rfl (Nat.le_of_ble_eq_true rfl) ⟨(Nat.le_of_ble_eq_true rfl), (Nat.le_of_ble_eq_true rfl)⟩ dX5_layer_10) (fun hF => ?_)
    refine zv_iload (pc := 13) C 6 rfl dX5_layer_13 ?_
    refine zv_iconst (pc := 15) (v := 1) C (by decide) dX5_layer_15 ?_
    refine zv_icmp_lt (pc := 16) (tgt := 25) C dX5_layer_16 (by decide) (fun c_8 => ?_) (fun c_8 => ?_)
    · replace hF := And.left hF c_8
      exact zx_throw (pc := 25) (cls := "java/lang/IllegalArgumentException") (text := "a width is 1 to 4") (ik := 76) (is := 91) (ic := 80) C hB hT hlt hlk rfl (by decide +kernel) (List.mem_of_getElem? (i := 3) rfl) (List.mem_of_getElem? (i := 1) rfl) (List.mem_of_getElem? (i := 2) rfl) (fun w h => List.mem_cons_of_mem _ (List.mem_append_left _ (List.mem_append_right _ h))) zxb_80 zxg_76_80 dX5_layer_25 dX5_layer_28 dX5_layer_29 dX5_layer_31 dX5_layer_34 (Nat.le_of_ble_eq_true rfl) (Nat.le_of_ble_eq_true rfl) (Nat.le_of_ble_eq_true rfl) (Nat.le_of_ble_eq_true rfl) (Nat.le_of_ble_eq_true rfl) (Nat.le_of_ble_eq_true rfl) rfl (Or.inr (⟨rfl, hF⟩))
    · replace hF := And.right hF c_8
      refine zv_iload (pc := 19) C 6 rfl dX5_layer_19 ?_
      refine zv_iconst (pc := 21) (v := 4) C (by decide) dX5_layer_21 ?_
      refine zv_icmp_le (pc := 22) (tgt := 35) C dX5_layer_22 (by decide) (fun c_9 => ?_) (fun c_9 => ?_)
      · replace hF := And.left hF c_9
        refine zv_iload_n (pc := 35) C rfl 3 rfl dX5_layer_35 ?_
        refine zv_if_lt (pc := 36) (tgt := 48) C dX5_layer_36 (by decide) (fun c_10 => ?_) (fun c_10 => ?_)
        · replace hF := And.left hF c_10
          exact zx_throw (pc := 48) (cls := "java/lang/IllegalArgumentException") (text := "no such place") (ik := 76) (is := 96) (ic := 80) C hB hT hlt hlk rfl (by decide +kernel) (List.mem_of_getElem? (i := 4) rfl) (List.mem_of_getElem? (i := 1) rfl) (List.mem_of_getElem? (i := 2) rfl) (fun w h => List.mem_cons_of_mem _ (List.mem_append_left _ (List.mem_append_right _ h))) zxb_80 zxg_76_80 dX5_layer_48 dX5_layer_51 dX5_layer_52 dX5_layer_54 dX5_layer_57 (Nat.le_of_ble_eq_true rfl) (Nat.le_of_ble_eq_true rfl) (Nat.le_of_ble_eq_true rfl) (Nat.le_of_ble_eq_true rfl) (Nat.le_of_ble_eq_true rfl) (Nat.le_of_ble_eq_true rfl) rfl (Or.inr (⟨rfl, hF⟩))
        · replace hF := And.right hF c_10
          refine zv_iload_n (pc := 39) C rfl 3 rfl dX5_layer_39 ?_
          refine zv_aload (pc := 40) C 0 rfl dX5_layer_40 ?_
          refine zv_get (pc := 42) (CC := RX3) (T := TX3) (N := 6) (ci := 2) (v := .int (P1 5 0)) C zi_X5_layer_X3 11 rfl 5 (by decide) zf_X5_layer_93 rfl rfl dX5_layer_42 ?_
          refine zv_icmp_le (pc := 45) (tgt := 58) C dX5_layer_45 (by decide) (fun c_11 => ?_) (fun c_11 => ?_)
          · replace hF := And.left hF c_11
            refine zv_aload (pc := 58) C 0 rfl dX5_layer_58 ?_
            refine zv_iload_n (pc := 60) C rfl 3 rfl dX5_layer_60 ?_
            refine zv_iload_n (pc := 61) C rfl 4 rfl dX5_layer_61 ?_
            refine zv_iload (pc := 62) C 5 rfl dX5_layer_62 ?_
            refine zv_iload (pc := 64) C 6 rfl dX5_layer_64 ?_
            refine zv_ci0 (pc := 66) (ws' := (fun uz : zMem => (zd_X5_layer cI adO qO3 qO4 qO5 qO6 adP0 qP00 qP01 qP02 qP03 qP04 adP1 qP10 qP11 qP12 qP13 qP14 oO2 oO7 oO8 oO9 oO10 oO11 O P0 uz))) C (zv_runV (As := [.int i, .int up, .int lo, .int wi]) (b := adP1) (rest := []) (ci := 2) (q0 := 11) C (zc_X3_insert l G cI adP1 qP10 qP11 qP12 qP13 qP14 P1 i up lo wi _ hF) (cwV 4 C.2.2.2.2.1 gX5_layer_X3_insert rfl rfl rfl zy_X3_insert ⟨Nat.le_of_ble_eq_true rfl, Nat.le_of_ble_eq_true rfl⟩) rfl rfl rfl rfl rfl (Nat.le_of_ble_eq_true rfl) ⟨Nat.zero_le _, Nat.zero_le _⟩ dX5_layer_66) [11, 12, 13, 14, 15, 16] [0, 1, 2, 3, 4, 5, 6, 7, 8, 9, 10] rfl rfl rfl rfl rfl (fun _ => rfl) (fun _ => rfl) (fun _ => rfl) (fun v_13 uz hF => ?_)
            obtain ⟨T_12, hE⟩ : ∃ z, z = uz := ⟨_, rfl⟩; subst hE
            refine zv_if_eq (pc := 69) (tgt := 80) C dX5_layer_69 (by decide) (fun c_14 => ?_) (fun c_14 => ?_)
            · replace hF := And.left hF c_14
              refine zv_iconst (pc := 80) (v := -1) C (by decide) dX5_layer_80 ?_
              refine zx_ret (mc := 1) (ms := 6) (Nat.le_of_ble_eq_true rfl) (Nat.le_of_ble_eq_true rfl) ?_
              exact zv_iret (pc := 81) C hr hlk (-1 : Int32) (P0, T_12) hF rfl dX5_layer_81
            · replace hF := And.right hF c_14
              refine zv_aload (pc := 72) C 0 rfl dX5_layer_72 ?_
              refine zv_get (pc := 74) (CC := RX3) (T := TX3) (N := 6) (ci := 2) (v := .int (T_12 5 0)) C zi_X5_layer_X3 11 rfl 5 (by decide) zf_X5_layer_93 rfl rfl dX5_layer_74 ?_
              refine zv_goto (pc := 77) (tgt := 81) C dX5_layer_77 (by decide) ?_
              refine zx_ret (mc := 1) (ms := 6) (Nat.le_of_ble_eq_true rfl) (Nat.le_of_ble_eq_true rfl) ?_
              exact zv_iret (pc := 81) C hr hlk (T_12 5 0) (P0, T_12) hF rfl dX5_layer_81
          · replace hF := And.right hF c_11
            exact zx_throw (pc := 48) (cls := "java/lang/IllegalArgumentException") (text := "no such place") (ik := 76) (is := 96) (ic := 80) C hB hT hlt hlk rfl (by decide +kernel) (List.mem_of_getElem? (i := 4) rfl) (List.mem_of_getElem? (i := 1) rfl) (List.mem_of_getElem? (i := 2) rfl) (fun w h => List.mem_cons_of_mem _ (List.mem_append_left _ (List.mem_append_right _ h))) zxb_80 zxg_76_80 dX5_layer_48 dX5_layer_51 dX5_layer_52 dX5_layer_54 dX5_layer_57 (Nat.le_of_ble_eq_true rfl) (Nat.le_of_ble_eq_true rfl) (Nat.le_of_ble_eq_true rfl) (Nat.le_of_ble_eq_true rfl) (Nat.le_of_ble_eq_true rfl) (Nat.le_of_ble_eq_true rfl) rfl (Or.inr (⟨rfl, hF⟩))
      · replace hF := And.right hF c_9
        exact zx_throw (pc := 25) (cls := "java/lang/IllegalArgumentException") (text := "a width is 1 to 4") (ik := 76) (is := 91) (ic := 80) C hB hT hlt hlk rfl (by decide +kernel) (List.mem_of_getElem? (i := 3) rfl) (List.mem_of_getElem? (i := 1) rfl) (List.mem_of_getElem? (i := 2) rfl) (fun w h => List.mem_cons_of_mem _ (List.mem_append_left _ (List.mem_append_right _ h))) zxb_80 zxg_76_80 dX5_layer_25 dX5_layer_28 dX5_layer_29 dX5_layer_31 dX5_layer_34 (Nat.le_of_ble_eq_true rfl) (Nat.le_of_ble_eq_true rfl) (Nat.le_of_ble_eq_true rfl) (Nat.le_of_ble_eq_true rfl) (Nat.le_of_ble_eq_true rfl) (Nat.le_of_ble_eq_true rfl) rfl (Or.inr (⟨rfl, hF⟩))
theorem zy_X5_turn : yX5_turn.cls = RX5 ∧ yX5_turn.cls ≠ "java/lang/invoke/MethodHandle" ∧ yX5_turn.cls ≠ "java/lang/invoke/VarHandle" ∧ (parseMethodDescriptor yX5_turn.desc).map (fun d => d.parameters.length) = some 1 := by decide +kernel
set_option maxHeartbeats 4000000 in
set_option maxRecDepth 100000 in
theorem zc_X5_turn (l : Launch) (hlt : l.stackTraces = false) (G : va_G) (cI : ClassId) (adO qO3 qO4 qO5 qO6 adP0 qP00 qP01 qP02 qP03 qP04 adP1 qP10 qP11 qP12 qP13 qP14 oO2 oO7 oO8 oO9 oO10 oO11 : Nat) (O : zMem) (P0 : zMem) (P1 : zMem) (st : Int32) (post : zMem → zMem → Prop) (PXI : Prop) (hF : zw_X5_turn O P0 P1 st post PXI) (sz : Nat) : vx_Met l yX5_turn wsX5_turn rmX5_turn (va_Pc [.ref adO, .int st] (zx_in G cI (zd_X5_turn cI adO qO3 qO4 qO5 qO6 adP0 qP00 qP01 qP02 qP03 qP04 adP1 qP10 qP11 qP12 qP13 qP14 oO2 oO7 oO8 oO9 oO10 oO11 O P0 P1) sz)) (va_Qv (fun uz : zMem × zMem => post uz.1 uz.2) (fun (uz : zMem × zMem) t => zv_out G cI (va_A (zd_X5_turn cI adO qO3 qO4 qO5 qO6 adP0 qP00 qP01 qP02 qP03 qP04 adP1 qP10 qP11 qP12 qP13 qP14 oO2 oO7 oO8 oO9 oO10 oO11 O P0 P1) sz) (zd_X5_turn cI adO qO3 qO4 qO5 qO6 adP0 qP00 qP01 qP02 qP03 qP04 adP1 qP10 qP11 qP12 qP13 qP14 oO2 oO7 oO8 oO9 oO10 oO11 O uz.1 uz.2) t) (va_A (zd_X5_turn cI adO qO3 qO4 qO5 qO6 adP0 qP00 qP01 qP02 qP03 qP04 adP1 qP10 qP11 qP12 qP13 qP14 oO2 oO7 oO8 oO9 oO10 oO11 O P0 P1) sz)) (zx_X G cI (va_A (zd_X5_turn cI adO qO3 qO4 qO5 qO6 adP0 qP00 qP01 qP02 qP03 qP04 adP1 qP10 qP11 qP12 qP13 qP14 oO2 oO7 oO8 oO9 oO10 oO11 O P0 P1) sz) (zd_X5_turn cI adO qO3 qO4 qO5 qO6 adP0 qP00 qP01 qP02 qP03 qP04 adP1 qP10 qP11 qP12 qP13 qP14 oO2 oO7 oO8 oO9 oO10 oO11 O P0 P1) (fun E => (E = "java/lang/IndexOutOfBoundsException" ∧ PXI))) 1 6 (va_A (zd_X5_turn cI adO qO3 qO4 qO5 qO6 adP0 qP00 qP01 qP02 qP03 qP04 adP1 qP10 qP11 qP12 qP13 qP14 oO2 oO7 oO8 oO9 oO10 oO11 O P0 P1) sz) := by
  refine zx_met (cc := cX5_turn) (maxL := 2) (ret := none) (lv0 := [(0, .ref adO), (1, .int st)]) (Qc := fun A => va_Qv (fun uz : zMem × zMem => post uz.1 uz.2) (fun (uz : zMem × zMem) t => zv_out G cI A (zd_X5_turn cI adO qO3 qO4 qO5 qO6 adP0 qP00 qP01 qP02 qP03 qP04 adP1 qP10 qP11 qP12 qP13 qP14 oO2 oO7 oO8 oO9 oO10 oO11 O uz.1 uz.2) t) A) (XC := fun A => zx_X G cI A (zd_X5_turn cI adO qO3 qO4 qO5 qO6 adP0 qP00 qP01 qP02 qP03 qP04 adP1 qP10 qP11 qP12 qP13 qP14 oO2 oO7 oO8 oO9 oO10 oO11 O P0 P1) (fun E => (E = "java/lang/IndexOutOfBoundsException" ∧ PXI))) (by decide) rfl (Nat.le_of_ble_eq_true rfl) rfl ?_ sz
  intro p e s m below meth c A C hB hT hr hlk
  clear sz
  refine zv_aload_n (pc := 0) C rfl 0 rfl dX5_turn_0 ?_
  refine zv_iload_n (pc := 1) C rfl 1 rfl dX5_turn_1 ?_
  refine zu_cr (pc := 2) (mc := 1) (ms := 6) C hT hlk rfl (Nat.le_of_ble_eq_true rfl) (Nat.le_of_ble_eq_true rfl) (fun _ h => h) (zu_runV (As := [.int st]) (b := adO) (rest := []) (ci := 4) (q0 := 0) C hB (zc_X5_pileAt l hlt G cI adO qO3 qO4 qO5 qO6 adP0 adP1 oO2 oO7 oO8 oO9 oO10 oO11 O st _ _ _ hF) (cwV 1 C.2.2.2.2.1 gX5_turn_X5_pileAt rfl rfl rfl zy_X5_pileAt ⟨(Nat.le_of_ble_eq_true rfl), (Nat.le_of_ble_eq_true rfl)⟩) [0, 1, 2, 3, 4] rfl rfl rfl rfl rfl rfl (Nat.le_of_ble_eq_true rfl) ⟨(Nat.le_of_ble_eq_true rfl), (Nat.le_of_ble_eq_true rfl)⟩ dX5_turn_2) (fun u ra hF hra => ?_)
  rcases hF with ⟨rfl, hF⟩ | ⟨rfl, hF⟩
  · have hra2 : adP0 = ra := hra.symm
    subst hra2
    refine zv_cv0 (pc := 5) (ws' := (fun uz : zMem => (zd_X5_turn cI adO qO3 qO4 qO5 qO6 adP0 qP00 qP01 qP02 qP03 qP04 adP1 qP10 qP11 qP12 qP13 qP14 oO2 oO7 oO8 oO9 oO10 oO11 O uz P1))) C (zv_runV (As := []) (b := adP0) (rest := []) (ci := 2) (q0 := 5) C (zc_X3_reverse l G cI adP0 qP00 qP01 qP02 qP03 qP04 P0 _ hF) (cwV 0 C.2.2.2.2.1 gX5_turn_X3_reverse rfl rfl rfl zy_X3_reverse ⟨Nat.le_of_ble_eq_true rfl, Nat.le_of_ble_eq_true rfl⟩) rfl rfl rfl rfl rfl (Nat.le_of_ble_eq_true rfl) ⟨Nat.zero_le _, Nat.zero_le _⟩ dX5_turn_5) [5, 6, 7, 8, 9, 10] [0, 1, 2, 3, 4, 11, 12, 13, 14, 15, 16] rfl rfl rfl rfl rfl (fun _ => rfl) (fun _ => rfl) (fun _ => rfl) (fun uz hF => ?_)
    obtain ⟨T_1, hE⟩ : ∃ z, z = uz := ⟨_, rfl⟩; subst hE
    refine zx_ret (mc := 1) (ms := 6) (Nat.le_of_ble_eq_true rfl) (Nat.le_of_ble_eq_true rfl) ?_
    exact zv_vret (pc := 8) C hr hlk (T_1, P1) hF rfl dX5_turn_8
  · have hra2 : adP1 = ra := hra.symm
    subst hra2
    refine zv_cv0 (pc := 5) (ws' := (fun uz : zMem => (zd_X5_turn cI adO qO3 qO4 qO5 qO6 adP0 qP00 qP01 qP02 qP03 qP04 adP1 qP10 qP11 qP12 qP13 qP14 oO2 oO7 oO8 oO9 oO10 oO11 O P0 uz))) C (zv_runV (As := []) (b := adP1) (rest := []) (ci := 2) (q0 := 11) C (zc_X3_reverse l G cI adP1 qP10 qP11 qP12 qP13 qP14 P1 _ hF) (cwV 0 C.2.2.2.2.1 gX5_turn_X3_reverse rfl rfl rfl zy_X3_reverse ⟨Nat.le_of_ble_eq_true rfl, Nat.le_of_ble_eq_true rfl⟩) rfl rfl rfl rfl rfl (Nat.le_of_ble_eq_true rfl) ⟨Nat.zero_le _, Nat.zero_le _⟩ dX5_turn_5) [11, 12, 13, 14, 15, 16] [0, 1, 2, 3, 4, 5, 6, 7, 8, 9, 10] rfl rfl rfl rfl rfl (fun _ => rfl) (fun _ => rfl) (fun _ => rfl) (fun uz hF => ?_)
    obtain ⟨T_2, hE⟩ : ∃ z, z = uz := ⟨_, rfl⟩; subst hE
    refine zx_ret (mc := 1) (ms := 6) (Nat.le_of_ble_eq_true rfl) (Nat.le_of_ble_eq_true rfl) ?_
    exact zv_vret (pc := 8) C hr hlk (P0, T_2) hF rfl dX5_turn_8
theorem zf_X5_copy_10 : Cond.fieldLink RX5 10 "GlassStack" "pileZero" "LGlassStack$Pile;" ∈ wsX5_copy := (List.mem_of_getElem? (i := 2) rfl)
theorem zf_X5_copy_16 : Cond.fieldLink RX5 16 "GlassStack" "pileOne" "LGlassStack$Pile;" ∈ wsX5_copy := (List.mem_of_getElem? (i := 1) rfl)
theorem zi_X5_copy_X5 : ∀ w ∈ wsX50, w ∈ wsX5_copy := fun w h => List.mem_cons_of_mem _ (List.mem_append_left _ (List.mem_append_left _ (List.mem_append_right _ h)))
theorem zy_X5_copy : yX5_copy.cls = RX5 ∧ yX5_copy.cls ≠ "java/lang/invoke/MethodHandle" ∧ yX5_copy.cls ≠ "java/lang/invoke/VarHandle" ∧ (parseMethodDescriptor yX5_copy.desc).map (fun d => d.parameters.length) = some 1 := by decide +kernel
set_option maxHeartbeats 4000000 in
set_option maxRecDepth 100000 in
theorem zc_X5_copy (l : Launch) (hlt : l.stackTraces = false) (G : va_G) (cI : ClassId) (adO qO3 qO4 qO5 qO6 adP0 qP00 qP01 qP02 qP03 qP04 adP1 qP10 qP11 qP12 qP13 qP14 oO2 oO7 oO8 oO9 oO10 oO11 : Nat) (O : zMem) (P0 : zMem) (P1 : zMem) (st : Int32) (post : zMem → zMem → Prop) (PXI : Prop) (hF : zw_X5_copy O P0 P1 st post PXI) (sz : Nat) : vx_Met l yX5_copy wsX5_copy rmX5_copy (va_Pc [.ref adO, .int st] (zx_in G cI (zd_X5_copy cI adO qO3 qO4 qO5 qO6 adP0 qP00 qP01 qP02 qP03 qP04 adP1 qP10 qP11 qP12 qP13 qP14 oO2 oO7 oO8 oO9 oO10 oO11 O P0 P1) sz)) (va_Qv (fun uz : zMem × zMem => post uz.1 uz.2) (fun (uz : zMem × zMem) t => zv_out G cI (va_A (zd_X5_copy cI adO qO3 qO4 qO5 qO6 adP0 qP00 qP01 qP02 qP03 qP04 adP1 qP10 qP11 qP12 qP13 qP14 oO2 oO7 oO8 oO9 oO10 oO11 O P0 P1) sz) (zd_X5_copy cI adO qO3 qO4 qO5 qO6 adP0 qP00 qP01 qP02 qP03 qP04 adP1 qP10 qP11 qP12 qP13 qP14 oO2 oO7 oO8 oO9 oO10 oO11 O uz.1 uz.2) t) (va_A (zd_X5_copy cI adO qO3 qO4 qO5 qO6 adP0 qP00 qP01 qP02 qP03 qP04 adP1 qP10 qP11 qP12 qP13 qP14 oO2 oO7 oO8 oO9 oO10 oO11 O P0 P1) sz)) (zx_X G cI (va_A (zd_X5_copy cI adO qO3 qO4 qO5 qO6 adP0 qP00 qP01 qP02 qP03 qP04 adP1 qP10 qP11 qP12 qP13 qP14 oO2 oO7 oO8 oO9 oO10 oO11 O P0 P1) sz) (zd_X5_copy cI adO qO3 qO4 qO5 qO6 adP0 qP00 qP01 qP02 qP03 qP04 adP1 qP10 qP11 qP12 qP13 qP14 oO2 oO7 oO8 oO9 oO10 oO11 O P0 P1) (fun E => (E = "java/lang/IndexOutOfBoundsException" ∧ PXI))) 1 6 (va_A (zd_X5_copy cI adO qO3 qO4 qO5 qO6 adP0 qP00 qP01 qP02 qP03 qP04 adP1 qP10 qP11 qP12 qP13 qP14 oO2 oO7 oO8 oO9 oO10 oO11 O P0 P1) sz) := by
  refine zx_met (cc := cX5_copy) (maxL := 4) (ret := none) (lv0 := [(0, .ref adO), (1, .int st)]) (Qc := fun A => va_Qv (fun uz : zMem × zMem => post uz.1 uz.2) (fun (uz : zMem × zMem) t => zv_out G cI A (zd_X5_copy cI adO qO3 qO4 qO5 qO6 adP0 qP00 qP01 qP02 qP03 qP04 adP1 qP10 qP11 qP12 qP13 qP14 oO2 oO7 oO8 oO9 oO10 oO11 O uz.1 uz.2) t) A) (XC := fun A => zx_X G cI A (zd_X5_copy cI adO qO3 qO4 qO5 qO6 adP0 qP00 qP01 qP02 qP03 qP04 adP1 qP10 qP11 qP12 qP13 qP14 oO2 oO7 oO8 oO9 oO10 oO11 O P0 P1) (fun E => (E = "java/lang/IndexOutOfBoundsException" ∧ PXI))) (by decide) rfl (Nat.le_of_ble_eq_true rfl) rfl ?_ sz
  intro p e s m below meth c A C hB hT hr hlk
  clear sz
  refine zv_aload_n (pc := 0) C rfl 0 rfl dX5_copy_0 ?_
  refine zv_iload_n (pc := 1) C rfl 1 rfl dX5_copy_1 ?_
  refine zu_cr (pc := 2) (mc := 1) (ms := 6) C hT hlk rfl (Nat.le_of_ble_eq_true rfl) (Nat.le_of_ble_eq_true rfl) (fun _ h => h) (zu_runV (As := [.int st]) (b := adO) (rest := []) (ci := 4) (q0 := 0) C hB (zc_X5_pileAt l hlt G cI adO qO3 qO4 qO5 qO6 adP0 adP1 oO2 oO7 oO8 oO9 oO10 oO11 O st _ _ _ hF) (cwV 1 C.2.2.2.2.1 gX5_copy_X5_pileAt rfl rfl rfl zy_X5_pileAt ⟨(Nat.le_of_ble_eq_true rfl), (Nat.le_of_ble_eq_true rfl)⟩) [0, 1, 2, 3, 4] rfl rfl rfl rfl rfl rfl (Nat.le_of_ble_eq_true rfl) ⟨(Nat.le_of_ble_eq_true rfl), (Nat.le_of_ble_eq_true rfl)⟩ dX5_copy_2) (fun u ra hF hra => ?_)
  rcases hF with ⟨rfl, hF⟩ | ⟨rfl, hF⟩
  · have hra2 : adP0 = ra := hra.symm
    subst hra2
    refine zv_astore_n (pc := 5) (lv' := [(2, .ref adP0), (0, .ref adO), (1, .int st)]) C rfl (by decide) rfl dX5_copy_5 ?_
    refine zv_iload_n (pc := 6) C rfl 2 rfl dX5_copy_6 ?_
    refine zv_if_ne (pc := 7) (tgt := 17) C dX5_copy_7 (by decide) (fun c_1 => ?_) (fun c_1 => ?_)
    · replace hF := And.left hF c_1
      refine zv_aload_n (pc := 17) C rfl 1 rfl dX5_copy_17 ?_
      refine zv_get (pc := 18) (CC := RX5) (T := TX5) (N := 15) (ci := 4) (v := .ref adP0) C zi_X5_copy_X5 0 rfl 0 (by decide) zf_X5_copy_10 rfl rfl dX5_copy_18 ?_
      refine zv_astore_n (pc := 21) (lv' := [(3, .ref adP0), (2, .ref adP0), (0, .ref adO), (1, .int st)]) C rfl (by decide) rfl dX5_copy_21 ?_
      refine zv_aload_n (pc := 22) C rfl 0 rfl dX5_copy_22 ?_
      refine zv_aload_n (pc := 23) C rfl 1 rfl dX5_copy_23 ?_
      exact (show False from hF).elim
    · replace hF := And.right hF c_1
      refine zv_aload_n (pc := 10) C rfl 1 rfl dX5_copy_10 ?_
      refine zv_get (pc := 11) (CC := RX5) (T := TX5) (N := 15) (ci := 4) (v := .ref adP1) C zi_X5_copy_X5 0 rfl 1 (by decide) zf_X5_copy_16 rfl rfl dX5_copy_11 ?_
      refine zv_goto (pc := 14) (tgt := 21) C dX5_copy_14 (by decide) ?_
      refine zv_astore_n (pc := 21) (lv' := [(3, .ref adP1), (2, .ref adP0), (0, .ref adO), (1, .int st)]) C rfl (by decide) rfl dX5_copy_21 ?_
      refine zv_aload_n (pc := 22) C rfl 0 rfl dX5_copy_22 ?_
      refine zv_aload_n (pc := 23) C rfl 1 rfl dX5_copy_23 ?_
      refine zv_cv0 (pc := 24) (ws' := (fun uz : zMem => (zd_X5_copy cI adO qO3 qO4 qO5 qO6 adP0 qP00 qP01 qP02 qP03 qP04 adP1 qP10 qP11 qP12 qP13 qP14 oO2 oO7 oO8 oO9 oO10 oO11 O P0 uz))) C (zv_runV (As := [.ref adP0]) (b := adP1) (rest := []) (ci := 2) (q0 := 11) C (zc_X3_becomeLike l G cI adP1 qP10 qP11 qP12 qP13 qP14 adP0 qP00 qP01 qP02 qP03 qP04 P1 P0 _ hF) (cwV 1 C.2.2.2.2.1 gX5_copy_X3_becomeLike rfl rfl rfl zy_X3_becomeLike ⟨Nat.le_of_ble_eq_true rfl, Nat.le_of_ble_eq_true rfl⟩) rfl rfl rfl rfl rfl (Nat.le_of_ble_eq_true rfl) ⟨Nat.zero_le _, Nat.zero_le _⟩ dX5_copy_24) [11, 12, 13, 14, 15, 16, 5, 6, 7, 8, 9, 10] [0, 1, 2, 3, 4] rfl rfl rfl rfl rfl (fun _ => rfl) (fun _ => rfl) (fun _ => rfl) (fun uz hF => ?_)
      obtain ⟨T_2, hE⟩ : ∃ z, z = uz := ⟨_, rfl⟩; subst hE
      refine zx_ret (mc := 1) (ms := 6) (Nat.le_of_ble_eq_true rfl) (Nat.le_of_ble_eq_true rfl) ?_
      exact zv_vret (pc := 27) C hr hlk (P0, T_2) hF rfl dX5_copy_27
  · have hra2 : adP1 = ra := hra.symm
    subst hra2
    refine zv_astore_n (pc := 5) (lv' := [(2, .ref adP1), (0, .ref adO), (1, .int st)]) C rfl (by decide) rfl dX5_copy_5 ?_
    refine zv_iload_n (pc := 6) C rfl 2 rfl dX5_copy_6 ?_
    refine zv_if_ne (pc := 7) (tgt := 17) C dX5_copy_7 (by decide) (fun c_3 => ?_) (fun c_3 => ?_)
    · replace hF := And.left hF c_3
      refine zv_aload_n (pc := 17) C rfl 1 rfl dX5_copy_17 ?_
      refine zv_get (pc := 18) (CC := RX5) (T := TX5) (N := 15) (ci := 4) (v := .ref adP0) C zi_X5_copy_X5 0 rfl 0 (by decide) zf_X5_copy_10 rfl rfl dX5_copy_18 ?_
      refine zv_astore_n (pc := 21) (lv' := [(3, .ref adP0), (2, .ref adP1), (0, .ref adO), (1, .int st)]) C rfl (by decide) rfl dX5_copy_21 ?_
      refine zv_aload_n (pc := 22) C rfl 0 rfl dX5_copy_22 ?_
      refine zv_aload_n (pc := 23) C rfl 1 rfl dX5_copy_23 ?_
      refine zv_cv0 (pc := 24) (ws' := (fun uz : zMem => (zd_X5_copy cI adO qO3 qO4 qO5 qO6 adP0 qP00 qP01 qP02 qP03 qP04 adP1 qP10 qP11 qP12 qP13 qP14 oO2 oO7 oO8 oO9 oO10 oO11 O uz P1))) C (zv_runV (As := [.ref adP1]) (b := adP0) (rest := []) (ci := 2) (q0 := 5) C (zc_X3_becomeLike l G cI adP0 qP00 qP01 qP02 qP03 qP04 adP1 qP10 qP11 qP12 qP13 qP14 P0 P1 _ hF) (cwV 1 C.2.2.2.2.1 gX5_copy_X3_becomeLike rfl rfl rfl zy_X3_becomeLike ⟨Nat.le_of_ble_eq_true rfl, Nat.le_of_ble_eq_true rfl⟩) rfl rfl rfl rfl rfl (Nat.le_of_ble_eq_true rfl) ⟨Nat.zero_le _, Nat.zero_le _⟩ dX5_copy_24) [5, 6, 7, 8, 9, 10, 11, 12, 13, 14, 15, 16] [0, 1, 2, 3, 4] rfl rfl rfl rfl rfl (fun _ => rfl) (fun _ => rfl) (fun _ => rfl) (fun uz hF => ?_)
      obtain ⟨T_4, hE⟩ : ∃ z, z = uz := ⟨_, rfl⟩; subst hE
      refine zx_ret (mc := 1) (ms := 6) (Nat.le_of_ble_eq_true rfl) (Nat.le_of_ble_eq_true rfl) ?_
      exact zv_vret (pc := 27) C hr hlk (T_4, P1) hF rfl dX5_copy_27
    · replace hF := And.right hF c_3
      refine zv_aload_n (pc := 10) C rfl 1 rfl dX5_copy_10 ?_
      refine zv_get (pc := 11) (CC := RX5) (T := TX5) (N := 15) (ci := 4) (v := .ref adP1) C zi_X5_copy_X5 0 rfl 1 (by decide) zf_X5_copy_16 rfl rfl dX5_copy_11 ?_
      refine zv_goto (pc := 14) (tgt := 21) C dX5_copy_14 (by decide) ?_
      refine zv_astore_n (pc := 21) (lv' := [(3, .ref adP1), (2, .ref adP1), (0, .ref adO), (1, .int st)]) C rfl (by decide) rfl dX5_copy_21 ?_
      refine zv_aload_n (pc := 22) C rfl 0 rfl dX5_copy_22 ?_
      refine zv_aload_n (pc := 23) C rfl 1 rfl dX5_copy_23 ?_
      exact (show False from hF).elim
theorem zf_X5_light_62 : Cond.fieldLink RX5 62 "GlassStack" "lightUp" "I" ∈ wsX5_light := (List.mem_of_getElem? (i := 3) rfl)
theorem zf_X5_light_66 : Cond.fieldLink RX5 66 "GlassStack" "lightBelow" "I" ∈ wsX5_light := (List.mem_of_getElem? (i := 4) rfl)
theorem zi_X5_light_X5 : ∀ w ∈ wsX50, w ∈ wsX5_light := fun w h => List.mem_cons_of_mem _ (List.mem_append_left _ (List.mem_append_right _ h))
theorem zy_X5_light : yX5_light.cls = RX5 ∧ yX5_light.cls ≠ "java/lang/invoke/MethodHandle" ∧ yX5_light.cls ≠ "java/lang/invoke/VarHandle" ∧ (parseMethodDescriptor yX5_light.desc).map (fun d => d.parameters.length) = some 2 := by decide +kernel
set_option maxHeartbeats 4000000 in
set_option maxRecDepth 100000 in
theorem zc_X5_light (l : Launch) (hlt : l.stackTraces = false) (G : va_G) (cI : ClassId) (adO qO3 qO4 qO5 qO6 oO0 oO1 oO2 oO7 oO8 oO9 oO10 oO11 : Nat) (O : zMem) (uv : Int32) (v : Int32) (post : zMem → Prop) (PXA : Prop) (hF : zw_X5_light O uv v post PXA) (sz : Nat) : vx_Met l yX5_light wsX5_light rmX5_light (va_Pc [.ref adO, .int uv, .int v] (zx_in G cI (zd_X5_light cI adO qO3 qO4 qO5 qO6 oO0 oO1 oO2 oO7 oO8 oO9 oO10 oO11 O) sz)) (va_Qv (fun uz : zMem => post uz) (fun (uz : zMem) t => zv_out G cI (va_A (zd_X5_light cI adO qO3 qO4 qO5 qO6 oO0 oO1 oO2 oO7 oO8 oO9 oO10 oO11 O) sz) (zd_X5_light cI adO qO3 qO4 qO5 qO6 oO0 oO1 oO2 oO7 oO8 oO9 oO10 oO11 uz) t) (va_A (zd_X5_light cI adO qO3 qO4 qO5 qO6 oO0 oO1 oO2 oO7 oO8 oO9 oO10 oO11 O) sz)) (zx_X G cI (va_A (zd_X5_light cI adO qO3 qO4 qO5 qO6 oO0 oO1 oO2 oO7 oO8 oO9 oO10 oO11 O) sz) (zd_X5_light cI adO qO3 qO4 qO5 qO6 oO0 oO1 oO2 oO7 oO8 oO9 oO10 oO11 O) (fun E => (E = "java/lang/IllegalArgumentException" ∧ PXA))) 1 6 (va_A (zd_X5_light cI adO qO3 qO4 qO5 qO6 oO0 oO1 oO2 oO7 oO8 oO9 oO10 oO11 O) sz) := by
  refine zx_met (cc := cX5_light) (maxL := 3) (ret := none) (lv0 := [(0, .ref adO), (1, .int uv), (2, .int v)]) (Qc := fun A => va_Qv (fun uz : zMem => post uz) (fun (uz : zMem) t => zv_out G cI A (zd_X5_light cI adO qO3 qO4 qO5 qO6 oO0 oO1 oO2 oO7 oO8 oO9 oO10 oO11 uz) t) A) (XC := fun A => zx_X G cI A (zd_X5_light cI adO qO3 qO4 qO5 qO6 oO0 oO1 oO2 oO7 oO8 oO9 oO10 oO11 O) (fun E => (E = "java/lang/IllegalArgumentException" ∧ PXA))) (by decide) rfl (Nat.le_of_ble_eq_true rfl) rfl ?_ sz
  intro p e s m below meth c A C hB hT hr hlk
  clear sz
  refine zv_iload_n (pc := 0) C rfl 2 rfl dX5_light_0 ?_
  refine zu_cv (pc := 1) (mc := 1) (ms := 6) C hT hlk rfl (Nat.le_of_ble_eq_true rfl) (Nat.le_of_ble_eq_true rfl) (fun _ h => h) (zu_runS (As := [.int v]) (rest := []) C hB (zc_X5_needLightBelow l hlt G cI v _ _ hF) (va_cwS 1 C.2.2.2.2.1 gX5_light_X5_needLightBelow rfl rfl rfl zy_X5_needLightBelow ⟨(Nat.le_of_ble_eq_true rfl), (Nat.le_of_ble_eq_true rfl)⟩) rfl rfl (Nat.le_of_ble_eq_true rfl) ⟨(Nat.le_of_ble_eq_true rfl), (Nat.le_of_ble_eq_true rfl)⟩ dX5_light_1) (fun hF => ?_)
  refine zv_iload_n (pc := 4) C rfl 1 rfl dX5_light_4 ?_
  refine zv_iload_n (pc := 5) C rfl 2 rfl dX5_light_5 ?_
  refine zv_ineg (pc := 6) C  dX5_light_6 ?_
  refine zv_icmp_lt (pc := 7) (tgt := 15) C dX5_light_7 (by decide) (fun c_1 => ?_) (fun c_1 => ?_)
  · replace hF := And.left hF c_1
    exact zx_throw (pc := 15) (cls := "java/lang/IllegalArgumentException") (text := "a cosine is -1 to 1") (ik := 76) (is := 130) (ic := 80) C hB hT hlt hlk rfl (by decide +kernel) (List.mem_of_getElem? (i := 8) rfl) (List.mem_of_getElem? (i := 1) rfl) (List.mem_of_getElem? (i := 2) rfl) (fun w h => List.mem_cons_of_mem _ (List.mem_append_right _ h)) zxb_80 zxg_76_80 dX5_light_15 dX5_light_18 dX5_light_19 dX5_light_21 dX5_light_24 (Nat.le_of_ble_eq_true rfl) (Nat.le_of_ble_eq_true rfl) (Nat.le_of_ble_eq_true rfl) (Nat.le_of_ble_eq_true rfl) (Nat.le_of_ble_eq_true rfl) (Nat.le_of_ble_eq_true rfl) rfl (⟨rfl, hF⟩)
  · replace hF := And.right hF c_1
    refine zv_iload_n (pc := 10) C rfl 1 rfl dX5_light_10 ?_
    refine zv_iload_n (pc := 11) C rfl 2 rfl dX5_light_11 ?_
    refine zv_icmp_le (pc := 12) (tgt := 25) C dX5_light_12 (by decide) (fun c_2 => ?_) (fun c_2 => ?_)
    · replace hF := And.left hF c_2
      refine zv_aload_n (pc := 25) C rfl 0 rfl dX5_light_25 ?_
      refine zv_iload_n (pc := 26) C rfl 1 rfl dX5_light_26 ?_
      refine zv_put (pc := 27) (CC := RX5) (T := TX5) (N := 15) (ci := 4) (v := .int uv) (ty := .int) (ws' := (zd_X5_light cI adO qO3 qO4 qO5 qO6 oO0 oO1 oO2 oO7 oO8 oO9 oO10 oO11 (zset O 12 (fun _ => uv)))) C zi_X5_light_X5 tyX5 tyX5_ok nmX5 0 rfl 12 (by decide) zf_X5_light_62 rfl (by decide +kernel) rfl rfl rfl (Nat.le_of_ble_eq_true rfl) rfl dX5_light_27 ?_
      refine zv_aload_n (pc := 30) C rfl 0 rfl dX5_light_30 ?_
      refine zv_iload_n (pc := 31) C rfl 2 rfl dX5_light_31 ?_
      refine zv_put (pc := 32) (CC := RX5) (T := TX5) (N := 15) (ci := 4) (v := .int v) (ty := .int) (ws' := (zd_X5_light cI adO qO3 qO4 qO5 qO6 oO0 oO1 oO2 oO7 oO8 oO9 oO10 oO11 (zset (zset O 12 (fun _ => uv)) 13 (fun _ => v)))) C zi_X5_light_X5 tyX5 tyX5_ok nmX5 0 rfl 13 (by decide) zf_X5_light_66 rfl (by decide +kernel) rfl rfl rfl (Nat.le_of_ble_eq_true rfl) rfl dX5_light_32 ?_
      refine zx_ret (mc := 1) (ms := 6) (Nat.le_of_ble_eq_true rfl) (Nat.le_of_ble_eq_true rfl) ?_
      exact zv_vret (pc := 35) C hr hlk (zset (zset O 12 (fun _ => uv)) 13 (fun _ => v)) hF rfl dX5_light_35
    · replace hF := And.right hF c_2
      exact zx_throw (pc := 15) (cls := "java/lang/IllegalArgumentException") (text := "a cosine is -1 to 1") (ik := 76) (is := 130) (ic := 80) C hB hT hlt hlk rfl (by decide +kernel) (List.mem_of_getElem? (i := 8) rfl) (List.mem_of_getElem? (i := 1) rfl) (List.mem_of_getElem? (i := 2) rfl) (fun w h => List.mem_cons_of_mem _ (List.mem_append_right _ h)) zxb_80 zxg_76_80 dX5_light_15 dX5_light_18 dX5_light_19 dX5_light_21 dX5_light_24 (Nat.le_of_ble_eq_true rfl) (Nat.le_of_ble_eq_true rfl) (Nat.le_of_ble_eq_true rfl) (Nat.le_of_ble_eq_true rfl) (Nat.le_of_ble_eq_true rfl) (Nat.le_of_ble_eq_true rfl) rfl (⟨rfl, hF⟩)
theorem zf_X5_isListed_22 : Cond.fieldLink RX5 22 "GlassStack" "listUp" "[I" ∈ wsX5_isListed := (List.mem_of_getElem? (i := 2) rfl)
theorem zf_X5_isListed_26 : Cond.fieldLink RX5 26 "GlassStack" "listBelow" "[I" ∈ wsX5_isListed := (List.mem_of_getElem? (i := 3) rfl)
theorem zf_X5_isListed_69 : Cond.fieldLink RX5 69 "GlassStack" "listed" "I" ∈ wsX5_isListed := (List.mem_of_getElem? (i := 1) rfl)
theorem zi_X5_isListed_X5 : ∀ w ∈ wsX50, w ∈ wsX5_isListed := fun w h => List.mem_cons_of_mem _ (List.mem_append_right _ h)
theorem zy_X5_isListed : yX5_isListed.cls = RX5 ∧ yX5_isListed.cls ≠ "java/lang/invoke/MethodHandle" ∧ yX5_isListed.cls ≠ "java/lang/invoke/VarHandle" ∧ (parseMethodDescriptor yX5_isListed.desc).map (fun d => d.parameters.length) = some 2 := by decide +kernel
set_option maxHeartbeats 4000000 in
set_option maxRecDepth 100000 in
theorem zl_X5_isListed_2 {p : Program} {l : Launch} {e : Env} {s : State} {m : MethodId} {args : Array Value} {below : List Frame} {meth : Method} {c : Code} {G : va_G} {cI : ClassId} {A : Nat → Prop} {Q : State → Prop} (adO qO3 qO4 qO5 qO6 oO0 oO1 oO2 oO7 oO8 oO9 oO10 oO11 : Nat) (O : zMem) (c1 : Int32) (c2 : Int32) (K36 : Prop) (K44 : Prop) (C : zv_C p s m args c cX5_isListed 4 RX5 wsX5_isListed G cI A) (hK36 : K36  → zv_V p l e (headSpec wsX5_isListed rmX5_isListed).room s m args below meth c Q G A 4 0 0 (zd_X5_isListed cI adO qO3 qO4 qO5 qO6 oO0 oO1 oO2 oO7 oO8 oO9 oO10 oO11 O) 36 [] []) (hK44 : K44  → zv_V p l e (headSpec wsX5_isListed rmX5_isListed).room s m args below meth c Q G A 4 0 0 (zd_X5_isListed cI adO qO3 qO4 qO5 qO6 oO0 oO1 oO2 oO7 oO8 oO9 oO10 oO11 O) 44 [] []) : ∀ (k : Nat) (p3 : Int32), zw_X5_isListed_2 O c1 c2 K36 K44 k p3 → zv_V p l e (headSpec wsX5_isListed rmX5_isListed).room s m args below meth c Q G A 4 0 0 (zd_X5_isListed cI adO qO3 qO4 qO5 qO6 oO0 oO1 oO2 oO7 oO8 oO9 oO10 oO11 O) 2 [(0, .ref adO), (1, .int c1), (2, .int c2), (3, .int p3)] [] := by
  intro k
  induction k with
  | zero => intro p3 hF; exact (show False from hF).elim
  | succ k ih =>
    intro p3 hF
    refine zv_iload_n (pc := 2) C rfl 3 rfl dX5_isListed_2 ?_
    refine zv_aload_n (pc := 3) C rfl 0 rfl dX5_isListed_3 ?_
    refine zv_get (pc := 4) (CC := RX5) (T := TX5) (N := 15) (ci := 4) (v := .int (O 14 0)) C zi_X5_isListed_X5 0 rfl 14 (by decide) zf_X5_isListed_69 rfl rfl dX5_isListed_4 ?_
    refine zv_icmp_ge (pc := 7) (tgt := 44) C dX5_isListed_7 (by decide) (fun c_1 => ?_) (fun c_1 => ?_)
    · replace hF := And.left hF c_1
      exact zv_lvs [] rfl (hK44  hF)
    · replace hF := And.right hF c_1
      refine zv_iload_n (pc := 10) C rfl 3 rfl dX5_isListed_10 ?_
      refine zv_bipush (pc := 11) (v := 6) C (by decide) dX5_isListed_11 ?_
      refine zv_icmp_ge (pc := 13) (tgt := 44) C dX5_isListed_13 (by decide) (fun c_2 => ?_) (fun c_2 => ?_)
      · replace hF := And.left hF c_2
        exact zv_lvs [] rfl (hK44  hF)
      · replace hF := And.right hF c_2
        refine zv_aload_n (pc := 16) C rfl 0 rfl dX5_isListed_16 ?_
        refine zv_get (pc := 17) (CC := RX5) (T := TX5) (N := 15) (ci := 4) (v := .ref qO3) C zi_X5_isListed_X5 0 rfl 3 (by decide) zf_X5_isListed_22 rfl rfl dX5_isListed_17 ?_
        refine zv_iload_n (pc := 20) C rfl 3 rfl dX5_isListed_20 ?_
        obtain ⟨h_3, hF⟩ := hF
        refine zv_iald (pc := 21) (n := 6) (f := (O 3)) C 1 h_3 rfl dX5_isListed_21 ?_
        refine zv_iload_n (pc := 22) C rfl 1 rfl dX5_isListed_22 ?_
        refine zv_icmp_ne (pc := 23) (tgt := 38) C dX5_isListed_23 (by decide) (fun c_4 => ?_) (fun c_4 => ?_)
        · replace hF := And.left hF c_4
          obtain ⟨x3_5, ex3_5⟩ : ∃ y : Int32, y = p3 + (1 : Int32) := ⟨_, rfl⟩
          replace hF := hF x3_5 ex3_5
          refine zv_iinc (pc := 38) (v := x3_5) (lv' := [(3, .int x3_5), (0, .ref adO), (1, .int c1), (2, .int c2)]) C 3 rfl (by rw [ex3_5]; rfl) (by decide) rfl dX5_isListed_38 ?_
          refine zv_goto (pc := 41) (tgt := 2) C dX5_isListed_41 (by decide) ?_
          exact zv_lvs [1, 2, 3, 0] rfl (ih x3_5 hF)
        · replace hF := And.right hF c_4
          refine zv_aload_n (pc := 26) C rfl 0 rfl dX5_isListed_26 ?_
          refine zv_get (pc := 27) (CC := RX5) (T := TX5) (N := 15) (ci := 4) (v := .ref qO4) C zi_X5_isListed_X5 0 rfl 4 (by decide) zf_X5_isListed_26 rfl rfl dX5_isListed_27 ?_
          refine zv_iload_n (pc := 30) C rfl 3 rfl dX5_isListed_30 ?_
          obtain ⟨h_6, hF⟩ := hF
          refine zv_iald (pc := 31) (n := 6) (f := (O 4)) C 2 h_6 rfl dX5_isListed_31 ?_
          refine zv_iload_n (pc := 32) C rfl 2 rfl dX5_isListed_32 ?_
          refine zv_icmp_ne (pc := 33) (tgt := 38) C dX5_isListed_33 (by decide) (fun c_7 => ?_) (fun c_7 => ?_)
          · replace hF := And.left hF c_7
            obtain ⟨x3_8, ex3_8⟩ : ∃ y : Int32, y = p3 + (1 : Int32) := ⟨_, rfl⟩
            replace hF := hF x3_8 ex3_8
            refine zv_iinc (pc := 38) (v := x3_8) (lv' := [(3, .int x3_8), (0, .ref adO), (1, .int c1), (2, .int c2)]) C 3 rfl (by rw [ex3_8]; rfl) (by decide) rfl dX5_isListed_38 ?_
            refine zv_goto (pc := 41) (tgt := 2) C dX5_isListed_41 (by decide) ?_
            exact zv_lvs [1, 2, 3, 0] rfl (ih x3_8 hF)
          · replace hF := And.right hF c_7
            exact zv_lvs [] rfl (hK36  hF)
set_option maxHeartbeats 4000000 in
set_option maxRecDepth 100000 in
theorem zc_X5_isListed (l : Launch) (G : va_G) (cI : ClassId) (adO qO3 qO4 qO5 qO6 oO0 oO1 oO2 oO7 oO8 oO9 oO10 oO11 : Nat) (O : zMem) (up : Int32) (lo : Int32) (post : Int32 → Prop) (hF : zw_X5_isListed O up lo post) (sz : Nat) : Met l yX5_isListed wsX5_isListed rmX5_isListed (va_Pc [.ref adO, .int up, .int lo] (zv_in G cI (zd_X5_isListed cI adO qO3 qO4 qO5 qO6 oO0 oO1 oO2 oO7 oO8 oO9 oO10 oO11 O) sz)) (va_Qi (fun (rz : Int32) (uz : Unit) => post rz ) (fun (uz : Unit) t => zv_out G cI (va_A (zd_X5_isListed cI adO qO3 qO4 qO5 qO6 oO0 oO1 oO2 oO7 oO8 oO9 oO10 oO11 O) sz) (zd_X5_isListed cI adO qO3 qO4 qO5 qO6 oO0 oO1 oO2 oO7 oO8 oO9 oO10 oO11 O) t) (va_A (zd_X5_isListed cI adO qO3 qO4 qO5 qO6 oO0 oO1 oO2 oO7 oO8 oO9 oO10 oO11 O) sz)) 0 0 (va_A (zd_X5_isListed cI adO qO3 qO4 qO5 qO6 oO0 oO1 oO2 oO7 oO8 oO9 oO10 oO11 O) sz) := by
  refine zv_met (cc := cX5_isListed) (maxL := 4) (ret := (some .boolean)) (lv0 := [(0, .ref adO), (1, .int up), (2, .int lo)]) (Qc := fun A => va_Qi (fun (rz : Int32) (uz : Unit) => post rz ) (fun (uz : Unit) t => zv_out G cI A (zd_X5_isListed cI adO qO3 qO4 qO5 qO6 oO0 oO1 oO2 oO7 oO8 oO9 oO10 oO11 O) t) A) (by decide) rfl (Nat.le_of_ble_eq_true rfl) rfl ?_ sz
  intro p e s m below meth c A C hr hlk
  clear sz
  refine zv_iconst (pc := 0) (v := 0) C (by decide) dX5_isListed_0 ?_
  refine zv_istore_n (pc := 1) (lv' := [(3, .int (0 : Int32)), (0, .ref adO), (1, .int up), (2, .int lo)]) C rfl (by decide) rfl dX5_isListed_1 ?_
  obtain ⟨kf, hF⟩ := hF
  refine zv_lvs [1, 2, 3, 0] rfl (zl_X5_isListed_2 adO qO3 qO4 qO5 qO6 oO0 oO1 oO2 oO7 oO8 oO9 oO10 oO11 O up lo _ _ C ?_ ?_ kf (0 : Int32) hF)
  · intro  hF
    refine zv_iconst (pc := 36) (v := 1) C (by decide) dX5_isListed_36 ?_
    obtain ⟨hn_9, hF⟩ := hF
    exact zv_zret (pc := 37) C hr hlk (1 : Int32) () hn_9 hF rfl dX5_isListed_37
  · intro  hF
    refine zv_iconst (pc := 44) (v := 0) C (by decide) dX5_isListed_44 ?_
    obtain ⟨hn_10, hF⟩ := hF
    exact zv_zret (pc := 45) C hr hlk (0 : Int32) () hn_10 hF rfl dX5_isListed_45
theorem zf_X5_list_22 : Cond.fieldLink RX5 22 "GlassStack" "listUp" "[I" ∈ wsX5_list := (List.mem_of_getElem? (i := 2) rfl)
theorem zf_X5_list_26 : Cond.fieldLink RX5 26 "GlassStack" "listBelow" "[I" ∈ wsX5_list := (List.mem_of_getElem? (i := 3) rfl)
theorem zf_X5_list_69 : Cond.fieldLink RX5 69 "GlassStack" "listed" "I" ∈ wsX5_list := (List.mem_of_getElem? (i := 1) rfl)
theorem zi_X5_list_X5 : ∀ w ∈ wsX50, w ∈ wsX5_list := fun w h => List.mem_cons_of_mem _ (List.mem_append_left _ (List.mem_append_right _ h))
theorem zy_X5_list : yX5_list.cls = RX5 ∧ yX5_list.cls ≠ "java/lang/invoke/MethodHandle" ∧ yX5_list.cls ≠ "java/lang/invoke/VarHandle" ∧ (parseMethodDescriptor yX5_list.desc).map (fun d => d.parameters.length) = some 2 := by decide +kernel
set_option maxHeartbeats 4000000 in
set_option maxRecDepth 100000 in
theorem zc_X5_list (l : Launch) (hlt : l.stackTraces = false) (G : va_G) (cI : ClassId) (adO qO3 qO4 qO5 qO6 oO0 oO1 oO2 oO7 oO8 oO9 oO10 oO11 : Nat) (O : zMem) (up : Int32) (lo : Int32) (post : Int32 → zMem → Prop) (PXA : Prop) (hF : zw_X5_list O up lo post PXA) (sz : Nat) : vx_Met l yX5_list wsX5_list rmX5_list (va_Pc [.ref adO, .int up, .int lo] (zx_in G cI (zd_X5_list cI adO qO3 qO4 qO5 qO6 oO0 oO1 oO2 oO7 oO8 oO9 oO10 oO11 O) sz)) (va_Qi (fun (rz : Int32) (uz : zMem) => post rz uz) (fun (uz : zMem) t => zv_out G cI (va_A (zd_X5_list cI adO qO3 qO4 qO5 qO6 oO0 oO1 oO2 oO7 oO8 oO9 oO10 oO11 O) sz) (zd_X5_list cI adO qO3 qO4 qO5 qO6 oO0 oO1 oO2 oO7 oO8 oO9 oO10 oO11 uz) t) (va_A (zd_X5_list cI adO qO3 qO4 qO5 qO6 oO0 oO1 oO2 oO7 oO8 oO9 oO10 oO11 O) sz)) (zx_X G cI (va_A (zd_X5_list cI adO qO3 qO4 qO5 qO6 oO0 oO1 oO2 oO7 oO8 oO9 oO10 oO11 O) sz) (zd_X5_list cI adO qO3 qO4 qO5 qO6 oO0 oO1 oO2 oO7 oO8 oO9 oO10 oO11 O) (fun E => (E = "java/lang/IllegalArgumentException" ∧ PXA))) 1 6 (va_A (zd_X5_list cI adO qO3 qO4 qO5 qO6 oO0 oO1 oO2 oO7 oO8 oO9 oO10 oO11 O) sz) := by
  refine zx_met (cc := cX5_list) (maxL := 5) (ret := (some .int)) (lv0 := [(0, .ref adO), (1, .int up), (2, .int lo)]) (Qc := fun A => va_Qi (fun (rz : Int32) (uz : zMem) => post rz uz) (fun (uz : zMem) t => zv_out G cI A (zd_X5_list cI adO qO3 qO4 qO5 qO6 oO0 oO1 oO2 oO7 oO8 oO9 oO10 oO11 uz) t) A) (XC := fun A => zx_X G cI A (zd_X5_list cI adO qO3 qO4 qO5 qO6 oO0 oO1 oO2 oO7 oO8 oO9 oO10 oO11 O) (fun E => (E = "java/lang/IllegalArgumentException" ∧ PXA))) (by decide) rfl (Nat.le_of_ble_eq_true rfl) rfl ?_ sz
  intro p e s m below meth c A C hB hT hr hlk
  clear sz
  refine zv_iload_n (pc := 0) C rfl 1 rfl dX5_list_0 ?_
  refine zv_iload_n (pc := 1) C rfl 2 rfl dX5_list_1 ?_
  refine zu_cv (pc := 2) (mc := 1) (ms := 6) C hT hlk rfl (Nat.le_of_ble_eq_true rfl) (Nat.le_of_ble_eq_true rfl) (fun _ h => h) (zu_runS (As := [.int up, .int lo]) (rest := []) C hB (zc_X5_needIndex l hlt G cI up lo _ _ hF) (va_cwS 2 C.2.2.2.2.1 gX5_list_X5_needIndex rfl rfl rfl zy_X5_needIndex ⟨(Nat.le_of_ble_eq_true rfl), (Nat.le_of_ble_eq_true rfl)⟩) rfl rfl (Nat.le_of_ble_eq_true rfl) ⟨(Nat.le_of_ble_eq_true rfl), (Nat.le_of_ble_eq_true rfl)⟩ dX5_list_2) (fun hF => ?_)
  refine zv_iload_n (pc := 5) C rfl 1 rfl dX5_list_5 ?_
  refine zv_iload_n (pc := 6) C rfl 2 rfl dX5_list_6 ?_
  refine zv_ci0 (pc := 7) (ws' := (fun uz : Unit => (zd_X5_list cI adO qO3 qO4 qO5 qO6 oO0 oO1 oO2 oO7 oO8 oO9 oO10 oO11 O))) C (zv_runS (As := [.int up, .int lo]) (rest := []) C (zc_X3_lowest l G cI up lo _ hF) (va_cwS 2 C.2.2.2.2.1 gX5_list_X3_lowest rfl rfl rfl zy_X3_lowest ⟨Nat.le_of_ble_eq_true rfl, Nat.le_of_ble_eq_true rfl⟩) rfl rfl (Nat.le_of_ble_eq_true rfl) ⟨Nat.zero_le _, Nat.zero_le _⟩ dX5_list_7) [] [0, 1, 2, 3, 4] rfl rfl rfl rfl rfl (fun _ => rfl) (fun _ => rfl) (fun _ => rfl) (fun v_1 uz hF => ?_)
  refine zv_istore_n (pc := 10) (lv' := [(3, .int v_1), (0, .ref adO), (1, .int up), (2, .int lo)]) C rfl (by decide) rfl dX5_list_10 ?_
  refine zv_iload_n (pc := 11) C rfl 3 rfl dX5_list_11 ?_
  refine zv_iload_n (pc := 12) C rfl 2 rfl dX5_list_12 ?_
  refine zv_ci0 (pc := 13) (ws' := (fun uz : Unit => (zd_X5_list cI adO qO3 qO4 qO5 qO6 oO0 oO1 oO2 oO7 oO8 oO9 oO10 oO11 O))) C (zv_runS (As := [.int lo, .int up]) (rest := []) C (zc_X3_lowest l G cI lo up _ hF) (va_cwS 2 C.2.2.2.2.1 gX5_list_X3_lowest rfl rfl rfl zy_X3_lowest ⟨Nat.le_of_ble_eq_true rfl, Nat.le_of_ble_eq_true rfl⟩) rfl rfl (Nat.le_of_ble_eq_true rfl) ⟨Nat.zero_le _, Nat.zero_le _⟩ dX5_list_13) [] [0, 1, 2, 3, 4] rfl rfl rfl rfl rfl (fun _ => rfl) (fun _ => rfl) (fun _ => rfl) (fun v_2 uz hF => ?_)
  refine zv_istore (pc := 16) (lv' := [(4, .int v_2), (3, .int v_1), (0, .ref adO), (1, .int up), (2, .int lo)]) C (by decide) rfl dX5_list_16 ?_
  refine zv_aload_n (pc := 18) C rfl 2 rfl dX5_list_18 ?_
  refine zv_get (pc := 19) (CC := RX5) (T := TX5) (N := 15) (ci := 4) (v := .int (O 14 0)) C zi_X5_list_X5 0 rfl 14 (by decide) zf_X5_list_69 rfl rfl dX5_list_19 ?_
  refine zv_bipush (pc := 22) (v := 6) C (by decide) dX5_list_22 ?_
  refine zv_icmp_ge (pc := 24) (tgt := 37) C dX5_list_24 (by decide) (fun c_3 => ?_) (fun c_3 => ?_)
  · replace hF := And.left hF c_3
    refine zv_iconst (pc := 37) (v := -1) C (by decide) dX5_list_37 ?_
    refine zx_ret (mc := 1) (ms := 6) (Nat.le_of_ble_eq_true rfl) (Nat.le_of_ble_eq_true rfl) ?_
    exact zv_iret (pc := 38) C hr hlk (-1 : Int32) O hF rfl dX5_list_38
  · replace hF := And.right hF c_3
    refine zv_aload_n (pc := 27) C rfl 2 rfl dX5_list_27 ?_
    refine zv_iload_n (pc := 28) C rfl 1 rfl dX5_list_28 ?_
    refine zv_iload (pc := 29) C 0 rfl dX5_list_29 ?_
    refine zv_ci0 (pc := 31) (ws' := (fun uz : Unit => (zd_X5_list cI adO qO3 qO4 qO5 qO6 oO0 oO1 oO2 oO7 oO8 oO9 oO10 oO11 O))) C (zv_runV (As := [.int v_1, .int v_2]) (b := adO) (rest := []) (ci := 4) (q0 := 0) C (zc_X5_isListed l G cI adO qO3 qO4 qO5 qO6 oO0 oO1 oO2 oO7 oO8 oO9 oO10 oO11 O v_1 v_2 _ hF) (cwV 2 C.2.2.2.2.1 gX5_list_X5_isListed rfl rfl rfl zy_X5_isListed ⟨Nat.le_of_ble_eq_true rfl, Nat.le_of_ble_eq_true rfl⟩) rfl rfl rfl rfl rfl (Nat.le_of_ble_eq_true rfl) ⟨Nat.zero_le _, Nat.zero_le _⟩ dX5_list_31) [0, 1, 2, 3, 4] [] rfl rfl rfl rfl rfl (fun _ => rfl) (fun _ => rfl) (fun _ => rfl) (fun v_4 uz hF => ?_)
    refine zv_if_eq (pc := 34) (tgt := 39) C dX5_list_34 (by decide) (fun c_5 => ?_) (fun c_5 => ?_)
    · replace hF := And.left hF c_5
      refine zv_aload_n (pc := 39) C rfl 2 rfl dX5_list_39 ?_
      refine zv_get (pc := 40) (CC := RX5) (T := TX5) (N := 15) (ci := 4) (v := .ref qO3) C zi_X5_list_X5 0 rfl 3 (by decide) zf_X5_list_22 rfl rfl dX5_list_40 ?_
      refine zv_aload_n (pc := 43) C rfl 2 rfl dX5_list_43 ?_
      refine zv_get (pc := 44) (CC := RX5) (T := TX5) (N := 15) (ci := 4) (v := .int (O 14 0)) C zi_X5_list_X5 0 rfl 14 (by decide) zf_X5_list_69 rfl rfl dX5_list_44 ?_
      refine zv_iload_n (pc := 47) C rfl 1 rfl dX5_list_47 ?_
      obtain ⟨h_6, hF⟩ := hF
      obtain ⟨r_7, er_7⟩ : ∃ y : zRow, y = (upd (O 3) (Int32.toNatClampNeg (O 14 0)) v_1) := ⟨_, rfl⟩
      replace hF := hF r_7 er_7
      refine zv_iast (pc := 48) (n := 6) (f := (O 3)) (ws' := (zd_X5_list cI adO qO3 qO4 qO5 qO6 oO0 oO1 oO2 oO7 oO8 oO9 oO10 oO11 (zset O 3 r_7))) C 1 h_6 rfl (by rw [er_7]; rfl) dX5_list_48 ?_
      refine zv_aload_n (pc := 49) C rfl 2 rfl dX5_list_49 ?_
      refine zv_get (pc := 50) (CC := RX5) (T := TX5) (N := 15) (ci := 4) (v := .ref qO4) C zi_X5_list_X5 0 rfl 4 (by decide) zf_X5_list_26 rfl rfl dX5_list_50 ?_
      refine zv_aload_n (pc := 53) C rfl 2 rfl dX5_list_53 ?_
      refine zv_get (pc := 54) (CC := RX5) (T := TX5) (N := 15) (ci := 4) (v := .int (O 14 0)) C zi_X5_list_X5 0 rfl 14 (by decide) zf_X5_list_69 rfl rfl dX5_list_54 ?_
      refine zv_iload (pc := 57) C 0 rfl dX5_list_57 ?_
      obtain ⟨h_8, hF⟩ := hF
      obtain ⟨r_9, er_9⟩ : ∃ y : zRow, y = (upd (O 4) (Int32.toNatClampNeg (O 14 0)) v_2) := ⟨_, rfl⟩
      replace hF := hF r_9 er_9
      refine zv_iast (pc := 59) (n := 6) (f := (O 4)) (ws' := (zd_X5_list cI adO qO3 qO4 qO5 qO6 oO0 oO1 oO2 oO7 oO8 oO9 oO10 oO11 (zset (zset O 3 r_7) 4 r_9))) C 2 h_8 rfl (by rw [er_9]; rfl) dX5_list_59 ?_
      refine zv_aload_n (pc := 60) C rfl 2 rfl dX5_list_60 ?_
      refine zv_dup (pc := 61) C rfl dX5_list_61 ?_
      refine zv_get (pc := 62) (CC := RX5) (T := TX5) (N := 15) (ci := 4) (v := .int (O 14 0)) C zi_X5_list_X5 0 rfl 14 (by decide) zf_X5_list_69 rfl rfl dX5_list_62 ?_
      refine zv_iconst (pc := 65) (v := 1) C (by decide) dX5_list_65 ?_
      refine zv_iadd (pc := 66) C  dX5_list_66 ?_
      refine zv_topi (fun y_10 ey_10 => ?_)
      replace hF := hF y_10 ey_10
      refine zv_put (pc := 67) (CC := RX5) (T := TX5) (N := 15) (ci := 4) (v := .int y_10) (ty := .int) (ws' := (zd_X5_list cI adO qO3 qO4 qO5 qO6 oO0 oO1 oO2 oO7 oO8 oO9 oO10 oO11 (zset (zset (zset O 3 r_7) 4 r_9) 14 (fun _ => y_10)))) C zi_X5_list_X5 tyX5 tyX5_ok nmX5 0 rfl 14 (by decide) zf_X5_list_69 rfl (by decide +kernel) rfl rfl rfl (Nat.le_of_ble_eq_true rfl) rfl dX5_list_67 ?_
      refine zv_aload_n (pc := 70) C rfl 2 rfl dX5_list_70 ?_
      refine zv_get (pc := 71) (CC := RX5) (T := TX5) (N := 15) (ci := 4) (v := .int y_10) C zi_X5_list_X5 0 rfl 14 (by decide) zf_X5_list_69 rfl rfl dX5_list_71 ?_
      refine zx_ret (mc := 1) (ms := 6) (Nat.le_of_ble_eq_true rfl) (Nat.le_of_ble_eq_true rfl) ?_
      exact zv_iret (pc := 74) C hr hlk y_10 (zset (zset (zset O 3 r_7) 4 r_9) 14 (fun _ => y_10)) hF rfl dX5_list_74
    · replace hF := And.right hF c_5
      refine zv_iconst (pc := 37) (v := -1) C (by decide) dX5_list_37 ?_
      refine zx_ret (mc := 1) (ms := 6) (Nat.le_of_ble_eq_true rfl) (Nat.le_of_ble_eq_true rfl) ?_
      exact zv_iret (pc := 38) C hr hlk (-1 : Int32) O hF rfl dX5_list_38
theorem zf_X5_unlist_69 : Cond.fieldLink RX5 69 "GlassStack" "listed" "I" ∈ wsX5_unlist := (List.mem_of_getElem? (i := 1) rfl)
theorem zi_X5_unlist_X5 : ∀ w ∈ wsX50, w ∈ wsX5_unlist := fun w h => List.mem_cons_of_mem _ (List.mem_append_right _ h)
theorem zy_X5_unlist : yX5_unlist.cls = RX5 ∧ yX5_unlist.cls ≠ "java/lang/invoke/MethodHandle" ∧ yX5_unlist.cls ≠ "java/lang/invoke/VarHandle" ∧ (parseMethodDescriptor yX5_unlist.desc).map (fun d => d.parameters.length) = some 0 := by decide +kernel
set_option maxHeartbeats 4000000 in
set_option maxRecDepth 100000 in
theorem zc_X5_unlist (l : Launch) (G : va_G) (cI : ClassId) (adO qO3 qO4 qO5 qO6 oO0 oO1 oO2 oO7 oO8 oO9 oO10 oO11 : Nat) (O : zMem) (post : zMem → Prop) (hF : zw_X5_unlist O post) (sz : Nat) : Met l yX5_unlist wsX5_unlist rmX5_unlist (va_Pc [.ref adO] (zv_in G cI (zd_X5_unlist cI adO qO3 qO4 qO5 qO6 oO0 oO1 oO2 oO7 oO8 oO9 oO10 oO11 O) sz)) (va_Qv (fun uz : zMem => post uz) (fun (uz : zMem) t => zv_out G cI (va_A (zd_X5_unlist cI adO qO3 qO4 qO5 qO6 oO0 oO1 oO2 oO7 oO8 oO9 oO10 oO11 O) sz) (zd_X5_unlist cI adO qO3 qO4 qO5 qO6 oO0 oO1 oO2 oO7 oO8 oO9 oO10 oO11 uz) t) (va_A (zd_X5_unlist cI adO qO3 qO4 qO5 qO6 oO0 oO1 oO2 oO7 oO8 oO9 oO10 oO11 O) sz)) 0 0 (va_A (zd_X5_unlist cI adO qO3 qO4 qO5 qO6 oO0 oO1 oO2 oO7 oO8 oO9 oO10 oO11 O) sz) := by
  refine zv_met (cc := cX5_unlist) (maxL := 1) (ret := none) (lv0 := [(0, .ref adO)]) (Qc := fun A => va_Qv (fun uz : zMem => post uz) (fun (uz : zMem) t => zv_out G cI A (zd_X5_unlist cI adO qO3 qO4 qO5 qO6 oO0 oO1 oO2 oO7 oO8 oO9 oO10 oO11 uz) t) A) (by decide) rfl (Nat.le_of_ble_eq_true rfl) rfl ?_ sz
  intro p e s m below meth c A C hr hlk
  clear sz
  refine zv_aload_n (pc := 0) C rfl 0 rfl dX5_unlist_0 ?_
  refine zv_iconst (pc := 1) (v := 0) C (by decide) dX5_unlist_1 ?_
  refine zv_put (pc := 2) (CC := RX5) (T := TX5) (N := 15) (ci := 4) (v := .int (0 : Int32)) (ty := .int) (ws' := (zd_X5_unlist cI adO qO3 qO4 qO5 qO6 oO0 oO1 oO2 oO7 oO8 oO9 oO10 oO11 (zset O 14 (fun _ => (0 : Int32))))) C zi_X5_unlist_X5 tyX5 tyX5_ok nmX5 0 rfl 14 (by decide) zf_X5_unlist_69 rfl (by decide +kernel) rfl rfl rfl (Nat.le_of_ble_eq_true rfl) rfl dX5_unlist_2 ?_
  exact zv_vret (pc := 5) C hr hlk (zset O 14 (fun _ => (0 : Int32))) hF rfl dX5_unlist_5
theorem zf_X5_waysToChoose_69 : Cond.fieldLink RX5 69 "GlassStack" "listed" "I" ∈ wsX5_waysToChoose := (List.mem_of_getElem? (i := 1) rfl)
theorem zi_X5_waysToChoose_X5 : ∀ w ∈ wsX50, w ∈ wsX5_waysToChoose := fun w h => List.mem_cons_of_mem _ (List.mem_append_right _ h)
theorem zy_X5_waysToChoose : yX5_waysToChoose.cls = RX5 ∧ yX5_waysToChoose.cls ≠ "java/lang/invoke/MethodHandle" ∧ yX5_waysToChoose.cls ≠ "java/lang/invoke/VarHandle" ∧ (parseMethodDescriptor yX5_waysToChoose.desc).map (fun d => d.parameters.length) = some 1 := by decide +kernel
set_option maxHeartbeats 4000000 in
set_option maxRecDepth 100000 in
theorem zl_X5_waysToChoose_4 {p : Program} {l : Launch} {e : Env} {s : State} {m : MethodId} {args : Array Value} {below : List Frame} {meth : Method} {c : Code} {G : va_G} {cI : ClassId} {A : Nat → Prop} {Q : State → Prop} (adO qO3 qO4 qO5 qO6 oO0 oO1 oO2 oO7 oO8 oO9 oO10 oO11 : Nat) (O : zMem) (c1 : Int32) (K22 : Int32 → Prop) (C : zv_C p s m args c cX5_waysToChoose 4 RX5 wsX5_waysToChoose G cI A) (hK22 : ∀ (p2 : Int32), K22 p2 → zv_V p l e (headSpec wsX5_waysToChoose rmX5_waysToChoose).room s m args below meth c Q G A 4 0 0 (zd_X5_waysToChoose cI adO qO3 qO4 qO5 qO6 oO0 oO1 oO2 oO7 oO8 oO9 oO10 oO11 O) 22 [(2, .int p2)] []) : ∀ (k : Nat) (p2 : Int32) (p3 : Int32), zw_X5_waysToChoose_4 O c1 K22 k p2 p3 → zv_V p l e (headSpec wsX5_waysToChoose rmX5_waysToChoose).room s m args below meth c Q G A 4 0 0 (zd_X5_waysToChoose cI adO qO3 qO4 qO5 qO6 oO0 oO1 oO2 oO7 oO8 oO9 oO10 oO11 O) 4 [(0, .ref adO), (1, .int c1), (2, .int p2), (3, .int p3)] [] := by
  intro k
  induction k with
  | zero => intro p2 p3 hF; exact (show False from hF).elim
  | succ k ih =>
    intro p2 p3 hF
    refine zv_iload_n (pc := 4) C rfl 3 rfl dX5_waysToChoose_4 ?_
    refine zv_iload_n (pc := 5) C rfl 1 rfl dX5_waysToChoose_5 ?_
    refine zv_icmp_ge (pc := 6) (tgt := 22) C dX5_waysToChoose_6 (by decide) (fun c_1 => ?_) (fun c_1 => ?_)
    · replace hF := And.left hF c_1
      exact zv_lvs [2] rfl (hK22 p2 hF)
    · replace hF := And.right hF c_1
      refine zv_iload_n (pc := 9) C rfl 2 rfl dX5_waysToChoose_9 ?_
      refine zv_aload_n (pc := 10) C rfl 0 rfl dX5_waysToChoose_10 ?_
      refine zv_get (pc := 11) (CC := RX5) (T := TX5) (N := 15) (ci := 4) (v := .int (O 14 0)) C zi_X5_waysToChoose_X5 0 rfl 14 (by decide) zf_X5_waysToChoose_69 rfl rfl dX5_waysToChoose_11 ?_
      refine zv_imul (pc := 14) C  dX5_waysToChoose_14 ?_
      refine zv_topi (fun x2_2 ex2_2 => ?_)
      replace hF := hF x2_2 ex2_2
      refine zv_istore_n (pc := 15) (lv' := [(2, .int x2_2), (0, .ref adO), (1, .int c1), (3, .int p3)]) C rfl (by decide) rfl dX5_waysToChoose_15 ?_
      obtain ⟨x3_3, ex3_3⟩ : ∃ y : Int32, y = p3 + (1 : Int32) := ⟨_, rfl⟩
      replace hF := hF x3_3 ex3_3
      refine zv_iinc (pc := 16) (v := x3_3) (lv' := [(3, .int x3_3), (2, .int x2_2), (0, .ref adO), (1, .int c1)]) C 3 rfl (by rw [ex3_3]; rfl) (by decide) rfl dX5_waysToChoose_16 ?_
      refine zv_goto (pc := 19) (tgt := 4) C dX5_waysToChoose_19 (by decide) ?_
      exact zv_lvs [2, 3, 1, 0] rfl (ih x2_2 x3_3 hF)
set_option maxHeartbeats 4000000 in
set_option maxRecDepth 100000 in
theorem zc_X5_waysToChoose (l : Launch) (G : va_G) (cI : ClassId) (adO qO3 qO4 qO5 qO6 oO0 oO1 oO2 oO7 oO8 oO9 oO10 oO11 : Nat) (O : zMem) (nn : Int32) (post : Int32 → Prop) (hF : zw_X5_waysToChoose O nn post) (sz : Nat) : Met l yX5_waysToChoose wsX5_waysToChoose rmX5_waysToChoose (va_Pc [.ref adO, .int nn] (zv_in G cI (zd_X5_waysToChoose cI adO qO3 qO4 qO5 qO6 oO0 oO1 oO2 oO7 oO8 oO9 oO10 oO11 O) sz)) (va_Qi (fun (rz : Int32) (uz : Unit) => post rz ) (fun (uz : Unit) t => zv_out G cI (va_A (zd_X5_waysToChoose cI adO qO3 qO4 qO5 qO6 oO0 oO1 oO2 oO7 oO8 oO9 oO10 oO11 O) sz) (zd_X5_waysToChoose cI adO qO3 qO4 qO5 qO6 oO0 oO1 oO2 oO7 oO8 oO9 oO10 oO11 O) t) (va_A (zd_X5_waysToChoose cI adO qO3 qO4 qO5 qO6 oO0 oO1 oO2 oO7 oO8 oO9 oO10 oO11 O) sz)) 0 0 (va_A (zd_X5_waysToChoose cI adO qO3 qO4 qO5 qO6 oO0 oO1 oO2 oO7 oO8 oO9 oO10 oO11 O) sz) := by
  refine zv_met (cc := cX5_waysToChoose) (maxL := 4) (ret := (some .int)) (lv0 := [(0, .ref adO), (1, .int nn)]) (Qc := fun A => va_Qi (fun (rz : Int32) (uz : Unit) => post rz ) (fun (uz : Unit) t => zv_out G cI A (zd_X5_waysToChoose cI adO qO3 qO4 qO5 qO6 oO0 oO1 oO2 oO7 oO8 oO9 oO10 oO11 O) t) A) (by decide) rfl (Nat.le_of_ble_eq_true rfl) rfl ?_ sz
  intro p e s m below meth c A C hr hlk
  clear sz
  refine zv_iconst (pc := 0) (v := 1) C (by decide) dX5_waysToChoose_0 ?_
  refine zv_istore_n (pc := 1) (lv' := [(2, .int (1 : Int32)), (0, .ref adO), (1, .int nn)]) C rfl (by decide) rfl dX5_waysToChoose_1 ?_
  refine zv_iconst (pc := 2) (v := 0) C (by decide) dX5_waysToChoose_2 ?_
  refine zv_istore_n (pc := 3) (lv' := [(3, .int (0 : Int32)), (2, .int (1 : Int32)), (0, .ref adO), (1, .int nn)]) C rfl (by decide) rfl dX5_waysToChoose_3 ?_
  obtain ⟨kf, hF⟩ := hF
  refine zv_lvs [2, 3, 1, 0] rfl (zl_X5_waysToChoose_4 adO qO3 qO4 qO5 qO6 oO0 oO1 oO2 oO7 oO8 oO9 oO10 oO11 O nn _ C ?_ kf (1 : Int32) (0 : Int32) hF)
  · intro x2_4 hF
    refine zv_iload_n (pc := 22) C rfl 0 rfl dX5_waysToChoose_22 ?_
    exact zv_iret (pc := 23) C hr hlk x2_4 () hF rfl dX5_waysToChoose_23
theorem zf_X5_advanceNumbers_29 : Cond.fieldLink RX5 29 "GlassStack" "numbers" "[I" ∈ wsX5_advanceNumbers := (List.mem_of_getElem? (i := 5) rfl)
theorem zf_X5_advanceNumbers_69 : Cond.fieldLink RX5 69 "GlassStack" "listed" "I" ∈ wsX5_advanceNumbers := (List.mem_of_getElem? (i := 6) rfl)
theorem zi_X5_advanceNumbers_X5 : ∀ w ∈ wsX50, w ∈ wsX5_advanceNumbers := fun w h => List.mem_cons_of_mem _ (List.mem_append_right _ h)
theorem zy_X5_advanceNumbers : yX5_advanceNumbers.cls = RX5 ∧ yX5_advanceNumbers.cls ≠ "java/lang/invoke/MethodHandle" ∧ yX5_advanceNumbers.cls ≠ "java/lang/invoke/VarHandle" ∧ (parseMethodDescriptor yX5_advanceNumbers.desc).map (fun d => d.parameters.length) = some 1 := by decide +kernel
set_option maxHeartbeats 4000000 in
set_option maxRecDepth 100000 in
theorem zl_X5_advanceNumbers_8 {p : Program} {l : Launch} {e : Env} {s : State} {m : MethodId} {args : Array Value} {below : List Frame} {meth : Method} {c : Code} {G : va_G} {cI : ClassId} {A : Nat → Prop} {Q : State → Prop} (adO qO3 qO4 qO5 qO6 oO0 oO1 oO2 oO7 oO8 oO9 oO10 oO11 : Nat) (K35 : zMem → Prop) (K49 : zMem → Prop) (C : zv_C p s m args c cX5_advanceNumbers 3 RX5 wsX5_advanceNumbers G cI A) (hK35 : ∀ (O : zMem), K35 O → zv_V p l e (headSpec wsX5_advanceNumbers rmX5_advanceNumbers).room s m args below meth c Q G A 3 0 0 (zd_X5_advanceNumbers cI adO qO3 qO4 qO5 qO6 oO0 oO1 oO2 oO7 oO8 oO9 oO10 oO11 O) 35 [] []) (hK49 : ∀ (O : zMem), K49 O → zv_V p l e (headSpec wsX5_advanceNumbers rmX5_advanceNumbers).room s m args below meth c Q G A 3 0 0 (zd_X5_advanceNumbers cI adO qO3 qO4 qO5 qO6 oO0 oO1 oO2 oO7 oO8 oO9 oO10 oO11 O) 49 [] []) : ∀ (k : Nat) (p2 : Int32) (O : zMem), zw_X5_advanceNumbers_8 K35 K49 k p2 O → zv_V p l e (headSpec wsX5_advanceNumbers rmX5_advanceNumbers).room s m args below meth c Q G A 3 0 0 (zd_X5_advanceNumbers cI adO qO3 qO4 qO5 qO6 oO0 oO1 oO2 oO7 oO8 oO9 oO10 oO11 O) 8 [(0, .ref adO), (2, .int p2)] [] := by
  intro k
  induction k with
  | zero => intro p2 O hF; exact (show False from hF).elim
  | succ k ih =>
    intro p2 O hF
    refine zv_iload_n (pc := 8) C rfl 1 rfl dX5_advanceNumbers_8 ?_
    refine zv_if_lt (pc := 9) (tgt := 49) C dX5_advanceNumbers_9 (by decide) (fun c_2 => ?_) (fun c_2 => ?_)
    · replace hF := And.left hF c_2
      exact zv_lvs [] rfl (hK49 O hF)
    · replace hF := And.right hF c_2
      refine zv_aload_n (pc := 12) C rfl 0 rfl dX5_advanceNumbers_12 ?_
      refine zv_get (pc := 13) (CC := RX5) (T := TX5) (N := 15) (ci := 4) (v := .ref qO5) C zi_X5_advanceNumbers_X5 0 rfl 5 (by decide) zf_X5_advanceNumbers_29 rfl rfl dX5_advanceNumbers_13 ?_
      refine zv_iload_n (pc := 16) C rfl 1 rfl dX5_advanceNumbers_16 ?_
      refine zv_dup2 (pc := 17) C rfl rfl dX5_advanceNumbers_17 ?_
      obtain ⟨h_3, hF⟩ := hF
      refine zv_iald (pc := 18) (n := 3) (f := (O 5)) C 3 h_3 rfl dX5_advanceNumbers_18 ?_
      refine zv_iconst (pc := 19) (v := 1) C (by decide) dX5_advanceNumbers_19 ?_
      refine zv_iadd (pc := 20) C  dX5_advanceNumbers_20 ?_
      obtain ⟨h_4, hF⟩ := hF
      obtain ⟨r_5, er_5⟩ : ∃ y : zRow, y = (upd (O 5) (Int32.toNatClampNeg p2) (((O 5) (Int32.toNatClampNeg p2)) + (1 : Int32))) := ⟨_, rfl⟩
      replace hF := hF r_5 er_5
      refine zv_iast (pc := 21) (n := 3) (f := (O 5)) (ws' := (zd_X5_advanceNumbers cI adO qO3 qO4 qO5 qO6 oO0 oO1 oO2 oO7 oO8 oO9 oO10 oO11 (zset O 5 r_5))) C 3 h_4 rfl (by rw [er_5]; rfl) dX5_advanceNumbers_21 ?_
      refine zv_aload_n (pc := 22) C rfl 0 rfl dX5_advanceNumbers_22 ?_
      refine zv_get (pc := 23) (CC := RX5) (T := TX5) (N := 15) (ci := 4) (v := .ref qO5) C zi_X5_advanceNumbers_X5 0 rfl 5 (by decide) zf_X5_advanceNumbers_29 rfl rfl dX5_advanceNumbers_23 ?_
      refine zv_iload_n (pc := 26) C rfl 1 rfl dX5_advanceNumbers_26 ?_
      obtain ⟨h_6, hF⟩ := hF
      refine zv_iald (pc := 27) (n := 3) (f := r_5) C 3 h_6 rfl dX5_advanceNumbers_27 ?_
      refine zv_aload_n (pc := 28) C rfl 0 rfl dX5_advanceNumbers_28 ?_
      refine zv_get (pc := 29) (CC := RX5) (T := TX5) (N := 15) (ci := 4) (v := .int (O 14 0)) C zi_X5_advanceNumbers_X5 0 rfl 14 (by decide) zf_X5_advanceNumbers_69 rfl rfl dX5_advanceNumbers_29 ?_
      refine zv_icmp_ge (pc := 32) (tgt := 36) C dX5_advanceNumbers_32 (by decide) (fun c_7 => ?_) (fun c_7 => ?_)
      · replace hF := And.left hF c_7
        refine zv_aload_n (pc := 36) C rfl 0 rfl dX5_advanceNumbers_36 ?_
        refine zv_get (pc := 37) (CC := RX5) (T := TX5) (N := 15) (ci := 4) (v := .ref qO5) C zi_X5_advanceNumbers_X5 0 rfl 5 (by decide) zf_X5_advanceNumbers_29 rfl rfl dX5_advanceNumbers_37 ?_
        refine zv_iload_n (pc := 40) C rfl 1 rfl dX5_advanceNumbers_40 ?_
        refine zv_iconst (pc := 41) (v := 0) C (by decide) dX5_advanceNumbers_41 ?_
        obtain ⟨h_8, hF⟩ := hF
        obtain ⟨r_9, er_9⟩ : ∃ y : zRow, y = (upd r_5 (Int32.toNatClampNeg p2) (0 : Int32)) := ⟨_, rfl⟩
        replace hF := hF r_9 er_9
        refine zv_iast (pc := 42) (n := 3) (f := r_5) (ws' := (zd_X5_advanceNumbers cI adO qO3 qO4 qO5 qO6 oO0 oO1 oO2 oO7 oO8 oO9 oO10 oO11 (zset O 5 r_9))) C 3 h_8 rfl (by rw [er_9]; rfl) dX5_advanceNumbers_42 ?_
        obtain ⟨x2_10, ex2_10⟩ : ∃ y : Int32, y = p2 + (-1 : Int32) := ⟨_, rfl⟩
        replace hF := hF x2_10 ex2_10
        refine zv_iinc (pc := 43) (v := x2_10) (lv' := [(2, .int x2_10), (0, .ref adO)]) C 1 rfl (by rw [ex2_10]; rfl) (by decide) rfl dX5_advanceNumbers_43 ?_
        refine zv_goto (pc := 46) (tgt := 8) C dX5_advanceNumbers_46 (by decide) ?_
        exact zv_lvs [1, 0] rfl (ih x2_10 (zset O 5 r_9) hF)
      · replace hF := And.right hF c_7
        exact zv_lvs [] rfl (hK35 (zset O 5 r_5) hF)
set_option maxHeartbeats 4000000 in
set_option maxRecDepth 100000 in
theorem zc_X5_advanceNumbers (l : Launch) (G : va_G) (cI : ClassId) (adO qO3 qO4 qO5 qO6 oO0 oO1 oO2 oO7 oO8 oO9 oO10 oO11 : Nat) (O : zMem) (nn : Int32) (post : zMem → Prop) (hF : zw_X5_advanceNumbers O nn post) (sz : Nat) : Met l yX5_advanceNumbers wsX5_advanceNumbers rmX5_advanceNumbers (va_Pc [.ref adO, .int nn] (zv_in G cI (zd_X5_advanceNumbers cI adO qO3 qO4 qO5 qO6 oO0 oO1 oO2 oO7 oO8 oO9 oO10 oO11 O) sz)) (va_Qv (fun uz : zMem => post uz) (fun (uz : zMem) t => zv_out G cI (va_A (zd_X5_advanceNumbers cI adO qO3 qO4 qO5 qO6 oO0 oO1 oO2 oO7 oO8 oO9 oO10 oO11 O) sz) (zd_X5_advanceNumbers cI adO qO3 qO4 qO5 qO6 oO0 oO1 oO2 oO7 oO8 oO9 oO10 oO11 uz) t) (va_A (zd_X5_advanceNumbers cI adO qO3 qO4 qO5 qO6 oO0 oO1 oO2 oO7 oO8 oO9 oO10 oO11 O) sz)) 0 0 (va_A (zd_X5_advanceNumbers cI adO qO3 qO4 qO5 qO6 oO0 oO1 oO2 oO7 oO8 oO9 oO10 oO11 O) sz) := by
  refine zv_met (cc := cX5_advanceNumbers) (maxL := 3) (ret := none) (lv0 := [(0, .ref adO), (1, .int nn)]) (Qc := fun A => va_Qv (fun uz : zMem => post uz) (fun (uz : zMem) t => zv_out G cI A (zd_X5_advanceNumbers cI adO qO3 qO4 qO5 qO6 oO0 oO1 oO2 oO7 oO8 oO9 oO10 oO11 uz) t) A) (by decide) rfl (Nat.le_of_ble_eq_true rfl) rfl ?_ sz
  intro p e s m below meth c A C hr hlk
  clear sz
  refine zv_iload_n (pc := 0) C rfl 1 rfl dX5_advanceNumbers_0 ?_
  refine zv_iconst (pc := 1) (v := 3) C (by decide) dX5_advanceNumbers_1 ?_
  refine zv_mmin (pc := 2) C (List.mem_of_getElem? (i := 1) rfl) (List.mem_of_getElem? (i := 2) rfl) (List.mem_of_getElem? (i := 3) rfl) (List.mem_of_getElem? (i := 4) rfl) (Nat.le_of_ble_eq_true rfl) (Nat.le_of_ble_eq_true rfl) (Nat.zero_le _) (Nat.zero_le _) dX5_advanceNumbers_2 ?_
  refine zv_iconst (pc := 5) (v := 1) C (by decide) dX5_advanceNumbers_5 ?_
  refine zv_isub (pc := 6) C  dX5_advanceNumbers_6 ?_
  refine zv_topi (fun x2_1 ex2_1 => ?_)
  replace hF := hF x2_1 ex2_1
  refine zv_istore_n (pc := 7) (lv' := [(2, .int x2_1), (0, .ref adO), (1, .int nn)]) C rfl (by decide) rfl dX5_advanceNumbers_7 ?_
  obtain ⟨kf, hF⟩ := hF
  refine zv_lvs [1, 0] rfl (zl_X5_advanceNumbers_8 adO qO3 qO4 qO5 qO6 oO0 oO1 oO2 oO7 oO8 oO9 oO10 oO11 _ _ C ?_ ?_ kf x2_1 O hF)
  · intro T_11 hF
    exact zv_vret (pc := 35) C hr hlk T_11 hF rfl dX5_advanceNumbers_35
  · intro T_12 hF
    exact zv_vret (pc := 49) C hr hlk T_12 hF rfl dX5_advanceNumbers_49
theorem zf_X5_layNumbers_tr_22 : Cond.fieldLink RX5 22 "GlassStack" "listUp" "[I" ∈ wsX5_layNumbers := (List.mem_of_getElem? (i := 3) rfl)
theorem zf_X5_layNumbers_tr_26 : Cond.fieldLink RX5 26 "GlassStack" "listBelow" "[I" ∈ wsX5_layNumbers := (List.mem_of_getElem? (i := 4) rfl)
theorem zf_X5_layNumbers_tr_69 : Cond.fieldLink RX5 69 "GlassStack" "listed" "I" ∈ wsX5_layNumbers := (List.mem_of_getElem? (i := 1) rfl)
theorem zf_X5_layNumbers_tr_93 : Cond.fieldLink RX5 93 "GlassStack$Pile" "count" "I" ∈ wsX5_layNumbers := (List.mem_of_getElem? (i := 2) rfl)
theorem zi_X5_layNumbers_tr_X3 : ∀ w ∈ wsX30, w ∈ wsX5_layNumbers := fun w h => List.mem_cons_of_mem _ (List.mem_append_right _ h)
theorem zi_X5_layNumbers_tr_X5 : ∀ w ∈ wsX50, w ∈ wsX5_layNumbers := fun w h => List.mem_cons_of_mem _ (List.mem_append_left _ (List.mem_append_right _ h))
theorem zy_X5_layNumbers : yX5_layNumbers.cls = RX5 ∧ yX5_layNumbers.cls ≠ "java/lang/invoke/MethodHandle" ∧ yX5_layNumbers.cls ≠ "java/lang/invoke/VarHandle" ∧ (parseMethodDescriptor yX5_layNumbers.desc).map (fun d => d.parameters.length) = some 3 := by decide +kernel
set_option maxHeartbeats 4000000 in
set_option maxRecDepth 100000 in
theorem zl_X5_layNumbers_tr_7 {p : Program} {l : Launch} {e : Env} {s : State} {m : MethodId} {args : Array Value} {below : List Frame} {meth : Method} {c : Code} {G : va_G} {cI : ClassId} {A : Nat → Prop} {Q : State → Prop} (adO qO3 qO4 qO5 qO6 adP2 qP20 qP21 qP22 qP23 qP24 oO0 oO1 oO7 oO8 oO9 oO10 oO11 : Nat) (O : zMem) (c3 : Int32) (K77 : zMem → Prop) (C : zv_C p s m args c cX5_layNumbers 6 RX5 wsX5_layNumbers G cI A) (hK77 : ∀ (P2 : zMem), K77 P2 → zv_V p l e (headSpec wsX5_layNumbers rmX5_layNumbers_tr).room s m args below meth c Q G A 6 0 0 (zd_X5_layNumbers_tr cI adO qO3 qO4 qO5 qO6 adP2 qP20 qP21 qP22 qP23 qP24 oO0 oO1 oO7 oO8 oO9 oO10 oO11 O P2) 77 [] []) : ∀ (k : Nat) (p4 : Int32) (P2 : zMem), zw_X5_layNumbers_tr_7 O c3 K77 k p4 P2 → zv_V p l e (headSpec wsX5_layNumbers rmX5_layNumbers_tr).room s m args below meth c Q G A 6 0 0 (zd_X5_layNumbers_tr cI adO qO3 qO4 qO5 qO6 adP2 qP20 qP21 qP22 qP23 qP24 oO0 oO1 oO7 oO8 oO9 oO10 oO11 O P2) 7 [(0, .ref adO), (1, .ref adP2), (2, .ref qO5), (3, .int c3), (4, .int p4)] [] := by
  intro k
  induction k with
  | zero => intro p4 P2 hF; exact (show False from hF).elim
  | succ k ih =>
    intro p4 P2 hF
    refine zv_iload (pc := 7) C 4 rfl dX5_layNumbers_7 ?_
    refine zv_iload_n (pc := 9) C rfl 3 rfl dX5_layNumbers_9 ?_
    refine zv_icmp_ge (pc := 10) (tgt := 77) C dX5_layNumbers_10 (by decide) (fun c_2 => ?_) (fun c_2 => ?_)
    · replace hF := And.left hF c_2
      exact zv_lvs [] rfl (hK77 P2 hF)
    · replace hF := And.right hF c_2
      refine zv_iload (pc := 13) C 4 rfl dX5_layNumbers_13 ?_
      refine zv_aload_n (pc := 15) C rfl 2 rfl dX5_layNumbers_15 ?_
      refine zv_alen (pc := 16) (n := 3) (f := (O 5)) (v := (3 : Int32)) C 3 (by decide) rfl dX5_layNumbers_16 ?_
      refine zv_icmp_ge (pc := 17) (tgt := 77) C dX5_layNumbers_17 (by decide) (fun c_3 => ?_) (fun c_3 => ?_)
      · replace hF := And.left hF c_3
        exact zv_lvs [] rfl (hK77 P2 hF)
      · replace hF := And.right hF c_3
        refine zv_aload_n (pc := 20) C rfl 2 rfl dX5_layNumbers_20 ?_
        refine zv_iload (pc := 21) C 4 rfl dX5_layNumbers_21 ?_
        obtain ⟨h_4, hF⟩ := hF
        refine zv_iald (pc := 23) (n := 3) (f := (O 5)) C 3 h_4 rfl dX5_layNumbers_23 ?_
        refine zv_topi (fun x5_5 ex5_5 => ?_)
        replace hF := hF x5_5 ex5_5
        refine zv_istore (pc := 24) (lv' := [(5, .int x5_5), (0, .ref adO), (1, .ref adP2), (2, .ref qO5), (3, .int c3), (4, .int p4)]) C (by decide) rfl dX5_layNumbers_24 ?_
        refine zv_iload (pc := 26) C 0 rfl dX5_layNumbers_26 ?_
        refine zv_if_lt (pc := 28) (tgt := 71) C dX5_layNumbers_28 (by decide) (fun c_6 => ?_) (fun c_6 => ?_)
        · replace hF := And.left hF c_6
          obtain ⟨x4_7, ex4_7⟩ : ∃ y : Int32, y = p4 + (1 : Int32) := ⟨_, rfl⟩
          replace hF := hF x4_7 ex4_7
          refine zv_iinc (pc := 71) (v := x4_7) (lv' := [(4, .int x4_7), (5, .int x5_5), (0, .ref adO), (1, .ref adP2), (2, .ref qO5), (3, .int c3)]) C 5 rfl (by rw [ex4_7]; rfl) (by decide) rfl dX5_layNumbers_71 ?_
          refine zv_goto (pc := 74) (tgt := 7) C dX5_layNumbers_74 (by decide) ?_
          exact zv_lvs [2, 3, 4, 5, 0] rfl (ih x4_7 P2 hF)
        · replace hF := And.right hF c_6
          refine zv_iload (pc := 31) C 0 rfl dX5_layNumbers_31 ?_
          refine zv_aload_n (pc := 33) C rfl 1 rfl dX5_layNumbers_33 ?_
          refine zv_get (pc := 34) (CC := RX5) (T := TX5) (N := 15) (ci := 4) (v := .int (O 14 0)) C zi_X5_layNumbers_tr_X5 0 rfl 14 (by decide) zf_X5_layNumbers_tr_69 rfl rfl dX5_layNumbers_34 ?_
          refine zv_icmp_ge (pc := 37) (tgt := 71) C dX5_layNumbers_37 (by decide) (fun c_8 => ?_) (fun c_8 => ?_)
          · replace hF := And.left hF c_8
            obtain ⟨x4_9, ex4_9⟩ : ∃ y : Int32, y = p4 + (1 : Int32) := ⟨_, rfl⟩
            replace hF := hF x4_9 ex4_9
            refine zv_iinc (pc := 71) (v := x4_9) (lv' := [(4, .int x4_9), (5, .int x5_5), (0, .ref adO), (1, .ref adP2), (2, .ref qO5), (3, .int c3)]) C 5 rfl (by rw [ex4_9]; rfl) (by decide) rfl dX5_layNumbers_71 ?_
            refine zv_goto (pc := 74) (tgt := 7) C dX5_layNumbers_74 (by decide) ?_
            exact zv_lvs [2, 3, 4, 5, 0] rfl (ih x4_9 P2 hF)
          · replace hF := And.right hF c_8
            refine zv_iload (pc := 40) C 0 rfl dX5_layNumbers_40 ?_
            refine zv_bipush (pc := 42) (v := 6) C (by decide) dX5_layNumbers_42 ?_
            refine zv_icmp_ge (pc := 44) (tgt := 71) C dX5_layNumbers_44 (by decide) (fun c_10 => ?_) (fun c_10 => ?_)
            · replace hF := And.left hF c_10
              obtain ⟨x4_11, ex4_11⟩ : ∃ y : Int32, y = p4 + (1 : Int32) := ⟨_, rfl⟩
              replace hF := hF x4_11 ex4_11
              refine zv_iinc (pc := 71) (v := x4_11) (lv' := [(4, .int x4_11), (5, .int x5_5), (0, .ref adO), (1, .ref adP2), (2, .ref qO5), (3, .int c3)]) C 5 rfl (by rw [ex4_11]; rfl) (by decide) rfl dX5_layNumbers_71 ?_
              refine zv_goto (pc := 74) (tgt := 7) C dX5_layNumbers_74 (by decide) ?_
              exact zv_lvs [2, 3, 4, 5, 0] rfl (ih x4_11 P2 hF)
            · replace hF := And.right hF c_10
              refine zv_aload_n (pc := 47) C rfl 2 rfl dX5_layNumbers_47 ?_
              refine zv_aload_n (pc := 48) C rfl 2 rfl dX5_layNumbers_48 ?_
              refine zv_get (pc := 49) (CC := RX3) (T := TX3) (N := 6) (ci := 2) (v := .int (P2 5 0)) C zi_X5_layNumbers_tr_X3 5 rfl 5 (by decide) zf_X5_layNumbers_tr_93 rfl rfl dX5_layNumbers_49 ?_
              refine zv_aload_n (pc := 52) C rfl 1 rfl dX5_layNumbers_52 ?_
              refine zv_get (pc := 53) (CC := RX5) (T := TX5) (N := 15) (ci := 4) (v := .ref qO3) C zi_X5_layNumbers_tr_X5 0 rfl 3 (by decide) zf_X5_layNumbers_tr_22 rfl rfl dX5_layNumbers_53 ?_
              refine zv_iload (pc := 56) C 0 rfl dX5_layNumbers_56 ?_
              obtain ⟨h_12, hF⟩ := hF
              refine zv_iald (pc := 58) (n := 6) (f := (O 3)) C 1 h_12 rfl dX5_layNumbers_58 ?_
              refine zv_aload_n (pc := 59) C rfl 1 rfl dX5_layNumbers_59 ?_
              refine zv_get (pc := 60) (CC := RX5) (T := TX5) (N := 15) (ci := 4) (v := .ref qO4) C zi_X5_layNumbers_tr_X5 0 rfl 4 (by decide) zf_X5_layNumbers_tr_26 rfl rfl dX5_layNumbers_60 ?_
              refine zv_iload (pc := 63) C 0 rfl dX5_layNumbers_63 ?_
              obtain ⟨h_13, hF⟩ := hF
              refine zv_iald (pc := 65) (n := 6) (f := (O 4)) C 2 h_13 rfl dX5_layNumbers_65 ?_
              refine zv_iconst (pc := 66) (v := 1) C (by decide) dX5_layNumbers_66 ?_
              refine zv_ci0 (pc := 67) (ws' := (fun uz : zMem => (zd_X5_layNumbers_tr cI adO qO3 qO4 qO5 qO6 adP2 qP20 qP21 qP22 qP23 qP24 oO0 oO1 oO7 oO8 oO9 oO10 oO11 O uz))) C (zv_runV (As := [.int (P2 5 0), .int ((O 3) (Int32.toNatClampNeg x5_5)), .int ((O 4) (Int32.toNatClampNeg x5_5)), .int (1 : Int32)]) (b := adP2) (rest := []) (ci := 2) (q0 := 5) C (zc_X3_insert l G cI adP2 qP20 qP21 qP22 qP23 qP24 P2 (P2 5 0) ((O 3) (Int32.toNatClampNeg x5_5)) ((O 4) (Int32.toNatClampNeg x5_5)) (1 : Int32) _ hF) (cwV 4 C.2.2.2.2.1 gX5_layNumbers_X3_insert rfl rfl rfl zy_X3_insert ⟨Nat.le_of_ble_eq_true rfl, Nat.le_of_ble_eq_true rfl⟩) rfl rfl rfl rfl rfl (Nat.le_of_ble_eq_true rfl) ⟨Nat.zero_le _, Nat.zero_le _⟩ dX5_layNumbers_67) [5, 6, 7, 8, 9, 10] [0, 1, 2, 3, 4] rfl rfl rfl rfl rfl (fun _ => rfl) (fun _ => rfl) (fun _ => rfl) (fun v_15 uz hF => ?_)
              obtain ⟨T_14, hE⟩ : ∃ z, z = uz := ⟨_, rfl⟩; subst hE
              refine zv_pop (pc := 70) C rfl dX5_layNumbers_70 ?_
              obtain ⟨x4_16, ex4_16⟩ : ∃ y : Int32, y = p4 + (1 : Int32) := ⟨_, rfl⟩
              replace hF := hF x4_16 ex4_16
              refine zv_iinc (pc := 71) (v := x4_16) (lv' := [(4, .int x4_16), (5, .int x5_5), (0, .ref adO), (1, .ref adP2), (2, .ref qO5), (3, .int c3)]) C 5 rfl (by rw [ex4_16]; rfl) (by decide) rfl dX5_layNumbers_71 ?_
              refine zv_goto (pc := 74) (tgt := 7) C dX5_layNumbers_74 (by decide) ?_
              exact zv_lvs [2, 3, 4, 5, 0] rfl (ih x4_16 T_14 hF)
set_option maxHeartbeats 4000000 in
set_option maxRecDepth 100000 in
theorem zc_X5_layNumbers_tr (l : Launch) (G : va_G) (cI : ClassId) (adO qO3 qO4 qO5 qO6 adP2 qP20 qP21 qP22 qP23 qP24 oO0 oO1 oO7 oO8 oO9 oO10 oO11 : Nat) (O : zMem) (P2 : zMem) (nn : Int32) (post : zMem → Prop) (hF : zw_X5_layNumbers_tr O P2 nn post) (sz : Nat) : Met l yX5_layNumbers wsX5_layNumbers rmX5_layNumbers_tr (va_Pc [.ref adO, .ref adP2, .ref qO5, .int nn] (zv_in G cI (zd_X5_layNumbers_tr cI adO qO3 qO4 qO5 qO6 adP2 qP20 qP21 qP22 qP23 qP24 oO0 oO1 oO7 oO8 oO9 oO10 oO11 O P2) sz)) (va_Qv (fun uz : zMem => post uz) (fun (uz : zMem) t => zv_out G cI (va_A (zd_X5_layNumbers_tr cI adO qO3 qO4 qO5 qO6 adP2 qP20 qP21 qP22 qP23 qP24 oO0 oO1 oO7 oO8 oO9 oO10 oO11 O P2) sz) (zd_X5_layNumbers_tr cI adO qO3 qO4 qO5 qO6 adP2 qP20 qP21 qP22 qP23 qP24 oO0 oO1 oO7 oO8 oO9 oO10 oO11 O uz) t) (va_A (zd_X5_layNumbers_tr cI adO qO3 qO4 qO5 qO6 adP2 qP20 qP21 qP22 qP23 qP24 oO0 oO1 oO7 oO8 oO9 oO10 oO11 O P2) sz)) 0 0 (va_A (zd_X5_layNumbers_tr cI adO qO3 qO4 qO5 qO6 adP2 qP20 qP21 qP22 qP23 qP24 oO0 oO1 oO7 oO8 oO9 oO10 oO11 O P2) sz) := by
  refine zv_met (cc := cX5_layNumbers) (maxL := 6) (ret := none) (lv0 := [(0, .ref adO), (1, .ref adP2), (2, .ref qO5), (3, .int nn)]) (Qc := fun A => va_Qv (fun uz : zMem => post uz) (fun (uz : zMem) t => zv_out G cI A (zd_X5_layNumbers_tr cI adO qO3 qO4 qO5 qO6 adP2 qP20 qP21 qP22 qP23 qP24 oO0 oO1 oO7 oO8 oO9 oO10 oO11 O uz) t) A) (by decide) rfl (Nat.le_of_ble_eq_true rfl) rfl ?_ sz
  intro p e s m below meth c A C hr hlk
  clear sz
  refine zv_aload_n (pc := 0) C rfl 1 rfl dX5_layNumbers_0 ?_
  refine zv_cv0 (pc := 1) (ws' := (fun uz : zMem => (zd_X5_layNumbers_tr cI adO qO3 qO4 qO5 qO6 adP2 qP20 qP21 qP22 qP23 qP24 oO0 oO1 oO7 oO8 oO9 oO10 oO11 O uz))) C (zv_runV (As := []) (b := adP2) (rest := []) (ci := 2) (q0 := 5) C (zc_X3_removeAll l G cI adP2 qP20 qP21 qP22 qP23 qP24 P2 _ hF) (cwV 0 C.2.2.2.2.1 gX5_layNumbers_X3_removeAll rfl rfl rfl zy_X3_removeAll ⟨Nat.le_of_ble_eq_true rfl, Nat.le_of_ble_eq_true rfl⟩) rfl rfl rfl rfl rfl (Nat.le_of_ble_eq_true rfl) ⟨Nat.zero_le _, Nat.zero_le _⟩ dX5_layNumbers_1) [5, 6, 7, 8, 9, 10] [0, 1, 2, 3, 4] rfl rfl rfl rfl rfl (fun _ => rfl) (fun _ => rfl) (fun _ => rfl) (fun uz hF => ?_)
  obtain ⟨T_1, hE⟩ : ∃ z, z = uz := ⟨_, rfl⟩; subst hE
  refine zv_iconst (pc := 4) (v := 0) C (by decide) dX5_layNumbers_4 ?_
  refine zv_istore (pc := 5) (lv' := [(4, .int (0 : Int32)), (0, .ref adO), (1, .ref adP2), (2, .ref qO5), (3, .int nn)]) C (by decide) rfl dX5_layNumbers_5 ?_
  obtain ⟨kf, hF⟩ := hF
  refine zv_lvs [1, 2, 3, 4, 0] rfl (zl_X5_layNumbers_tr_7 adO qO3 qO4 qO5 qO6 adP2 qP20 qP21 qP22 qP23 qP24 oO0 oO1 oO7 oO8 oO9 oO10 oO11 O nn _ C ?_ kf (0 : Int32) T_1 hF)
  · intro T_17 hF
    exact zv_vret (pc := 77) C hr hlk T_17 hF rfl dX5_layNumbers_77
theorem zf_X5_layNumbers_pi_22 : Cond.fieldLink RX5 22 "GlassStack" "listUp" "[I" ∈ wsX5_layNumbers := (List.mem_of_getElem? (i := 3) rfl)
theorem zf_X5_layNumbers_pi_26 : Cond.fieldLink RX5 26 "GlassStack" "listBelow" "[I" ∈ wsX5_layNumbers := (List.mem_of_getElem? (i := 4) rfl)
theorem zf_X5_layNumbers_pi_69 : Cond.fieldLink RX5 69 "GlassStack" "listed" "I" ∈ wsX5_layNumbers := (List.mem_of_getElem? (i := 1) rfl)
theorem zf_X5_layNumbers_pi_93 : Cond.fieldLink RX5 93 "GlassStack$Pile" "count" "I" ∈ wsX5_layNumbers := (List.mem_of_getElem? (i := 2) rfl)
theorem zi_X5_layNumbers_pi_X3 : ∀ w ∈ wsX30, w ∈ wsX5_layNumbers := fun w h => List.mem_cons_of_mem _ (List.mem_append_right _ h)
theorem zi_X5_layNumbers_pi_X5 : ∀ w ∈ wsX50, w ∈ wsX5_layNumbers := fun w h => List.mem_cons_of_mem _ (List.mem_append_left _ (List.mem_append_right _ h))
set_option maxHeartbeats 4000000 in
set_option maxRecDepth 100000 in
theorem zl_X5_layNumbers_pi_7 {p : Program} {l : Launch} {e : Env} {s : State} {m : MethodId} {args : Array Value} {below : List Frame} {meth : Method} {c : Code} {G : va_G} {cI : ClassId} {A : Nat → Prop} {Q : State → Prop} (adO qO3 qO4 qO5 qO6 adP qP0 qP1 qP2 qP3 qP4 oO0 oO1 oO2 oO7 oO8 oO9 oO10 oO11 : Nat) (O : zMem) (c3 : Int32) (K77 : zMem → Prop) (C : zv_C p s m args c cX5_layNumbers 6 RX5 wsX5_layNumbers G cI A) (hK77 : ∀ (P : zMem), K77 P → zv_V p l e (headSpec wsX5_layNumbers rmX5_layNumbers_pi).room s m args below meth c Q G A 6 0 0 (zd_X5_layNumbers_pi cI adO qO3 qO4 qO5 qO6 adP qP0 qP1 qP2 qP3 qP4 oO0 oO1 oO2 oO7 oO8 oO9 oO10 oO11 O P) 77 [] []) : ∀ (k : Nat) (p4 : Int32) (P : zMem), zw_X5_layNumbers_pi_7 O c3 K77 k p4 P → zv_V p l e (headSpec wsX5_layNumbers rmX5_layNumbers_pi).room s m args below meth c Q G A 6 0 0 (zd_X5_layNumbers_pi cI adO qO3 qO4 qO5 qO6 adP qP0 qP1 qP2 qP3 qP4 oO0 oO1 oO2 oO7 oO8 oO9 oO10 oO11 O P) 7 [(0, .ref adO), (1, .ref adP), (2, .ref qO6), (3, .int c3), (4, .int p4)] [] := by
  intro k
  induction k with
  | zero => intro p4 P hF; exact (show False from hF).elim
  | succ k ih =>
    intro p4 P hF
    refine zv_iload (pc := 7) C 4 rfl dX5_layNumbers_7 ?_
    refine zv_iload_n (pc := 9) C rfl 3 rfl dX5_layNumbers_9 ?_
    refine zv_icmp_ge (pc := 10) (tgt := 77) C dX5_layNumbers_10 (by decide) (fun c_2 => ?_) (fun c_2 => ?_)
    · replace hF := And.left hF c_2
      exact zv_lvs [] rfl (hK77 P hF)
    · replace hF := And.right hF c_2
      refine zv_iload (pc := 13) C 4 rfl dX5_layNumbers_13 ?_
      refine zv_aload_n (pc := 15) C rfl 2 rfl dX5_layNumbers_15 ?_
      refine zv_alen (pc := 16) (n := 3) (f := (O 6)) (v := (3 : Int32)) C 4 (by decide) rfl dX5_layNumbers_16 ?_
      refine zv_icmp_ge (pc := 17) (tgt := 77) C dX5_layNumbers_17 (by decide) (fun c_3 => ?_) (fun c_3 => ?_)
      · replace hF := And.left hF c_3
        exact zv_lvs [] rfl (hK77 P hF)
      · replace hF := And.right hF c_3
        refine zv_aload_n (pc := 20) C rfl 2 rfl dX5_layNumbers_20 ?_
        refine zv_iload (pc := 21) C 4 rfl dX5_layNumbers_21 ?_
        obtain ⟨h_4, hF⟩ := hF
        refine zv_iald (pc := 23) (n := 3) (f := (O 6)) C 4 h_4 rfl dX5_layNumbers_23 ?_
        refine zv_topi (fun x5_5 ex5_5 => ?_)
        replace hF := hF x5_5 ex5_5
        refine zv_istore (pc := 24) (lv' := [(5, .int x5_5), (0, .ref adO), (1, .ref adP), (2, .ref qO6), (3, .int c3), (4, .int p4)]) C (by decide) rfl dX5_layNumbers_24 ?_
        refine zv_iload (pc := 26) C 0 rfl dX5_layNumbers_26 ?_
        refine zv_if_lt (pc := 28) (tgt := 71) C dX5_layNumbers_28 (by decide) (fun c_6 => ?_) (fun c_6 => ?_)
        · replace hF := And.left hF c_6
          obtain ⟨x4_7, ex4_7⟩ : ∃ y : Int32, y = p4 + (1 : Int32) := ⟨_, rfl⟩
          replace hF := hF x4_7 ex4_7
          refine zv_iinc (pc := 71) (v := x4_7) (lv' := [(4, .int x4_7), (5, .int x5_5), (0, .ref adO), (1, .ref adP), (2, .ref qO6), (3, .int c3)]) C 5 rfl (by rw [ex4_7]; rfl) (by decide) rfl dX5_layNumbers_71 ?_
          refine zv_goto (pc := 74) (tgt := 7) C dX5_layNumbers_74 (by decide) ?_
          exact zv_lvs [2, 3, 4, 5, 0] rfl (ih x4_7 P hF)
        · replace hF := And.right hF c_6
          refine zv_iload (pc := 31) C 0 rfl dX5_layNumbers_31 ?_
          refine zv_aload_n (pc := 33) C rfl 1 rfl dX5_layNumbers_33 ?_
          refine zv_get (pc := 34) (CC := RX5) (T := TX5) (N := 15) (ci := 4) (v := .int (O 14 0)) C zi_X5_layNumbers_pi_X5 0 rfl 14 (by decide) zf_X5_layNumbers_pi_69 rfl rfl dX5_layNumbers_34 ?_
          refine zv_icmp_ge (pc := 37) (tgt := 71) C dX5_layNumbers_37 (by decide) (fun c_8 => ?_) (fun c_8 => ?_)
          · replace hF := And.left hF c_8
            obtain ⟨x4_9, ex4_9⟩ : ∃ y : Int32, y = p4 + (1 : Int32) := ⟨_, rfl⟩
            replace hF := hF x4_9 ex4_9
            refine zv_iinc (pc := 71) (v := x4_9) (lv' := [(4, .int x4_9), (5, .int x5_5), (0, .ref adO), (1, .ref adP), (2, .ref qO6), (3, .int c3)]) C 5 rfl (by rw [ex4_9]; rfl) (by decide) rfl dX5_layNumbers_71 ?_
            refine zv_goto (pc := 74) (tgt := 7) C dX5_layNumbers_74 (by decide) ?_
            exact zv_lvs [2, 3, 4, 5, 0] rfl (ih x4_9 P hF)
          · replace hF := And.right hF c_8
            refine zv_iload (pc := 40) C 0 rfl dX5_layNumbers_40 ?_
            refine zv_bipush (pc := 42) (v := 6) C (by decide) dX5_layNumbers_42 ?_
            refine zv_icmp_ge (pc := 44) (tgt := 71) C dX5_layNumbers_44 (by decide) (fun c_10 => ?_) (fun c_10 => ?_)
            · replace hF := And.left hF c_10
              obtain ⟨x4_11, ex4_11⟩ : ∃ y : Int32, y = p4 + (1 : Int32) := ⟨_, rfl⟩
              replace hF := hF x4_11 ex4_11
              refine zv_iinc (pc := 71) (v := x4_11) (lv' := [(4, .int x4_11), (5, .int x5_5), (0, .ref adO), (1, .ref adP), (2, .ref qO6), (3, .int c3)]) C 5 rfl (by rw [ex4_11]; rfl) (by decide) rfl dX5_layNumbers_71 ?_
              refine zv_goto (pc := 74) (tgt := 7) C dX5_layNumbers_74 (by decide) ?_
              exact zv_lvs [2, 3, 4, 5, 0] rfl (ih x4_11 P hF)
            · replace hF := And.right hF c_10
              refine zv_aload_n (pc := 47) C rfl 2 rfl dX5_layNumbers_47 ?_
              refine zv_aload_n (pc := 48) C rfl 2 rfl dX5_layNumbers_48 ?_
              refine zv_get (pc := 49) (CC := RX3) (T := TX3) (N := 6) (ci := 2) (v := .int (P 5 0)) C zi_X5_layNumbers_pi_X3 5 rfl 5 (by decide) zf_X5_layNumbers_pi_93 rfl rfl dX5_layNumbers_49 ?_
              refine zv_aload_n (pc := 52) C rfl 1 rfl dX5_layNumbers_52 ?_
              refine zv_get (pc := 53) (CC := RX5) (T := TX5) (N := 15) (ci := 4) (v := .ref qO3) C zi_X5_layNumbers_pi_X5 0 rfl 3 (by decide) zf_X5_layNumbers_pi_22 rfl rfl dX5_layNumbers_53 ?_
              refine zv_iload (pc := 56) C 0 rfl dX5_layNumbers_56 ?_
              obtain ⟨h_12, hF⟩ := hF
              refine zv_iald (pc := 58) (n := 6) (f := (O 3)) C 1 h_12 rfl dX5_layNumbers_58 ?_
              refine zv_aload_n (pc := 59) C rfl 1 rfl dX5_layNumbers_59 ?_
              refine zv_get (pc := 60) (CC := RX5) (T := TX5) (N := 15) (ci := 4) (v := .ref qO4) C zi_X5_layNumbers_pi_X5 0 rfl 4 (by decide) zf_X5_layNumbers_pi_26 rfl rfl dX5_layNumbers_60 ?_
              refine zv_iload (pc := 63) C 0 rfl dX5_layNumbers_63 ?_
              obtain ⟨h_13, hF⟩ := hF
              refine zv_iald (pc := 65) (n := 6) (f := (O 4)) C 2 h_13 rfl dX5_layNumbers_65 ?_
              refine zv_iconst (pc := 66) (v := 1) C (by decide) dX5_layNumbers_66 ?_
              refine zv_ci0 (pc := 67) (ws' := (fun uz : zMem => (zd_X5_layNumbers_pi cI adO qO3 qO4 qO5 qO6 adP qP0 qP1 qP2 qP3 qP4 oO0 oO1 oO2 oO7 oO8 oO9 oO10 oO11 O uz))) C (zv_runV (As := [.int (P 5 0), .int ((O 3) (Int32.toNatClampNeg x5_5)), .int ((O 4) (Int32.toNatClampNeg x5_5)), .int (1 : Int32)]) (b := adP) (rest := []) (ci := 2) (q0 := 5) C (zc_X3_insert l G cI adP qP0 qP1 qP2 qP3 qP4 P (P 5 0) ((O 3) (Int32.toNatClampNeg x5_5)) ((O 4) (Int32.toNatClampNeg x5_5)) (1 : Int32) _ hF) (cwV 4 C.2.2.2.2.1 gX5_layNumbers_X3_insert rfl rfl rfl zy_X3_insert ⟨Nat.le_of_ble_eq_true rfl, Nat.le_of_ble_eq_true rfl⟩) rfl rfl rfl rfl rfl (Nat.le_of_ble_eq_true rfl) ⟨Nat.zero_le _, Nat.zero_le _⟩ dX5_layNumbers_67) [5, 6, 7, 8, 9, 10] [0, 1, 2, 3, 4] rfl rfl rfl rfl rfl (fun _ => rfl) (fun _ => rfl) (fun _ => rfl) (fun v_15 uz hF => ?_)
              obtain ⟨T_14, hE⟩ : ∃ z, z = uz := ⟨_, rfl⟩; subst hE
              refine zv_pop (pc := 70) C rfl dX5_layNumbers_70 ?_
              obtain ⟨x4_16, ex4_16⟩ : ∃ y : Int32, y = p4 + (1 : Int32) := ⟨_, rfl⟩
              replace hF := hF x4_16 ex4_16
              refine zv_iinc (pc := 71) (v := x4_16) (lv' := [(4, .int x4_16), (5, .int x5_5), (0, .ref adO), (1, .ref adP), (2, .ref qO6), (3, .int c3)]) C 5 rfl (by rw [ex4_16]; rfl) (by decide) rfl dX5_layNumbers_71 ?_
              refine zv_goto (pc := 74) (tgt := 7) C dX5_layNumbers_74 (by decide) ?_
              exact zv_lvs [2, 3, 4, 5, 0] rfl (ih x4_16 T_14 hF)
set_option maxHeartbeats 4000000 in
set_option maxRecDepth 100000 in
theorem zc_X5_layNumbers_pi (l : Launch) (G : va_G) (cI : ClassId) (adO qO3 qO4 qO5 qO6 adP qP0 qP1 qP2 qP3 qP4 oO0 oO1 oO2 oO7 oO8 oO9 oO10 oO11 : Nat) (O : zMem) (P : zMem) (nn : Int32) (post : zMem → Prop) (hF : zw_X5_layNumbers_pi O P nn post) (sz : Nat) : Met l yX5_layNumbers wsX5_layNumbers rmX5_layNumbers_pi (va_Pc [.ref adO, .ref adP, .ref qO6, .int nn] (zv_in G cI (zd_X5_layNumbers_pi cI adO qO3 qO4 qO5 qO6 adP qP0 qP1 qP2 qP3 qP4 oO0 oO1 oO2 oO7 oO8 oO9 oO10 oO11 O P) sz)) (va_Qv (fun uz : zMem => post uz) (fun (uz : zMem) t => zv_out G cI (va_A (zd_X5_layNumbers_pi cI adO qO3 qO4 qO5 qO6 adP qP0 qP1 qP2 qP3 qP4 oO0 oO1 oO2 oO7 oO8 oO9 oO10 oO11 O P) sz) (zd_X5_layNumbers_pi cI adO qO3 qO4 qO5 qO6 adP qP0 qP1 qP2 qP3 qP4 oO0 oO1 oO2 oO7 oO8 oO9 oO10 oO11 O uz) t) (va_A (zd_X5_layNumbers_pi cI adO qO3 qO4 qO5 qO6 adP qP0 qP1 qP2 qP3 qP4 oO0 oO1 oO2 oO7 oO8 oO9 oO10 oO11 O P) sz)) 0 0 (va_A (zd_X5_layNumbers_pi cI adO qO3 qO4 qO5 qO6 adP qP0 qP1 qP2 qP3 qP4 oO0 oO1 oO2 oO7 oO8 oO9 oO10 oO11 O P) sz) := by
  refine zv_met (cc := cX5_layNumbers) (maxL := 6) (ret := none) (lv0 := [(0, .ref adO), (1, .ref adP), (2, .ref qO6), (3, .int nn)]) (Qc := fun A => va_Qv (fun uz : zMem => post uz) (fun (uz : zMem) t => zv_out G cI A (zd_X5_layNumbers_pi cI adO qO3 qO4 qO5 qO6 adP qP0 qP1 qP2 qP3 qP4 oO0 oO1 oO2 oO7 oO8 oO9 oO10 oO11 O uz) t) A) (by decide) rfl (Nat.le_of_ble_eq_true rfl) rfl ?_ sz
  intro p e s m below meth c A C hr hlk
  clear sz
  refine zv_aload_n (pc := 0) C rfl 1 rfl dX5_layNumbers_0 ?_
  refine zv_cv0 (pc := 1) (ws' := (fun uz : zMem => (zd_X5_layNumbers_pi cI adO qO3 qO4 qO5 qO6 adP qP0 qP1 qP2 qP3 qP4 oO0 oO1 oO2 oO7 oO8 oO9 oO10 oO11 O uz))) C (zv_runV (As := []) (b := adP) (rest := []) (ci := 2) (q0 := 5) C (zc_X3_removeAll l G cI adP qP0 qP1 qP2 qP3 qP4 P _ hF) (cwV 0 C.2.2.2.2.1 gX5_layNumbers_X3_removeAll rfl rfl rfl zy_X3_removeAll ⟨Nat.le_of_ble_eq_true rfl, Nat.le_of_ble_eq_true rfl⟩) rfl rfl rfl rfl rfl (Nat.le_of_ble_eq_true rfl) ⟨Nat.zero_le _, Nat.zero_le _⟩ dX5_layNumbers_1) [5, 6, 7, 8, 9, 10] [0, 1, 2, 3, 4] rfl rfl rfl rfl rfl (fun _ => rfl) (fun _ => rfl) (fun _ => rfl) (fun uz hF => ?_)
  obtain ⟨T_1, hE⟩ : ∃ z, z = uz := ⟨_, rfl⟩; subst hE
  refine zv_iconst (pc := 4) (v := 0) C (by decide) dX5_layNumbers_4 ?_
  refine zv_istore (pc := 5) (lv' := [(4, .int (0 : Int32)), (0, .ref adO), (1, .ref adP), (2, .ref qO6), (3, .int nn)]) C (by decide) rfl dX5_layNumbers_5 ?_
  obtain ⟨kf, hF⟩ := hF
  refine zv_lvs [1, 2, 3, 4, 0] rfl (zl_X5_layNumbers_pi_7 adO qO3 qO4 qO5 qO6 adP qP0 qP1 qP2 qP3 qP4 oO0 oO1 oO2 oO7 oO8 oO9 oO10 oO11 O nn _ C ?_ kf (0 : Int32) T_1 hF)
  · intro T_17 hF
    exact zv_vret (pc := 77) C hr hlk T_17 hF rfl dX5_layNumbers_77
theorem zf_X5_pane_215 : Cond.fieldLink RX5 215 "GlassStack$Panes" "count" "I" ∈ wsX5_pane := (List.mem_of_getElem? (i := 4) rfl)
theorem zf_X5_pane_38 : Cond.fieldLink RX5 38 "GlassStack" "panes" "LGlassStack$Panes;" ∈ wsX5_pane := (List.mem_of_getElem? (i := 3) rfl)
theorem zi_X5_pane_X2 : ∀ w ∈ wsX20, w ∈ wsX5_pane := fun w h => List.mem_cons_of_mem _ (List.mem_append_left _ (List.mem_append_right _ h))
theorem zi_X5_pane_X5 : ∀ w ∈ wsX50, w ∈ wsX5_pane := fun w h => List.mem_cons_of_mem _ (List.mem_append_left _ (List.mem_append_left _ (List.mem_append_right _ h)))
theorem zy_X5_pane : yX5_pane.cls = RX5 ∧ yX5_pane.cls ≠ "java/lang/invoke/MethodHandle" ∧ yX5_pane.cls ≠ "java/lang/invoke/VarHandle" ∧ (parseMethodDescriptor yX5_pane.desc).map (fun d => d.parameters.length) = some 4 := by decide +kernel
set_option maxHeartbeats 4000000 in
set_option maxRecDepth 100000 in
theorem zc_X5_pane (l : Launch) (hlt : l.stackTraces = false) (G : va_G) (cI : ClassId) (adO qO3 qO4 qO5 qO6 adN qN0 qN1 qN2 qN3 qN4 qN5 oO0 oO1 oO2 oO8 oO9 oO10 oO11 : Nat) (O : zMem) (N : zMem) (bu : Int32) (bl : Int32) (ou : Int32) (ol : Int32) (post : Int32 → zMem → Prop) (PXA : Prop) (hF : zw_X5_pane O N bu bl ou ol post PXA) (sz : Nat) : vx_Met l yX5_pane wsX5_pane rmX5_pane (va_Pc [.ref adO, .int bu, .int bl, .int ou, .int ol] (zx_in G cI (zd_X5_pane cI adO qO3 qO4 qO5 qO6 adN qN0 qN1 qN2 qN3 qN4 qN5 oO0 oO1 oO2 oO8 oO9 oO10 oO11 O N) sz)) (va_Qi (fun (rz : Int32) (uz : zMem) => post rz uz) (fun (uz : zMem) t => zv_out G cI (va_A (zd_X5_pane cI adO qO3 qO4 qO5 qO6 adN qN0 qN1 qN2 qN3 qN4 qN5 oO0 oO1 oO2 oO8 oO9 oO10 oO11 O N) sz) (zd_X5_pane cI adO qO3 qO4 qO5 qO6 adN qN0 qN1 qN2 qN3 qN4 qN5 oO0 oO1 oO2 oO8 oO9 oO10 oO11 O uz) t) (va_A (zd_X5_pane cI adO qO3 qO4 qO5 qO6 adN qN0 qN1 qN2 qN3 qN4 qN5 oO0 oO1 oO2 oO8 oO9 oO10 oO11 O N) sz)) (zx_X G cI (va_A (zd_X5_pane cI adO qO3 qO4 qO5 qO6 adN qN0 qN1 qN2 qN3 qN4 qN5 oO0 oO1 oO2 oO8 oO9 oO10 oO11 O N) sz) (zd_X5_pane cI adO qO3 qO4 qO5 qO6 adN qN0 qN1 qN2 qN3 qN4 qN5 oO0 oO1 oO2 oO8 oO9 oO10 oO11 O N) (fun E => (E = "java/lang/IllegalArgumentException" ∧ PXA))) 1 6 (va_A (zd_X5_pane cI adO qO3 qO4 qO5 qO6 adN qN0 qN1 qN2 qN3 qN4 qN5 oO0 oO1 oO2 oO8 oO9 oO10 oO11 O N) sz) := by
  refine zx_met (cc := cX5_pane) (maxL := 5) (ret := (some .int)) (lv0 := [(0, .ref adO), (1, .int bu), (2, .int bl), (3, .int ou), (4, .int ol)]) (Qc := fun A => va_Qi (fun (rz : Int32) (uz : zMem) => post rz uz) (fun (uz : zMem) t => zv_out G cI A (zd_X5_pane cI adO qO3 qO4 qO5 qO6 adN qN0 qN1 qN2 qN3 qN4 qN5 oO0 oO1 oO2 oO8 oO9 oO10 oO11 O uz) t) A) (XC := fun A => zx_X G cI A (zd_X5_pane cI adO qO3 qO4 qO5 qO6 adN qN0 qN1 qN2 qN3 qN4 qN5 oO0 oO1 oO2 oO8 oO9 oO10 oO11 O N) (fun E => (E = "java/lang/IllegalArgumentException" ∧ PXA))) (by decide) rfl (Nat.le_of_ble_eq_true rfl) rfl ?_ sz
  intro p e s m below meth c A C hB hT hr hlk
  clear sz
  refine zv_iload_n (pc := 0) C rfl 1 rfl dX5_pane_0 ?_
  refine zv_iload_n (pc := 1) C rfl 2 rfl dX5_pane_1 ?_
  refine zv_ci0 (pc := 2) (ws' := (fun uz : Unit => (zd_X5_pane cI adO qO3 qO4 qO5 qO6 adN qN0 qN1 qN2 qN3 qN4 qN5 oO0 oO1 oO2 oO8 oO9 oO10 oO11 O N))) C (zv_runS (As := [.int bu, .int bl]) (rest := []) C (zc_X2_isShare l G cI bu bl _ hF) (va_cwS 2 C.2.2.2.2.1 gX5_pane_X2_isShare rfl rfl rfl zy_X2_isShare ⟨Nat.le_of_ble_eq_true rfl, Nat.le_of_ble_eq_true rfl⟩) rfl rfl (Nat.le_of_ble_eq_true rfl) ⟨Nat.zero_le _, Nat.zero_le _⟩ dX5_pane_2) [] [0, 1, 2, 3, 4, 5, 6, 7, 8, 9, 10, 11] rfl rfl rfl rfl rfl (fun _ => rfl) (fun _ => rfl) (fun _ => rfl) (fun v_1 uz hF => ?_)
  refine zv_if_eq (pc := 5) (tgt := 17) C dX5_pane_5 (by decide) (fun c_2 => ?_) (fun c_2 => ?_)
  · replace hF := And.left hF c_2
    exact zx_throw (pc := 17) (cls := "java/lang/IllegalArgumentException") (text := "a share is 0 to 100 by 1 to 100") (ik := 76) (is := 208) (ic := 80) C hB hT hlt hlk rfl (by decide +kernel) (List.mem_of_getElem? (i := 12) rfl) (List.mem_of_getElem? (i := 1) rfl) (List.mem_of_getElem? (i := 2) rfl) (fun w h => List.mem_cons_of_mem _ (List.mem_append_right _ h)) zxb_80 zxg_76_80 dX5_pane_17 dX5_pane_20 dX5_pane_21 dX5_pane_23 dX5_pane_26 (Nat.le_of_ble_eq_true rfl) (Nat.le_of_ble_eq_true rfl) (Nat.le_of_ble_eq_true rfl) (Nat.le_of_ble_eq_true rfl) (Nat.le_of_ble_eq_true rfl) (Nat.le_of_ble_eq_true rfl) rfl (⟨rfl, hF⟩)
  · replace hF := And.right hF c_2
    refine zv_iload_n (pc := 8) C rfl 3 rfl dX5_pane_8 ?_
    refine zv_iload (pc := 9) C 4 rfl dX5_pane_9 ?_
    refine zv_ci0 (pc := 11) (ws' := (fun uz : Unit => (zd_X5_pane cI adO qO3 qO4 qO5 qO6 adN qN0 qN1 qN2 qN3 qN4 qN5 oO0 oO1 oO2 oO8 oO9 oO10 oO11 O N))) C (zv_runS (As := [.int ou, .int ol]) (rest := []) C (zc_X2_isShare l G cI ou ol _ hF) (va_cwS 2 C.2.2.2.2.1 gX5_pane_X2_isShare rfl rfl rfl zy_X2_isShare ⟨Nat.le_of_ble_eq_true rfl, Nat.le_of_ble_eq_true rfl⟩) rfl rfl (Nat.le_of_ble_eq_true rfl) ⟨Nat.zero_le _, Nat.zero_le _⟩ dX5_pane_11) [] [0, 1, 2, 3, 4, 5, 6, 7, 8, 9, 10, 11] rfl rfl rfl rfl rfl (fun _ => rfl) (fun _ => rfl) (fun _ => rfl) (fun v_3 uz hF => ?_)
    refine zv_if_ne (pc := 14) (tgt := 27) C dX5_pane_14 (by decide) (fun c_4 => ?_) (fun c_4 => ?_)
    · replace hF := And.left hF c_4
      refine zv_iload_n (pc := 27) C rfl 1 rfl dX5_pane_27 ?_
      refine zv_iload (pc := 28) C 4 rfl dX5_pane_28 ?_
      refine zv_imul (pc := 30) C  dX5_pane_30 ?_
      refine zv_iload_n (pc := 31) C rfl 3 rfl dX5_pane_31 ?_
      refine zv_iload_n (pc := 32) C rfl 2 rfl dX5_pane_32 ?_
      refine zv_imul (pc := 33) C  dX5_pane_33 ?_
      refine zv_iadd (pc := 34) C  dX5_pane_34 ?_
      refine zv_iload_n (pc := 35) C rfl 2 rfl dX5_pane_35 ?_
      refine zv_iload (pc := 36) C 4 rfl dX5_pane_36 ?_
      refine zv_imul (pc := 38) C  dX5_pane_38 ?_
      refine zv_icmp_le (pc := 39) (tgt := 52) C dX5_pane_39 (by decide) (fun c_5 => ?_) (fun c_5 => ?_)
      · replace hF := And.left hF c_5
        refine zv_aload_n (pc := 52) C rfl 0 rfl dX5_pane_52 ?_
        refine zv_get (pc := 53) (CC := RX5) (T := TX5) (N := 15) (ci := 4) (v := .ref adN) C zi_X5_pane_X5 0 rfl 7 (by decide) zf_X5_pane_38 rfl rfl dX5_pane_53 ?_
        refine zv_iload_n (pc := 56) C rfl 1 rfl dX5_pane_56 ?_
        refine zv_iload_n (pc := 57) C rfl 2 rfl dX5_pane_57 ?_
        refine zv_iload_n (pc := 58) C rfl 3 rfl dX5_pane_58 ?_
        refine zv_iload (pc := 59) C 4 rfl dX5_pane_59 ?_
        refine zv_ci0 (pc := 61) (ws' := (fun uz : zMem => (zd_X5_pane cI adO qO3 qO4 qO5 qO6 adN qN0 qN1 qN2 qN3 qN4 qN5 oO0 oO1 oO2 oO8 oO9 oO10 oO11 O uz))) C (zv_runV (As := [.int bu, .int bl, .int ou, .int ol]) (b := adN) (rest := []) (ci := 1) (q0 := 5) C (zc_X2_append l G cI adN qN0 qN1 qN2 qN3 qN4 qN5 N bu bl ou ol _ hF) (cwV 4 C.2.2.2.2.1 gX5_pane_X2_append rfl rfl rfl zy_X2_append ⟨Nat.le_of_ble_eq_true rfl, Nat.le_of_ble_eq_true rfl⟩) rfl rfl rfl rfl rfl (Nat.le_of_ble_eq_true rfl) ⟨Nat.zero_le _, Nat.zero_le _⟩ dX5_pane_61) [5, 6, 7, 8, 9, 10, 11] [0, 1, 2, 3, 4] rfl rfl rfl rfl rfl (fun _ => rfl) (fun _ => rfl) (fun _ => rfl) (fun v_7 uz hF => ?_)
        obtain ⟨T_6, hE⟩ : ∃ z, z = uz := ⟨_, rfl⟩; subst hE
        refine zv_if_eq (pc := 64) (tgt := 77) C dX5_pane_64 (by decide) (fun c_8 => ?_) (fun c_8 => ?_)
        · replace hF := And.left hF c_8
          refine zv_iconst (pc := 77) (v := -1) C (by decide) dX5_pane_77 ?_
          refine zx_ret (mc := 1) (ms := 6) (Nat.le_of_ble_eq_true rfl) (Nat.le_of_ble_eq_true rfl) ?_
          exact zv_iret (pc := 78) C hr hlk (-1 : Int32) T_6 hF rfl dX5_pane_78
        · replace hF := And.right hF c_8
          refine zv_aload_n (pc := 67) C rfl 0 rfl dX5_pane_67 ?_
          refine zv_get (pc := 68) (CC := RX5) (T := TX5) (N := 15) (ci := 4) (v := .ref adN) C zi_X5_pane_X5 0 rfl 7 (by decide) zf_X5_pane_38 rfl rfl dX5_pane_68 ?_
          refine zv_get (pc := 71) (CC := RX2) (T := TX2) (N := 7) (ci := 1) (v := .int (T_6 6 0)) C zi_X5_pane_X2 5 rfl 6 (by decide) zf_X5_pane_215 rfl rfl dX5_pane_71 ?_
          refine zv_goto (pc := 74) (tgt := 78) C dX5_pane_74 (by decide) ?_
          refine zx_ret (mc := 1) (ms := 6) (Nat.le_of_ble_eq_true rfl) (Nat.le_of_ble_eq_true rfl) ?_
          exact zv_iret (pc := 78) C hr hlk (T_6 6 0) T_6 hF rfl dX5_pane_78
      · replace hF := And.right hF c_5
        exact zx_throw (pc := 42) (cls := "java/lang/IllegalArgumentException") (text := "a pane sends back and on at most all") (ik := 76) (is := 210) (ic := 80) C hB hT hlt hlk rfl (by decide +kernel) (List.mem_of_getElem? (i := 13) rfl) (List.mem_of_getElem? (i := 1) rfl) (List.mem_of_getElem? (i := 2) rfl) (fun w h => List.mem_cons_of_mem _ (List.mem_append_right _ h)) zxb_80 zxg_76_80 dX5_pane_42 dX5_pane_45 dX5_pane_46 dX5_pane_48 dX5_pane_51 (Nat.le_of_ble_eq_true rfl) (Nat.le_of_ble_eq_true rfl) (Nat.le_of_ble_eq_true rfl) (Nat.le_of_ble_eq_true rfl) (Nat.le_of_ble_eq_true rfl) (Nat.le_of_ble_eq_true rfl) rfl (⟨rfl, hF⟩)
    · replace hF := And.right hF c_4
      exact zx_throw (pc := 17) (cls := "java/lang/IllegalArgumentException") (text := "a share is 0 to 100 by 1 to 100") (ik := 76) (is := 208) (ic := 80) C hB hT hlt hlk rfl (by decide +kernel) (List.mem_of_getElem? (i := 12) rfl) (List.mem_of_getElem? (i := 1) rfl) (List.mem_of_getElem? (i := 2) rfl) (fun w h => List.mem_cons_of_mem _ (List.mem_append_right _ h)) zxb_80 zxg_76_80 dX5_pane_17 dX5_pane_20 dX5_pane_21 dX5_pane_23 dX5_pane_26 (Nat.le_of_ble_eq_true rfl) (Nat.le_of_ble_eq_true rfl) (Nat.le_of_ble_eq_true rfl) (Nat.le_of_ble_eq_true rfl) (Nat.le_of_ble_eq_true rfl) (Nat.le_of_ble_eq_true rfl) rfl (⟨rfl, hF⟩)
theorem zf_X5_clear_215 : Cond.fieldLink RX5 215 "GlassStack$Panes" "count" "I" ∈ wsX5_clear := (List.mem_of_getElem? (i := 2) rfl)
theorem zf_X5_clear_38 : Cond.fieldLink RX5 38 "GlassStack" "panes" "LGlassStack$Panes;" ∈ wsX5_clear := (List.mem_of_getElem? (i := 1) rfl)
theorem zi_X5_clear_X2 : ∀ w ∈ wsX20, w ∈ wsX5_clear := fun w h => List.mem_cons_of_mem _ (List.mem_append_right _ h)
theorem zi_X5_clear_X5 : ∀ w ∈ wsX50, w ∈ wsX5_clear := fun w h => List.mem_cons_of_mem _ (List.mem_append_left _ (List.mem_append_right _ h))
theorem zy_X5_clear : yX5_clear.cls = RX5 ∧ yX5_clear.cls ≠ "java/lang/invoke/MethodHandle" ∧ yX5_clear.cls ≠ "java/lang/invoke/VarHandle" ∧ (parseMethodDescriptor yX5_clear.desc).map (fun d => d.parameters.length) = some 0 := by decide +kernel
set_option maxHeartbeats 4000000 in
set_option maxRecDepth 100000 in
theorem zc_X5_clear (l : Launch) (G : va_G) (cI : ClassId) (adO qO3 qO4 qO5 qO6 adN qN0 qN1 qN2 qN3 qN4 qN5 oO0 oO1 oO2 oO8 oO9 oO10 oO11 : Nat) (O : zMem) (N : zMem) (post : Int32 → zMem → Prop) (hF : zw_X5_clear O N post) (sz : Nat) : Met l yX5_clear wsX5_clear rmX5_clear (va_Pc [.ref adO] (zv_in G cI (zd_X5_clear cI adO qO3 qO4 qO5 qO6 adN qN0 qN1 qN2 qN3 qN4 qN5 oO0 oO1 oO2 oO8 oO9 oO10 oO11 O N) sz)) (va_Qi (fun (rz : Int32) (uz : zMem) => post rz uz) (fun (uz : zMem) t => zv_out G cI (va_A (zd_X5_clear cI adO qO3 qO4 qO5 qO6 adN qN0 qN1 qN2 qN3 qN4 qN5 oO0 oO1 oO2 oO8 oO9 oO10 oO11 O N) sz) (zd_X5_clear cI adO qO3 qO4 qO5 qO6 adN qN0 qN1 qN2 qN3 qN4 qN5 oO0 oO1 oO2 oO8 oO9 oO10 oO11 O uz) t) (va_A (zd_X5_clear cI adO qO3 qO4 qO5 qO6 adN qN0 qN1 qN2 qN3 qN4 qN5 oO0 oO1 oO2 oO8 oO9 oO10 oO11 O N) sz)) 0 0 (va_A (zd_X5_clear cI adO qO3 qO4 qO5 qO6 adN qN0 qN1 qN2 qN3 qN4 qN5 oO0 oO1 oO2 oO8 oO9 oO10 oO11 O N) sz) := by
  refine zv_met (cc := cX5_clear) (maxL := 2) (ret := (some .int)) (lv0 := [(0, .ref adO)]) (Qc := fun A => va_Qi (fun (rz : Int32) (uz : zMem) => post rz uz) (fun (uz : zMem) t => zv_out G cI A (zd_X5_clear cI adO qO3 qO4 qO5 qO6 adN qN0 qN1 qN2 qN3 qN4 qN5 oO0 oO1 oO2 oO8 oO9 oO10 oO11 O uz) t) A) (by decide) rfl (Nat.le_of_ble_eq_true rfl) rfl ?_ sz
  intro p e s m below meth c A C hr hlk
  clear sz
  refine zv_aload_n (pc := 0) C rfl 0 rfl dX5_clear_0 ?_
  refine zv_get (pc := 1) (CC := RX5) (T := TX5) (N := 15) (ci := 4) (v := .ref adN) C zi_X5_clear_X5 0 rfl 7 (by decide) zf_X5_clear_38 rfl rfl dX5_clear_1 ?_
  refine zv_get (pc := 4) (CC := RX2) (T := TX2) (N := 7) (ci := 1) (v := .int (N 6 0)) C zi_X5_clear_X2 5 rfl 6 (by decide) zf_X5_clear_215 rfl rfl dX5_clear_4 ?_
  refine zv_topi (fun x1_1 ex1_1 => ?_)
  replace hF := hF x1_1 ex1_1
  refine zv_istore_n (pc := 7) (lv' := [(1, .int x1_1), (0, .ref adO)]) C rfl (by decide) rfl dX5_clear_7 ?_
  refine zv_aload_n (pc := 8) C rfl 1 rfl dX5_clear_8 ?_
  refine zv_get (pc := 9) (CC := RX5) (T := TX5) (N := 15) (ci := 4) (v := .ref adN) C zi_X5_clear_X5 0 rfl 7 (by decide) zf_X5_clear_38 rfl rfl dX5_clear_9 ?_
  refine zv_cv0 (pc := 12) (ws' := (fun uz : zMem => (zd_X5_clear cI adO qO3 qO4 qO5 qO6 adN qN0 qN1 qN2 qN3 qN4 qN5 oO0 oO1 oO2 oO8 oO9 oO10 oO11 O uz))) C (zv_runV (As := []) (b := adN) (rest := []) (ci := 1) (q0 := 5) C (zc_X2_removeAll l G cI adN qN0 qN1 qN2 qN3 qN4 qN5 N _ hF) (cwV 0 C.2.2.2.2.1 gX5_clear_X2_removeAll rfl rfl rfl zy_X2_removeAll ⟨Nat.le_of_ble_eq_true rfl, Nat.le_of_ble_eq_true rfl⟩) rfl rfl rfl rfl rfl (Nat.le_of_ble_eq_true rfl) ⟨Nat.zero_le _, Nat.zero_le _⟩ dX5_clear_12) [5, 6, 7, 8, 9, 10, 11] [0, 1, 2, 3, 4] rfl rfl rfl rfl rfl (fun _ => rfl) (fun _ => rfl) (fun _ => rfl) (fun uz hF => ?_)
  obtain ⟨T_2, hE⟩ : ∃ z, z = uz := ⟨_, rfl⟩; subst hE
  refine zv_iload_n (pc := 15) C rfl 0 rfl dX5_clear_15 ?_
  exact zv_iret (pc := 16) C hr hlk x1_1 T_2 hF rfl dX5_clear_16
theorem zf_X5_share_38 : Cond.fieldLink RX5 38 "GlassStack" "panes" "LGlassStack$Panes;" ∈ wsX5_share := (List.mem_of_getElem? (i := 3) rfl)
theorem zf_X5_share_52 : Cond.fieldLink RX5 52 "GlassStack" "told" "LGlassStack$Fraction;" ∈ wsX5_share := (List.mem_of_getElem? (i := 4) rfl)
theorem zi_X5_share_X5 : ∀ w ∈ wsX50, w ∈ wsX5_share := fun w h => List.mem_cons_of_mem _ (List.mem_append_left _ (List.mem_append_left _ (List.mem_append_left _ (List.mem_append_right _ h))))
theorem zy_X5_share : yX5_share.cls = RX5 ∧ yX5_share.cls ≠ "java/lang/invoke/MethodHandle" ∧ yX5_share.cls ≠ "java/lang/invoke/VarHandle" ∧ (parseMethodDescriptor yX5_share.desc).map (fun d => d.parameters.length) = some 3 := by decide +kernel
set_option maxHeartbeats 4000000 in
set_option maxRecDepth 100000 in
theorem zc_X5_share (l : Launch) (hlt : l.stackTraces = false) (G : va_G) (cI : ClassId) (adO qO3 qO4 qO5 qO6 adN qN0 qN1 qN2 qN3 qN4 qN5 adF0 qF00 qF01 qF02 qF03 oO0 oO1 oO2 oO8 oO10 oO11 : Nat) (O : zMem) (N : zMem) (F0 : zMem) (wh : Int32) (be : Int32) (kk : Int32) (post : Int32 → zMem → zMem → Prop) (PXA : Prop) (hF : zw_X5_share O N F0 wh be kk post PXA) (sz : Nat) : vx_Met l yX5_share wsX5_share rmX5_share (va_Pc [.ref adO, .int wh, .int be, .int kk] (zx_in G cI (zd_X5_share cI adO qO3 qO4 qO5 qO6 adN qN0 qN1 qN2 qN3 qN4 qN5 adF0 qF00 qF01 qF02 qF03 oO0 oO1 oO2 oO8 oO10 oO11 O N F0) sz)) (va_Qi (fun (rz : Int32) (uz : zMem × zMem) => post rz uz.1 uz.2) (fun (uz : zMem × zMem) t => zv_out G cI (va_A (zd_X5_share cI adO qO3 qO4 qO5 qO6 adN qN0 qN1 qN2 qN3 qN4 qN5 adF0 qF00 qF01 qF02 qF03 oO0 oO1 oO2 oO8 oO10 oO11 O N F0) sz) (zd_X5_share cI adO qO3 qO4 qO5 qO6 adN qN0 qN1 qN2 qN3 qN4 qN5 adF0 qF00 qF01 qF02 qF03 oO0 oO1 oO2 oO8 oO10 oO11 O uz.1 uz.2) t) (va_A (zd_X5_share cI adO qO3 qO4 qO5 qO6 adN qN0 qN1 qN2 qN3 qN4 qN5 adF0 qF00 qF01 qF02 qF03 oO0 oO1 oO2 oO8 oO10 oO11 O N F0) sz)) (zx_X G cI (va_A (zd_X5_share cI adO qO3 qO4 qO5 qO6 adN qN0 qN1 qN2 qN3 qN4 qN5 adF0 qF00 qF01 qF02 qF03 oO0 oO1 oO2 oO8 oO10 oO11 O N F0) sz) (zd_X5_share cI adO qO3 qO4 qO5 qO6 adN qN0 qN1 qN2 qN3 qN4 qN5 adF0 qF00 qF01 qF02 qF03 oO0 oO1 oO2 oO8 oO10 oO11 O N F0) (fun E => (E = "java/lang/IllegalArgumentException" ∧ PXA))) 1 6 (va_A (zd_X5_share cI adO qO3 qO4 qO5 qO6 adN qN0 qN1 qN2 qN3 qN4 qN5 adF0 qF00 qF01 qF02 qF03 oO0 oO1 oO2 oO8 oO10 oO11 O N F0) sz) := by
  refine zx_met (cc := cX5_share) (maxL := 4) (ret := (some .int)) (lv0 := [(0, .ref adO), (1, .int wh), (2, .int be), (3, .int kk)]) (Qc := fun A => va_Qi (fun (rz : Int32) (uz : zMem × zMem) => post rz uz.1 uz.2) (fun (uz : zMem × zMem) t => zv_out G cI A (zd_X5_share cI adO qO3 qO4 qO5 qO6 adN qN0 qN1 qN2 qN3 qN4 qN5 adF0 qF00 qF01 qF02 qF03 oO0 oO1 oO2 oO8 oO10 oO11 O uz.1 uz.2) t) A) (XC := fun A => zx_X G cI A (zd_X5_share cI adO qO3 qO4 qO5 qO6 adN qN0 qN1 qN2 qN3 qN4 qN5 adF0 qF00 qF01 qF02 qF03 oO0 oO1 oO2 oO8 oO10 oO11 O N F0) (fun E => (E = "java/lang/IllegalArgumentException" ∧ PXA))) (by decide) rfl (Nat.le_of_ble_eq_true rfl) rfl ?_ sz
  intro p e s m below meth c A C hB hT hr hlk
  clear sz
  refine zv_iload_n (pc := 0) C rfl 1 rfl dX5_share_0 ?_
  refine zv_if_lt (pc := 1) (tgt := 9) C dX5_share_1 (by decide) (fun c_1 => ?_) (fun c_1 => ?_)
  · replace hF := And.left hF c_1
    exact zx_throw (pc := 9) (cls := "java/lang/IllegalArgumentException") (text := "a share of the panes is 0 to 3") (ik := 76) (is := 219) (ic := 80) C hB hT hlt hlk rfl (by decide +kernel) (List.mem_of_getElem? (i := 14) rfl) (List.mem_of_getElem? (i := 1) rfl) (List.mem_of_getElem? (i := 2) rfl) (fun w h => List.mem_cons_of_mem _ (List.mem_append_right _ h)) zxb_80 zxg_76_80 dX5_share_9 dX5_share_12 dX5_share_13 dX5_share_15 dX5_share_18 (Nat.le_of_ble_eq_true rfl) (Nat.le_of_ble_eq_true rfl) (Nat.le_of_ble_eq_true rfl) (Nat.le_of_ble_eq_true rfl) (Nat.le_of_ble_eq_true rfl) (Nat.le_of_ble_eq_true rfl) rfl (⟨rfl, hF⟩)
  · replace hF := And.right hF c_1
    refine zv_iload_n (pc := 4) C rfl 1 rfl dX5_share_4 ?_
    refine zv_iconst (pc := 5) (v := 3) C (by decide) dX5_share_5 ?_
    refine zv_icmp_le (pc := 6) (tgt := 19) C dX5_share_6 (by decide) (fun c_2 => ?_) (fun c_2 => ?_)
    · replace hF := And.left hF c_2
      refine zv_iload_n (pc := 19) C rfl 3 rfl dX5_share_19 ?_
      refine zu_cv (pc := 20) (mc := 1) (ms := 6) C hT hlk rfl (Nat.le_of_ble_eq_true rfl) (Nat.le_of_ble_eq_true rfl) (fun _ h => h) (zu_runS (As := [.int kk]) (rest := []) C hB (zc_X5_needPart l hlt G cI kk _ _ hF) (va_cwS 1 C.2.2.2.2.1 gX5_share_X5_needPart rfl rfl rfl zy_X5_needPart ⟨(Nat.le_of_ble_eq_true rfl), (Nat.le_of_ble_eq_true rfl)⟩) rfl rfl (Nat.le_of_ble_eq_true rfl) ⟨(Nat.le_of_ble_eq_true rfl), (Nat.le_of_ble_eq_true rfl)⟩ dX5_share_20) (fun hF => ?_)
      refine zv_aload_n (pc := 23) C rfl 0 rfl dX5_share_23 ?_
      refine zv_get (pc := 24) (CC := RX5) (T := TX5) (N := 15) (ci := 4) (v := .ref adN) C zi_X5_share_X5 0 rfl 7 (by decide) zf_X5_share_38 rfl rfl dX5_share_24 ?_
      refine zv_aload_n (pc := 27) C rfl 0 rfl dX5_share_27 ?_
      refine zv_get (pc := 28) (CC := RX5) (T := TX5) (N := 15) (ci := 4) (v := .ref adF0) C zi_X5_share_X5 0 rfl 9 (by decide) zf_X5_share_52 rfl rfl dX5_share_28 ?_
      refine zv_iload_n (pc := 31) C rfl 1 rfl dX5_share_31 ?_
      refine zv_cv0 (pc := 32) (ws' := (fun uz : zMem × zMem => (zd_X5_share cI adO qO3 qO4 qO5 qO6 adN qN0 qN1 qN2 qN3 qN4 qN5 adF0 qF00 qF01 qF02 qF03 oO0 oO1 oO2 oO8 oO10 oO11 O uz.1 uz.2))) C (zv_runV (As := [.ref adF0, .int wh]) (b := adN) (rest := []) (ci := 1) (q0 := 5) C (zc_X2_tell l G cI adN qN0 qN1 qN2 qN3 qN4 qN5 adF0 qF00 qF01 qF02 qF03 N F0 wh _ hF) (cwV 2 C.2.2.2.2.1 gX5_share_X2_tell rfl rfl rfl zy_X2_tell ⟨Nat.le_of_ble_eq_true rfl, Nat.le_of_ble_eq_true rfl⟩) rfl rfl rfl rfl rfl (Nat.le_of_ble_eq_true rfl) ⟨Nat.zero_le _, Nat.zero_le _⟩ dX5_share_32) [5, 6, 7, 8, 9, 10, 11, 12, 13, 14, 15, 16] [0, 1, 2, 3, 4] rfl rfl rfl rfl rfl (fun _ => rfl) (fun _ => rfl) (fun _ => rfl) (fun uz hF => ?_)
      obtain ⟨T_3, T_4⟩ := uz
      refine zv_aload_n (pc := 35) C rfl 0 rfl dX5_share_35 ?_
      refine zv_get (pc := 36) (CC := RX5) (T := TX5) (N := 15) (ci := 4) (v := .ref adF0) C zi_X5_share_X5 0 rfl 9 (by decide) zf_X5_share_52 rfl rfl dX5_share_36 ?_
      refine zv_cv0 (pc := 39) (ws' := (fun uz : zMem => (zd_X5_share cI adO qO3 qO4 qO5 qO6 adN qN0 qN1 qN2 qN3 qN4 qN5 adF0 qF00 qF01 qF02 qF03 oO0 oO1 oO2 oO8 oO10 oO11 O T_3 uz))) C (zv_runV (As := []) (b := adF0) (rest := []) (ci := 0) (q0 := 12) C (zc_X0_toLowestTerms l G cI adF0 qF00 qF01 qF02 qF03 T_4 _ hF) (cwV 0 C.2.2.2.2.1 gX5_share_X0_toLowestTerms rfl rfl rfl zy_X0_toLowestTerms ⟨Nat.le_of_ble_eq_true rfl, Nat.le_of_ble_eq_true rfl⟩) rfl rfl rfl rfl rfl (Nat.le_of_ble_eq_true rfl) ⟨Nat.zero_le _, Nat.zero_le _⟩ dX5_share_39) [12, 13, 14, 15, 16] [0, 1, 2, 3, 4, 5, 6, 7, 8, 9, 10, 11] rfl rfl rfl rfl rfl (fun _ => rfl) (fun _ => rfl) (fun _ => rfl) (fun uz hF => ?_)
      obtain ⟨T_5, hE⟩ : ∃ z, z = uz := ⟨_, rfl⟩; subst hE
      refine zv_aload_n (pc := 42) C rfl 0 rfl dX5_share_42 ?_
      refine zv_get (pc := 43) (CC := RX5) (T := TX5) (N := 15) (ci := 4) (v := .ref adF0) C zi_X5_share_X5 0 rfl 9 (by decide) zf_X5_share_52 rfl rfl dX5_share_43 ?_
      refine zv_iload_n (pc := 46) C rfl 2 rfl dX5_share_46 ?_
      refine zv_iload_n (pc := 47) C rfl 3 rfl dX5_share_47 ?_
      refine zv_ci0 (pc := 48) (ws' := (fun uz : Unit => (zd_X5_share cI adO qO3 qO4 qO5 qO6 adN qN0 qN1 qN2 qN3 qN4 qN5 adF0 qF00 qF01 qF02 qF03 oO0 oO1 oO2 oO8 oO10 oO11 O T_3 T_5))) C (zv_runV (As := [.int be, .int kk]) (b := adF0) (rest := []) (ci := 0) (q0 := 12) C (zc_X0_part l G cI adF0 qF00 qF01 qF02 qF03 T_5 be kk _ hF) (cwV 2 C.2.2.2.2.1 gX5_share_X0_part rfl rfl rfl zy_X0_part ⟨Nat.le_of_ble_eq_true rfl, Nat.le_of_ble_eq_true rfl⟩) rfl rfl rfl rfl rfl (Nat.le_of_ble_eq_true rfl) ⟨Nat.zero_le _, Nat.zero_le _⟩ dX5_share_48) [12, 13, 14, 15, 16] [0, 1, 2, 3, 4, 5, 6, 7, 8, 9, 10, 11] rfl rfl rfl rfl rfl (fun _ => rfl) (fun _ => rfl) (fun _ => rfl) (fun v_6 uz hF => ?_)
      refine zx_ret (mc := 1) (ms := 6) (Nat.le_of_ble_eq_true rfl) (Nat.le_of_ble_eq_true rfl) ?_
      exact zv_iret (pc := 51) C hr hlk v_6 (T_3, T_5) hF rfl dX5_share_51
    · replace hF := And.right hF c_2
      exact zx_throw (pc := 9) (cls := "java/lang/IllegalArgumentException") (text := "a share of the panes is 0 to 3") (ik := 76) (is := 219) (ic := 80) C hB hT hlt hlk rfl (by decide +kernel) (List.mem_of_getElem? (i := 14) rfl) (List.mem_of_getElem? (i := 1) rfl) (List.mem_of_getElem? (i := 2) rfl) (fun w h => List.mem_cons_of_mem _ (List.mem_append_right _ h)) zxb_80 zxg_76_80 dX5_share_9 dX5_share_12 dX5_share_13 dX5_share_15 dX5_share_18 (Nat.le_of_ble_eq_true rfl) (Nat.le_of_ble_eq_true rfl) (Nat.le_of_ble_eq_true rfl) (Nat.le_of_ble_eq_true rfl) (Nat.le_of_ble_eq_true rfl) (Nat.le_of_ble_eq_true rfl) rfl (⟨rfl, hF⟩)
