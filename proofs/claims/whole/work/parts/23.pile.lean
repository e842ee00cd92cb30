/-! X3_lowest -/
def zd_X3_lowest (cI : ClassId) : va_W := []
abbrev rmX3_lowest : Room := { frames := 0, cells := 0, slots := 0, locals := 0 }
def zw_X3_lowest_3 (c0 : Int32) (c1 : Int32) (K20 : Int32 → Prop) (K30 : Prop) : Nat → Int32 → Prop
  | 0, _ => False
  | k + 1, p2 => ((p2 ≤ (1 : Int32) → (K30 )) ∧ (¬ p2 ≤ (1 : Int32) → (¬ p2 = 0 ∧ ((¬ (c0 - c0 / p2 * p2) = 0 → ∀ x2_4 : Int32, x2_4 = p2 + (-1 : Int32) → ((zw_X3_lowest_3 c0 c1 K20 K30 k x2_4))) ∧ ((c0 - c0 / p2 * p2) = 0 → (¬ p2 = 0 ∧ ((¬ (c1 - c1 / p2 * p2) = 0 → ∀ x2_7 : Int32, x2_7 = p2 + (-1 : Int32) → ((zw_X3_lowest_3 c0 c1 K20 K30 k x2_7))) ∧ ((c1 - c1 / p2 * p2) = 0 → (K20 p2)))))))))
def zw_X3_lowest (a : Int32) (b : Int32) (post : Int32 → Prop) : Prop := (∃ kf, zw_X3_lowest_3 a b (fun (x2_8 : Int32) => (¬ x2_8 = 0 ∧ post (a / x2_8) )) (post a ) kf (9 : Int32))
/-! X3_setEdge -/
def zd_X3_setEdge (cI : ClassId) (adP qP0 qP1 qP2 qP3 qP4 : Nat) (P : zMem) : va_W := [(adP, .inr (2, [.ref qP0, .ref qP1, .ref qP2, .ref qP3, .ref qP4, .int (P 5 0)])), (qP0, .inl (cI, 2, .inl (P 0))), (qP1, .inl (cI, 2, .inl (P 1))), (qP2, .inl (cI, 6, .inl (P 2))), (qP3, .inl (cI, 6, .inl (P 3))), (qP4, .inl (cI, 6, .inl (P 4)))]
abbrev rmX3_setEdge : Room := { frames := 1, cells := 0, slots := 0, locals := 22 }
def zw_X3_setEdge (P : zMem) (w : Int32) (a : Int32) (b : Int32) (post : zMem → Prop) : Prop := (∃ KJ_3 : Int32 → Prop, (∀ (v_2 : Int32), KJ_3 v_2 → zw_X3_lowest a b (fun (v_4 : Int32) => (vp_in v_2 2 ∧ ∀ r_6 : zRow, r_6 = (upd (P 0) (Int32.toNatClampNeg v_2) v_4) → (zw_X3_lowest b a (fun (v_7 : Int32) => (vp_in v_2 2 ∧ ∀ r_9 : zRow, r_9 = (upd (P 1) (Int32.toNatClampNeg v_2) v_7) → (post (zset (zset P 0 r_6) 1 r_9)))))))) ∧ ((¬ w = 0 → (KJ_3 (1 : Int32))) ∧ (w = 0 → (KJ_3 (0 : Int32)))))
/-! X3_edgePart -/
def zd_X3_edgePart (cI : ClassId) (adP qP0 qP1 qP2 qP3 qP4 : Nat) (P : zMem) : va_W := [(adP, .inr (2, [.ref qP0, .ref qP1, .ref qP2, .ref qP3, .ref qP4, .int (P 5 0)])), (qP0, .inl (cI, 2, .inl (P 0))), (qP1, .inl (cI, 2, .inl (P 1))), (qP2, .inl (cI, 6, .inl (P 2))), (qP3, .inl (cI, 6, .inl (P 3))), (qP4, .inl (cI, 6, .inl (P 4)))]
abbrev rmX3_edgePart : Room := { frames := 0, cells := 0, slots := 0, locals := 0 }
def zw_X3_edgePart (P : zMem) (w : Int32) (pt : Int32) (post : Int32 → Prop) : Prop := (∃ KJ_3 : Int32 → Prop, (∀ (v_2 : Int32), KJ_3 v_2 → ((¬ pt = 0 → (vp_in v_2 2 ∧ post ((P 1) (Int32.toNatClampNeg v_2)) )) ∧ (pt = 0 → (vp_in v_2 2 ∧ post ((P 0) (Int32.toNatClampNeg v_2)) )))) ∧ ((¬ w = 0 → (KJ_3 (1 : Int32))) ∧ (w = 0 → (KJ_3 (0 : Int32)))))
/-! X3_hasEdgesOf -/
def zd_X3_hasEdgesOf (cI : ClassId) (adP qP0 qP1 qP2 qP3 qP4 adO qO0 qO1 qO2 qO3 qO4 : Nat) (P : zMem) (O : zMem) : va_W := [(adP, .inr (2, [.ref qP0, .ref qP1, .ref qP2, .ref qP3, .ref qP4, .int (P 5 0)])), (qP0, .inl (cI, 2, .inl (P 0))), (qP1, .inl (cI, 2, .inl (P 1))), (qP2, .inl (cI, 6, .inl (P 2))), (qP3, .inl (cI, 6, .inl (P 3))), (qP4, .inl (cI, 6, .inl (P 4))), (adO, .inr (2, [.ref qO0, .ref qO1, .ref qO2, .ref qO3, .ref qO4, .int (O 5 0)])), (qO0, .inl (cI, 2, .inl (O 0))), (qO1, .inl (cI, 2, .inl (O 1))), (qO2, .inl (cI, 6, .inl (O 2))), (qO3, .inl (cI, 6, .inl (O 3))), (qO4, .inl (cI, 6, .inl (O 4)))]
abbrev rmX3_hasEdgesOf : Room := { frames := 0, cells := 0, slots := 0, locals := 0 }
def zw_X3_hasEdgesOf (P : zMem) (O : zMem) (post : Int32 → Prop) : Prop := (vp_in (0 : Int32) 2 ∧ (vp_in (0 : Int32) 2 ∧ ((¬ ((P 0) (Int32.toNatClampNeg (0 : Int32))) = ((O 0) (Int32.toNatClampNeg (0 : Int32))) → (narrow .boolean (.int (0 : Int32)) = .int (0 : Int32) ∧ post (0 : Int32) )) ∧ (((P 0) (Int32.toNatClampNeg (0 : Int32))) = ((O 0) (Int32.toNatClampNeg (0 : Int32))) → (vp_in (0 : Int32) 2 ∧ (vp_in (0 : Int32) 2 ∧ ((¬ ((P 1) (Int32.toNatClampNeg (0 : Int32))) = ((O 1) (Int32.toNatClampNeg (0 : Int32))) → (narrow .boolean (.int (0 : Int32)) = .int (0 : Int32) ∧ post (0 : Int32) )) ∧ (((P 1) (Int32.toNatClampNeg (0 : Int32))) = ((O 1) (Int32.toNatClampNeg (0 : Int32))) → (vp_in (1 : Int32) 2 ∧ (vp_in (1 : Int32) 2 ∧ ((¬ ((P 0) (Int32.toNatClampNeg (1 : Int32))) = ((O 0) (Int32.toNatClampNeg (1 : Int32))) → (narrow .boolean (.int (0 : Int32)) = .int (0 : Int32) ∧ post (0 : Int32) )) ∧ (((P 0) (Int32.toNatClampNeg (1 : Int32))) = ((O 0) (Int32.toNatClampNeg (1 : Int32))) → (vp_in (1 : Int32) 2 ∧ (vp_in (1 : Int32) 2 ∧ ((¬ ((P 1) (Int32.toNatClampNeg (1 : Int32))) = ((O 1) (Int32.toNatClampNeg (1 : Int32))) → (narrow .boolean (.int (0 : Int32)) = .int (0 : Int32) ∧ post (0 : Int32) )) ∧ (((P 1) (Int32.toNatClampNeg (1 : Int32))) = ((O 1) (Int32.toNatClampNeg (1 : Int32))) → (narrow .boolean (.int (1 : Int32)) = .int (1 : Int32) ∧ post (1 : Int32) )))))))))))))))))
/-! X3_moveLayer -/
def zd_X3_moveLayer (cI : ClassId) (adP qP0 qP1 qP2 qP3 qP4 : Nat) (P : zMem) : va_W := [(adP, .inr (2, [.ref qP0, .ref qP1, .ref qP2, .ref qP3, .ref qP4, .int (P 5 0)])), (qP0, .inl (cI, 2, .inl (P 0))), (qP1, .inl (cI, 2, .inl (P 1))), (qP2, .inl (cI, 6, .inl (P 2))), (qP3, .inl (cI, 6, .inl (P 3))), (qP4, .inl (cI, 6, .inl (P 4)))]
abbrev rmX3_moveLayer : Room := { frames := 0, cells := 0, slots := 0, locals := 0 }
def zw_X3_moveLayer (P : zMem) (a : Int32) (b : Int32) (post : zMem → Prop) : Prop := ((a < 0 → post P) ∧ (¬ a < 0 → (((6 : Int32) ≤ a → post P) ∧ (¬ (6 : Int32) ≤ a → ((b < 0 → post P) ∧ (¬ b < 0 → ((b < (6 : Int32) → (vp_in a 6 ∧ (vp_in b 6 ∧ ∀ r_7 : zRow, r_7 = (upd (P 2) (Int32.toNatClampNeg b) ((P 2) (Int32.toNatClampNeg a))) → ((vp_in a 6 ∧ (vp_in b 6 ∧ ∀ r_10 : zRow, r_10 = (upd (P 3) (Int32.toNatClampNeg b) ((P 3) (Int32.toNatClampNeg a))) → ((vp_in a 6 ∧ (vp_in b 6 ∧ ∀ r_13 : zRow, r_13 = (upd (P 4) (Int32.toNatClampNeg b) ((P 4) (Int32.toNatClampNeg a))) → (post (zset (zset (zset P 2 r_7) 3 r_10) 4 r_13))))))))))) ∧ (¬ b < (6 : Int32) → post P))))))))
/-! X3_insert -/
def zd_X3_insert (cI : ClassId) (adP qP0 qP1 qP2 qP3 qP4 : Nat) (P : zMem) : va_W := [(adP, .inr (2, [.ref qP0, .ref qP1, .ref qP2, .ref qP3, .ref qP4, .int (P 5 0)])), (qP0, .inl (cI, 2, .inl (P 0))), (qP1, .inl (cI, 2, .inl (P 1))), (qP2, .inl (cI, 6, .inl (P 2))), (qP3, .inl (cI, 6, .inl (P 3))), (qP4, .inl (cI, 6, .inl (P 4)))]
abbrev rmX3_insert : Room := { frames := 1, cells := 0, slots := 0, locals := 22 }
def zw_X3_insert_29 (c1 : Int32) (c2 : Int32) (c3 : Int32) (c4 : Int32) (K51 : zMem → Prop) : Nat → Int32 → zMem → Prop
  | 0, _, _ => False
  | k + 1, p5, P => ((p5 ≤ c1 → (K51 P)) ∧ (¬ p5 ≤ c1 → zw_X3_moveLayer P (p5 - (1 : Int32)) p5 (fun (T_8 : zMem) => ∀ x5_9 : Int32, x5_9 = p5 + (-1 : Int32) → ((zw_X3_insert_29 c1 c2 c3 c4 K51 k x5_9 T_8)))))
def zw_X3_insert (P : zMem) (i : Int32) (a : Int32) (b : Int32) (w : Int32) (post : Int32 → zMem → Prop) : Prop := (((6 : Int32) ≤ (P 5 0) → (narrow .boolean (.int (0 : Int32)) = .int (0 : Int32) ∧ post (0 : Int32) P)) ∧ (¬ (6 : Int32) ≤ (P 5 0) → ((i < 0 → (narrow .boolean (.int (0 : Int32)) = .int (0 : Int32) ∧ post (0 : Int32) P)) ∧ (¬ i < 0 → ((i ≤ (P 5 0) → ∀ x5_6 : Int32, x5_6 = (P 5 0) → ((∃ kf, zw_X3_insert_29 i a b w (fun (T_10 : zMem) => zw_X3_lowest a b (fun (v_11 : Int32) => (vp_in i 6 ∧ ∀ r_13 : zRow, r_13 = (upd (T_10 2) (Int32.toNatClampNeg i) v_11) → (zw_X3_lowest b a (fun (v_14 : Int32) => (vp_in i 6 ∧ ∀ r_16 : zRow, r_16 = (upd (T_10 3) (Int32.toNatClampNeg i) v_14) → ((vp_in i 6 ∧ ∀ r_18 : zRow, r_18 = (upd (T_10 4) (Int32.toNatClampNeg i) w) → (∀ y_19 : Int32, y_19 = ((T_10 5 0) + (1 : Int32)) → ((narrow .boolean (.int (1 : Int32)) = .int (1 : Int32) ∧ post (1 : Int32) (zset (zset (zset (zset T_10 2 r_13) 3 r_16) 4 r_18) 5 (fun _ => y_19))))))))))))) kf x5_6 P))) ∧ (¬ i ≤ (P 5 0) → (narrow .boolean (.int (0 : Int32)) = .int (0 : Int32) ∧ post (0 : Int32) P)))))))
/-! X3_remove -/
def zd_X3_remove (cI : ClassId) (adP qP0 qP1 qP2 qP3 qP4 : Nat) (P : zMem) : va_W := [(adP, .inr (2, [.ref qP0, .ref qP1, .ref qP2, .ref qP3, .ref qP4, .int (P 5 0)])), (qP0, .inl (cI, 2, .inl (P 0))), (qP1, .inl (cI, 2, .inl (P 1))), (qP2, .inl (cI, 6, .inl (P 2))), (qP3, .inl (cI, 6, .inl (P 3))), (qP4, .inl (cI, 6, .inl (P 4)))]
abbrev rmX3_remove : Room := { frames := 1, cells := 0, slots := 0, locals := 22 }
def zw_X3_remove_25 (K47 : zMem → Prop) : Nat → Int32 → zMem → Prop
  | 0, _, _ => False
  | k + 1, p2, P => (((P 5 0) ≤ p2 → (K47 P)) ∧ (¬ (P 5 0) ≤ p2 → zw_X3_moveLayer P (p2 + (1 : Int32)) p2 (fun (T_5 : zMem) => ∀ x2_6 : Int32, x2_6 = p2 + (1 : Int32) → ((zw_X3_remove_25 K47 k x2_6 T_5)))))
def zw_X3_remove (P : zMem) (i : Int32) (post : zMem → Prop) : Prop := ((i < 0 → post P) ∧ (¬ i < 0 → ((i < (P 5 0) → ∀ y_3 : Int32, y_3 = ((P 5 0) - (1 : Int32)) → ((∃ kf, zw_X3_remove_25  (fun (T_7 : zMem) => post T_7) kf i (zset P 5 (fun _ => y_3))))) ∧ (¬ i < (P 5 0) → post P))))
/-! X3_removeAll -/
def zd_X3_removeAll (cI : ClassId) (adP qP0 qP1 qP2 qP3 qP4 : Nat) (P : zMem) : va_W := [(adP, .inr (2, [.ref qP0, .ref qP1, .ref qP2, .ref qP3, .ref qP4, .int (P 5 0)])), (qP0, .inl (cI, 2, .inl (P 0))), (qP1, .inl (cI, 2, .inl (P 1))), (qP2, .inl (cI, 6, .inl (P 2))), (qP3, .inl (cI, 6, .inl (P 3))), (qP4, .inl (cI, 6, .inl (P 4)))]
abbrev rmX3_removeAll : Room := { frames := 0, cells := 0, slots := 0, locals := 0 }
def zw_X3_removeAll (P : zMem) (post : zMem → Prop) : Prop := post (zset P 5 (fun _ => (0 : Int32)))
/-! X3_layerPart -/
def zd_X3_layerPart (cI : ClassId) (adP qP0 qP1 qP2 qP3 qP4 : Nat) (P : zMem) : va_W := [(adP, .inr (2, [.ref qP0, .ref qP1, .ref qP2, .ref qP3, .ref qP4, .int (P 5 0)])), (qP0, .inl (cI, 2, .inl (P 0))), (qP1, .inl (cI, 2, .inl (P 1))), (qP2, .inl (cI, 6, .inl (P 2))), (qP3, .inl (cI, 6, .inl (P 3))), (qP4, .inl (cI, 6, .inl (P 4)))]
abbrev rmX3_layerPart : Room := { frames := 0, cells := 0, slots := 0, locals := 0 }
def zw_X3_layerPart (P : zMem) (i : Int32) (pt : Int32) (post : Int32 → Prop) : Prop := ((i < 0 → post (0 : Int32) ) ∧ (¬ i < 0 → ((i < (P 5 0) → ((¬ pt = 0 → ((¬ pt = (1 : Int32) → (vp_in i 6 ∧ post ((P 4) (Int32.toNatClampNeg i)) )) ∧ (pt = (1 : Int32) → (vp_in i 6 ∧ post ((P 3) (Int32.toNatClampNeg i)) )))) ∧ (pt = 0 → (vp_in i 6 ∧ post ((P 2) (Int32.toNatClampNeg i)) )))) ∧ (¬ i < (P 5 0) → post (0 : Int32) ))))
/-! X3_swap -/
def zd_X3_swap (cI : ClassId) (qr : Nat) (nr : Nat) (r : zRow) : va_W := [(qr, .inl (cI, nr, .inl r))]
abbrev rmX3_swap : Room := { frames := 0, cells := 0, slots := 0, locals := 0 }
def zw_X3_swap (nr : Nat) (r : zRow) (i : Int32) (j : Int32) (post : zRow → Prop) : Prop := ((i < 0 → post r) ∧ (¬ i < 0 → (((nI nr) ≤ i → post r) ∧ (¬ (nI nr) ≤ i → ((j < 0 → post r) ∧ (¬ j < 0 → ((j < (nI nr) → (vp_in i nr ∧ ∀ x3_6 : Int32, x3_6 = (r (Int32.toNatClampNeg i)) → ((vp_in j nr ∧ (vp_in i nr ∧ ∀ r_9 : zRow, r_9 = (upd r (Int32.toNatClampNeg i) (r (Int32.toNatClampNeg j))) → ((vp_in j nr ∧ ∀ r_11 : zRow, r_11 = (upd r_9 (Int32.toNatClampNeg j) x3_6) → (post r_11)))))))) ∧ (¬ j < (nI nr) → post r))))))))
/-! X3_reverse -/
def zd_X3_reverse (cI : ClassId) (adP qP0 qP1 qP2 qP3 qP4 : Nat) (P : zMem) : va_W := [(adP, .inr (2, [.ref qP0, .ref qP1, .ref qP2, .ref qP3, .ref qP4, .int (P 5 0)])), (qP0, .inl (cI, 2, .inl (P 0))), (qP1, .inl (cI, 2, .inl (P 1))), (qP2, .inl (cI, 6, .inl (P 2))), (qP3, .inl (cI, 6, .inl (P 3))), (qP4, .inl (cI, 6, .inl (P 4)))]
abbrev rmX3_reverse : Room := { frames := 1, cells := 0, slots := 0, locals := 23 }
def zw_X3_reverse_27 (K68 : zMem → Prop) : Nat → Int32 → Int32 → zMem → Prop
  | 0, _, _, _ => False
  | k + 1, p1, p2, P => ((p2 ≤ p1 → (K68 P)) ∧ (¬ p2 ≤ p1 → zw_X3_swap 6 (P 2) p1 p2 (fun (r_5 : zRow) => zw_X3_swap 6 (P 3) p1 p2 (fun (r_6 : zRow) => zw_X3_swap 6 (P 4) p1 p2 (fun (r_7 : zRow) => ∀ x1_8 : Int32, x1_8 = p1 + (1 : Int32) → (∀ x2_9 : Int32, x2_9 = p2 + (-1 : Int32) → ((zw_X3_reverse_27 K68 k x1_8 x2_9 (zset (zset (zset P 2 r_5) 3 r_6) 4 r_7)))))))))
def zw_X3_reverse (P : zMem) (post : zMem → Prop) : Prop := zw_X3_swap 2 (P 0) (0 : Int32) (1 : Int32) (fun (r_1 : zRow) => zw_X3_swap 2 (P 1) (0 : Int32) (1 : Int32) (fun (r_2 : zRow) => ∀ x2_3 : Int32, x2_3 = ((P 5 0) - (1 : Int32)) → ((∃ kf, zw_X3_reverse_27  (fun (T_10 : zMem) => post T_10) kf (0 : Int32) x2_3 (zset (zset P 0 r_1) 1 r_2)))))
/-! X3_becomeLike -/
def zd_X3_becomeLike (cI : ClassId) (adP qP0 qP1 qP2 qP3 qP4 adO qO0 qO1 qO2 qO3 qO4 : Nat) (P : zMem) (O : zMem) : va_W := [(adP, .inr (2, [.ref qP0, .ref qP1, .ref qP2, .ref qP3, .ref qP4, .int (P 5 0)])), (qP0, .inl (cI, 2, .inl (P 0))), (qP1, .inl (cI, 2, .inl (P 1))), (qP2, .inl (cI, 6, .inl (P 2))), (qP3, .inl (cI, 6, .inl (P 3))), (qP4, .inl (cI, 6, .inl (P 4))), (adO, .inr (2, [.ref qO0, .ref qO1, .ref qO2, .ref qO3, .ref qO4, .int (O 5 0)])), (qO0, .inl (cI, 2, .inl (O 0))), (qO1, .inl (cI, 2, .inl (O 1))), (qO2, .inl (cI, 6, .inl (O 2))), (qO3, .inl (cI, 6, .inl (O 3))), (qO4, .inl (cI, 6, .inl (O 4)))]
abbrev rmX3_becomeLike : Room := { frames := 1, cells := 0, slots := 0, locals := 30 }
def zw_X3_becomeLike (P : zMem) (O : zMem) (post : zMem → Prop) : Prop := ∀ r_1 : zRow, r_1 = (va_cpy (O 0) (P 0) 0 0 2) → (∀ r_2 : zRow, r_2 = (va_cpy (O 1) (P 1) 0 0 2) → (∀ r_3 : zRow, r_3 = (va_cpy (O 2) (P 2) 0 0 6) → (∀ r_4 : zRow, r_4 = (va_cpy (O 3) (P 3) 0 0 6) → (∀ r_5 : zRow, r_5 = (va_cpy (O 4) (P 4) 0 0 6) → (∀ y_6 : Int32, y_6 = (O 5 0) → (post (zset (zset (zset (zset (zset (zset P 0 r_1) 1 r_2) 2 r_3) 3 r_4) 4 r_5) 5 (fun _ => y_6))))))))
theorem zy_X3_lowest : yX3_lowest.cls ≠ "java/lang/invoke/MethodHandle" ∧ yX3_lowest.cls ≠ "java/lang/invoke/VarHandle" ∧ (parseMethodDescriptor yX3_lowest.desc).map (fun d => d.parameters.length) = some 2 := by decide +kernel
set_option maxHeartbeats 4000000 in
set_option maxRecDepth 100000 in
theorem zl_X3_lowest_3 {p : Program} {l : Launch} {e : Env} {s : State} {m : MethodId} {args : Array Value} {below : List Frame} {meth : Method} {c : Code} {G : va_G} {cI : ClassId} {A : Nat → Prop} {Q : State → Prop} (c0 : Int32) (c1 : Int32) (K20 : Int32 → Prop) (K30 : Prop) (C : zv_C p s m args c cX3_lowest 3 RX3 wsX3_lowest G cI A) (hK20 : ∀ (p2 : Int32), K20 p2 → zv_V p l e (headSpec wsX3_lowest rmX3_lowest).room s m args below meth c Q G A 3 0 0 (zd_X3_lowest cI ) 20 [(0, .int c0), (2, .int p2)] []) (hK30 : K30  → zv_V p l e (headSpec wsX3_lowest rmX3_lowest).room s m args below meth c Q G A 3 0 0 (zd_X3_lowest cI ) 30 [(0, .int c0)] []) : ∀ (k : Nat) (p2 : Int32), zw_X3_lowest_3 c0 c1 K20 K30 k p2 → zv_V p l e (headSpec wsX3_lowest rmX3_lowest).room s m args below meth c Q G A 3 0 0 (zd_X3_lowest cI ) 3 [(0, .int c0), (1, .int c1), (2, .int p2)] [] := by
  intro k
  induction k with
  | zero => intro p2 hF; exact (show False from hF).elim
  | succ k ih =>
    intro p2 hF
    refine zv_iload_n (pc := 3) C rfl 2 rfl dX3_lowest_3 ?_
    refine zv_iconst (pc := 4) (v := 1) C (by decide) dX3_lowest_4 ?_
    refine zv_icmp_le (pc := 5) (tgt := 30) C dX3_lowest_5 (by decide) (fun c_1 => ?_) (fun c_1 => ?_)
    · replace hF := And.left hF c_1
      exact zv_lvs [0] rfl (hK30  hF)
    · replace hF := And.right hF c_1
      refine zv_iload_n (pc := 8) C rfl 0 rfl dX3_lowest_8 ?_
      refine zv_iload_n (pc := 9) C rfl 2 rfl dX3_lowest_9 ?_
      obtain ⟨hz_2, hF⟩ := hF
      refine zv_irem (pc := 10) C hz_2 dX3_lowest_10 ?_
      refine zv_if_ne (pc := 11) (tgt := 24) C dX3_lowest_11 (by decide) (fun c_3 => ?_) (fun c_3 => ?_)
      · replace hF := And.left hF c_3
        obtain ⟨x2_4, ex2_4⟩ : ∃ y : Int32, y = p2 + (-1 : Int32) := ⟨_, rfl⟩
        replace hF := hF x2_4 ex2_4
        refine zv_iinc (pc := 24) (v := x2_4) (lv' := [(2, .int x2_4), (0, .int c0), (1, .int c1)]) C 2 rfl (by rw [ex2_4]; rfl) (by decide) rfl dX3_lowest_24 ?_
        refine zv_goto (pc := 27) (tgt := 3) C dX3_lowest_27 (by decide) ?_
        exact zv_lvs [1, 2, 0] rfl (ih x2_4 hF)
      · replace hF := And.right hF c_3
        refine zv_iload_n (pc := 14) C rfl 1 rfl dX3_lowest_14 ?_
        refine zv_iload_n (pc := 15) C rfl 2 rfl dX3_lowest_15 ?_
        obtain ⟨hz_5, hF⟩ := hF
        refine zv_irem (pc := 16) C hz_5 dX3_lowest_16 ?_
        refine zv_if_ne (pc := 17) (tgt := 24) C dX3_lowest_17 (by decide) (fun c_6 => ?_) (fun c_6 => ?_)
        · replace hF := And.left hF c_6
          obtain ⟨x2_7, ex2_7⟩ : ∃ y : Int32, y = p2 + (-1 : Int32) := ⟨_, rfl⟩
          replace hF := hF x2_7 ex2_7
          refine zv_iinc (pc := 24) (v := x2_7) (lv' := [(2, .int x2_7), (0, .int c0), (1, .int c1)]) C 2 rfl (by rw [ex2_7]; rfl) (by decide) rfl dX3_lowest_24 ?_
          refine zv_goto (pc := 27) (tgt := 3) C dX3_lowest_27 (by decide) ?_
          exact zv_lvs [1, 2, 0] rfl (ih x2_7 hF)
        · replace hF := And.right hF c_6
          exact zv_lvs [0, 2] rfl (hK20 p2 hF)
set_option maxHeartbeats 4000000 in
set_option maxRecDepth 100000 in
theorem zc_X3_lowest (l : Launch) (G : va_G) (cI : ClassId) (a : Int32) (b : Int32) (post : Int32 → Prop) (hF : zw_X3_lowest a b post) (sz : Nat) : Met l yX3_lowest wsX3_lowest rmX3_lowest (va_Pc [.int a, .int b] (zv_in G cI (zd_X3_lowest cI ) sz)) (va_Qi (fun (rz : Int32) (uz : Unit) => post rz ) (fun (uz : Unit) t => zv_out G cI (va_A (zd_X3_lowest cI ) sz) (zd_X3_lowest cI ) t) (va_A (zd_X3_lowest cI ) sz)) 0 0 (va_A (zd_X3_lowest cI ) sz) := by
  refine zv_met (cc := cX3_lowest) (maxL := 3) (ret := (some .int)) (lv0 := [(0, .int a), (1, .int b)]) (Qc := fun A => va_Qi (fun (rz : Int32) (uz : Unit) => post rz ) (fun (uz : Unit) t => zv_out G cI A (zd_X3_lowest cI ) t) A) (by decide) rfl (Nat.le_of_ble_eq_true rfl) rfl ?_ sz
  intro p e s m below meth c A C hr hlk
  clear sz
  refine zv_bipush (pc := 0) (v := 9) C (by decide) dX3_lowest_0 ?_
  refine zv_istore_n (pc := 2) (lv' := [(2, .int (9 : Int32)), (0, .int a), (1, .int b)]) C rfl (by decide) rfl dX3_lowest_2 ?_
  obtain ⟨kf, hF⟩ := hF
  refine zv_lvs [1, 2, 0] rfl (zl_X3_lowest_3  a b _ _ C ?_ ?_ kf (9 : Int32) hF)
  · intro x2_8 hF
    refine zv_iload_n (pc := 20) C rfl 0 rfl dX3_lowest_20 ?_
    refine zv_iload_n (pc := 21) C rfl 1 rfl dX3_lowest_21 ?_
    obtain ⟨hz_9, hF⟩ := hF
    refine zv_idiv (pc := 22) C hz_9 dX3_lowest_22 ?_
    exact zv_iret (pc := 23) C hr hlk (a / x2_8) () hF rfl dX3_lowest_23
  · intro  hF
    refine zv_iload_n (pc := 30) C rfl 0 rfl dX3_lowest_30 ?_
    exact zv_iret (pc := 31) C hr hlk a () hF rfl dX3_lowest_31
theorem zf_X3_setEdge_15 : Cond.fieldLink RX3 15 "GlassStack$Pile" "edgeBelow" "[I" ∈ wsX3_setEdge := (List.mem_of_getElem? (i := 2) rfl)
theorem zf_X3_setEdge_9 : Cond.fieldLink RX3 9 "GlassStack$Pile" "edgeUp" "[I" ∈ wsX3_setEdge := (List.mem_of_getElem? (i := 1) rfl)
theorem zi_X3_setEdge_X3 : ∀ w ∈ wsX30, w ∈ wsX3_setEdge := fun w h => List.mem_cons_of_mem _ (List.mem_append_right _ h)
theorem zy_X3_setEdge : yX3_setEdge.cls = RX3 ∧ yX3_setEdge.cls ≠ "java/lang/invoke/MethodHandle" ∧ yX3_setEdge.cls ≠ "java/lang/invoke/VarHandle" ∧ (parseMethodDescriptor yX3_setEdge.desc).map (fun d => d.parameters.length) = some 3 := by decide +kernel
set_option maxHeartbeats 4000000 in
set_option maxRecDepth 100000 in
theorem zc_X3_setEdge (l : Launch) (G : va_G) (cI : ClassId) (adP qP0 qP1 qP2 qP3 qP4 : Nat) (P : zMem) (w : Int32) (a : Int32) (b : Int32) (post : zMem → Prop) (hF : zw_X3_setEdge P w a b post) (sz : Nat) : Met l yX3_setEdge wsX3_setEdge rmX3_setEdge (va_Pc [.ref adP, .int w, .int a, .int b] (zv_in G cI (zd_X3_setEdge cI adP qP0 qP1 qP2 qP3 qP4 P) sz)) (va_Qv (fun uz : zMem => post uz) (fun (uz : zMem) t => zv_out G cI (va_A (zd_X3_setEdge cI adP qP0 qP1 qP2 qP3 qP4 P) sz) (zd_X3_setEdge cI adP qP0 qP1 qP2 qP3 qP4 uz) t) (va_A (zd_X3_setEdge cI adP qP0 qP1 qP2 qP3 qP4 P) sz)) 0 0 (va_A (zd_X3_setEdge cI adP qP0 qP1 qP2 qP3 qP4 P) sz) := by
  refine zv_met (cc := cX3_setEdge) (maxL := 5) (ret := none) (lv0 := [(0, .ref adP), (1, .int w), (2, .int a), (3, .int b)]) (Qc := fun A => va_Qv (fun uz : zMem => post uz) (fun (uz : zMem) t => zv_out G cI A (zd_X3_setEdge cI adP qP0 qP1 qP2 qP3 qP4 uz) t) A) (by decide) rfl (Nat.le_of_ble_eq_true rfl) rfl ?_ sz
  intro p e s m below meth c A C hr hlk
  clear sz
  refine zv_iload_n (pc := 0) C rfl 1 rfl dX3_setEdge_0 ?_
  obtain ⟨KJ_3, h0KJ_3, hF⟩ := hF
  refine zv_join (α := Int32) (KK := fun uz => KJ_3 uz) (wsJ := fun uz => (zd_X3_setEdge cI adP qP0 qP1 qP2 qP3 qP4 P)) (pcJ := 9) (lvJ := fun uz => [(0, .ref adP), (2, .int a), (3, .int b)]) (stJ := fun uz => [.int uz]) ?_ (fun hKJ_3 => ?_)
  · rintro v_2 hF
    replace hF := h0KJ_3 v_2 hF
    refine zv_istore (pc := 9) (lv' := [(4, .int v_2), (0, .ref adP), (2, .int a), (3, .int b)]) C (by decide) rfl dX3_setEdge_9 ?_
    refine zv_aload_n (pc := 11) C rfl 1 rfl dX3_setEdge_11 ?_
    refine zv_get (pc := 12) (CC := RX3) (T := TX3) (N := 6) (ci := 2) (v := .ref qP0) C zi_X3_setEdge_X3 0 rfl 0 (by decide) zf_X3_setEdge_9 rfl rfl dX3_setEdge_12 ?_
    refine zv_iload (pc := 15) C 0 rfl dX3_setEdge_15 ?_
    refine zv_iload_n (pc := 17) C rfl 2 rfl dX3_setEdge_17 ?_
    refine zv_iload_n (pc := 18) C rfl 3 rfl dX3_setEdge_18 ?_
    refine zv_ci0 (pc := 19) (ws' := (fun uz : Unit => (zd_X3_setEdge cI adP qP0 qP1 qP2 qP3 qP4 P))) C (zv_runS (As := [.int a, .int b]) (rest := [.int v_2, .ref qP0]) C (zc_X3_lowest l G cI a b _ hF) (va_cwS 2 C.2.2.2.2.1 gX3_setEdge_X3_lowest rfl rfl rfl zy_X3_lowest ⟨Nat.le_of_ble_eq_true rfl, Nat.le_of_ble_eq_true rfl⟩) rfl rfl (Nat.le_of_ble_eq_true rfl) ⟨Nat.zero_le _, Nat.zero_le _⟩ dX3_setEdge_19) [] [0, 1, 2, 3, 4, 5] rfl rfl rfl rfl rfl (fun _ => rfl) (fun _ => rfl) (fun _ => rfl) (fun v_4 uz hF => ?_)
    obtain ⟨h_5, hF⟩ := hF
    obtain ⟨r_6, er_6⟩ : ∃ y : zRow, y = (upd (P 0) (Int32.toNatClampNeg v_2) v_4) := ⟨_, rfl⟩
    replace hF := hF r_6 er_6
    refine zv_iast (pc := 22) (n := 2) (f := (P 0)) (ws' := (zd_X3_setEdge cI adP qP0 qP1 qP2 qP3 qP4 (zset P 0 r_6))) C 1 h_5 rfl (by rw [er_6]; rfl) dX3_setEdge_22 ?_
    refine zv_aload_n (pc := 23) C rfl 1 rfl dX3_setEdge_23 ?_
    refine zv_get (pc := 24) (CC := RX3) (T := TX3) (N := 6) (ci := 2) (v := .ref qP1) C zi_X3_setEdge_X3 0 rfl 1 (by decide) zf_X3_setEdge_15 rfl rfl dX3_setEdge_24 ?_
    refine zv_iload (pc := 27) C 0 rfl dX3_setEdge_27 ?_
    refine zv_iload_n (pc := 29) C rfl 3 rfl dX3_setEdge_29 ?_
    refine zv_iload_n (pc := 30) C rfl 2 rfl dX3_setEdge_30 ?_
    refine zv_ci0 (pc := 31) (ws' := (fun uz : Unit => (zd_X3_setEdge cI adP qP0 qP1 qP2 qP3 qP4 (zset P 0 r_6)))) C (zv_runS (As := [.int b, .int a]) (rest := [.int v_2, .ref qP1]) C (zc_X3_lowest l G cI b a _ hF) (va_cwS 2 C.2.2.2.2.1 gX3_setEdge_X3_lowest rfl rfl rfl zy_X3_lowest ⟨Nat.le_of_ble_eq_true rfl, Nat.le_of_ble_eq_true rfl⟩) rfl rfl (Nat.le_of_ble_eq_true rfl) ⟨Nat.zero_le _, Nat.zero_le _⟩ dX3_setEdge_31) [] [0, 1, 2, 3, 4, 5] rfl rfl rfl rfl rfl (fun _ => rfl) (fun _ => rfl) (fun _ => rfl) (fun v_7 uz hF => ?_)
    obtain ⟨h_8, hF⟩ := hF
    obtain ⟨r_9, er_9⟩ : ∃ y : zRow, y = (upd (P 1) (Int32.toNatClampNeg v_2) v_7) := ⟨_, rfl⟩
    replace hF := hF r_9 er_9
    refine zv_iast (pc := 34) (n := 2) (f := (P 1)) (ws' := (zd_X3_setEdge cI adP qP0 qP1 qP2 qP3 qP4 (zset (zset P 0 r_6) 1 r_9))) C 2 h_8 rfl (by rw [er_9]; rfl) dX3_setEdge_34 ?_
    exact zv_vret (pc := 35) C hr hlk (zset (zset P 0 r_6) 1 r_9) hF rfl dX3_setEdge_35
  · skip
    refine zv_if_ne (pc := 1) (tgt := 8) C dX3_setEdge_1 (by decide) (fun c_1 => ?_) (fun c_1 => ?_)
    · replace hF := And.left hF c_1
      refine zv_iconst (pc := 8) (v := 1) C (by decide) dX3_setEdge_8 ?_
      exact zv_lvs [0, 2, 3] rfl (hKJ_3 (1 : Int32) hF)
    · replace hF := And.right hF c_1
      refine zv_iconst (pc := 4) (v := 0) C (by decide) dX3_setEdge_4 ?_
      refine zv_goto (pc := 5) (tgt := 9) C dX3_setEdge_5 (by decide) ?_
      exact zv_lvs [0, 2, 3] rfl (hKJ_3 (0 : Int32) hF)
theorem zf_X3_edgePart_15 : Cond.fieldLink RX3 15 "GlassStack$Pile" "edgeBelow" "[I" ∈ wsX3_edgePart := (List.mem_of_getElem? (i := 2) rfl)
theorem zf_X3_edgePart_9 : Cond.fieldLink RX3 9 "GlassStack$Pile" "edgeUp" "[I" ∈ wsX3_edgePart := (List.mem_of_getElem? (i := 1) rfl)
theorem zi_X3_edgePart_X3 : ∀ w ∈ wsX30, w ∈ wsX3_edgePart := fun w h => List.mem_cons_of_mem _ (List.mem_append_right _ h)
theorem zy_X3_edgePart : yX3_edgePart.cls = RX3 ∧ yX3_edgePart.cls ≠ "java/lang/invoke/MethodHandle" ∧ yX3_edgePart.cls ≠ "java/lang/invoke/VarHandle" ∧ (parseMethodDescriptor yX3_edgePart.desc).map (fun d => d.parameters.length) = some 2 := by decide +kernel
set_option maxHeartbeats 4000000 in
set_option maxRecDepth 100000 in
theorem zc_X3_edgePart (l : Launch) (G : va_G) (cI : ClassId) (adP qP0 qP1 qP2 qP3 qP4 : Nat) (P : zMem) (w : Int32) (pt : Int32) (post : Int32 → Prop) (hF : zw_X3_edgePart P w pt post) (sz : Nat) : Met l yX3_edgePart wsX3_edgePart rmX3_edgePart (va_Pc [.ref adP, .int w, .int pt] (zv_in G cI (zd_X3_edgePart cI adP qP0 qP1 qP2 qP3 qP4 P) sz)) (va_Qi (fun (rz : Int32) (uz : Unit) => post rz ) (fun (uz : Unit) t => zv_out G cI (va_A (zd_X3_edgePart cI adP qP0 qP1 qP2 qP3 qP4 P) sz) (zd_X3_edgePart cI adP qP0 qP1 qP2 qP3 qP4 P) t) (va_A (zd_X3_edgePart cI adP qP0 qP1 qP2 qP3 qP4 P) sz)) 0 0 (va_A (zd_X3_edgePart cI adP qP0 qP1 qP2 qP3 qP4 P) sz) := by
  refine zv_met (cc := cX3_edgePart) (maxL := 4) (ret := (some .int)) (lv0 := [(0, .ref adP), (1, .int w), (2, .int pt)]) (Qc := fun A => va_Qi (fun (rz : Int32) (uz : Unit) => post rz ) (fun (uz : Unit) t => zv_out G cI A (zd_X3_edgePart cI adP qP0 qP1 qP2 qP3 qP4 P) t) A) (by decide) rfl (Nat.le_of_ble_eq_true rfl) rfl ?_ sz
  intro p e s m below meth c A C hr hlk
  clear sz
  refine zv_iload_n (pc := 0) C rfl 1 rfl dX3_edgePart_0 ?_
  obtain ⟨KJ_3, h0KJ_3, hF⟩ := hF
  refine zv_join (α := Int32) (KK := fun uz => KJ_3 uz) (wsJ := fun uz => (zd_X3_edgePart cI adP qP0 qP1 qP2 qP3 qP4 P)) (pcJ := 9) (lvJ := fun uz => [(0, .ref adP), (2, .int pt)]) (stJ := fun uz => [.int uz]) ?_ (fun hKJ_3 => ?_)
  · rintro v_2 hF
    replace hF := h0KJ_3 v_2 hF
    refine zv_istore_n (pc := 9) (lv' := [(3, .int v_2), (0, .ref adP), (2, .int pt)]) C rfl (by decide) rfl dX3_edgePart_9 ?_
    refine zv_iload_n (pc := 10) C rfl 2 rfl dX3_edgePart_10 ?_
    refine zv_if_ne (pc := 11) (tgt := 23) C dX3_edgePart_11 (by decide) (fun c_4 => ?_) (fun c_4 => ?_)
    · replace hF := And.left hF c_4
      refine zv_aload_n (pc := 23) C rfl 1 rfl dX3_edgePart_23 ?_
      refine zv_get (pc := 24) (CC := RX3) (T := TX3) (N := 6) (ci := 2) (v := .ref qP1) C zi_X3_edgePart_X3 0 rfl 1 (by decide) zf_X3_edgePart_15 rfl rfl dX3_edgePart_24 ?_
      refine zv_iload_n (pc := 27) C rfl 0 rfl dX3_edgePart_27 ?_
      obtain ⟨h_5, hF⟩ := hF
      refine zv_iald (pc := 28) (n := 2) (f := (P 1)) C 2 h_5 rfl dX3_edgePart_28 ?_
      exact zv_iret (pc := 29) C hr hlk ((P 1) (Int32.toNatClampNeg v_2)) () hF rfl dX3_edgePart_29
    · replace hF := And.right hF c_4
      refine zv_aload_n (pc := 14) C rfl 1 rfl dX3_edgePart_14 ?_
      refine zv_get (pc := 15) (CC := RX3) (T := TX3) (N := 6) (ci := 2) (v := .ref qP0) C zi_X3_edgePart_X3 0 rfl 0 (by decide) zf_X3_edgePart_9 rfl rfl dX3_edgePart_15 ?_
      refine zv_iload_n (pc := 18) C rfl 0 rfl dX3_edgePart_18 ?_
      obtain ⟨h_6, hF⟩ := hF
      refine zv_iald (pc := 19) (n := 2) (f := (P 0)) C 1 h_6 rfl dX3_edgePart_19 ?_
      refine zv_goto (pc := 20) (tgt := 29) C dX3_edgePart_20 (by decide) ?_
      exact zv_iret (pc := 29) C hr hlk ((P 0) (Int32.toNatClampNeg v_2)) () hF rfl dX3_edgePart_29
  · skip
    refine zv_if_ne (pc := 1) (tgt := 8) C dX3_edgePart_1 (by decide) (fun c_1 => ?_) (fun c_1 => ?_)
    · replace hF := And.left hF c_1
      refine zv_iconst (pc := 8) (v := 1) C (by decide) dX3_edgePart_8 ?_
      exact zv_lvs [0, 2] rfl (hKJ_3 (1 : Int32) hF)
    · replace hF := And.right hF c_1
      refine zv_iconst (pc := 4) (v := 0) C (by decide) dX3_edgePart_4 ?_
      refine zv_goto (pc := 5) (tgt := 9) C dX3_edgePart_5 (by decide) ?_
      exact zv_lvs [0, 2] rfl (hKJ_3 (0 : Int32) hF)
theorem zf_X3_hasEdgesOf_15 : Cond.fieldLink RX3 15 "GlassStack$Pile" "edgeBelow" "[I" ∈ wsX3_hasEdgesOf := (List.mem_of_getElem? (i := 2) rfl)
theorem zf_X3_hasEdgesOf_9 : Cond.fieldLink RX3 9 "GlassStack$Pile" "edgeUp" "[I" ∈ wsX3_hasEdgesOf := (List.mem_of_getElem? (i := 1) rfl)
theorem zi_X3_hasEdgesOf_X3 : ∀ w ∈ wsX30, w ∈ wsX3_hasEdgesOf := fun w h => List.mem_cons_of_mem _ (List.mem_append_right _ h)
theorem zy_X3_hasEdgesOf : yX3_hasEdgesOf.cls = RX3 ∧ yX3_hasEdgesOf.cls ≠ "java/lang/invoke/MethodHandle" ∧ yX3_hasEdgesOf.cls ≠ "java/lang/invoke/VarHandle" ∧ (parseMethodDescriptor yX3_hasEdgesOf.desc).map (fun d => d.parameters.length) = some 1 := by decide +kernel
set_option maxHeartbeats 4000000 in
set_option maxRecDepth 100000 in
theorem zc_X3_hasEdgesOf (l : Launch) (G : va_G) (cI : ClassId) (adP qP0 qP1 qP2 qP3 qP4 adO qO0 qO1 qO2 qO3 qO4 : Nat) (P : zMem) (O : zMem) (post : Int32 → Prop) (hF : zw_X3_hasEdgesOf P O post) (sz : Nat) : Met l yX3_hasEdgesOf wsX3_hasEdgesOf rmX3_hasEdgesOf (va_Pc [.ref adP, .ref adO] (zv_in G cI (zd_X3_hasEdgesOf cI adP qP0 qP1 qP2 qP3 qP4 adO qO0 qO1 qO2 qO3 qO4 P O) sz)) (va_Qi (fun (rz : Int32) (uz : Unit) => post rz ) (fun (uz : Unit) t => zv_out G cI (va_A (zd_X3_hasEdgesOf cI adP qP0 qP1 qP2 qP3 qP4 adO qO0 qO1 qO2 qO3 qO4 P O) sz) (zd_X3_hasEdgesOf cI adP qP0 qP1 qP2 qP3 qP4 adO qO0 qO1 qO2 qO3 qO4 P O) t) (va_A (zd_X3_hasEdgesOf cI adP qP0 qP1 qP2 qP3 qP4 adO qO0 qO1 qO2 qO3 qO4 P O) sz)) 0 0 (va_A (zd_X3_hasEdgesOf cI adP qP0 qP1 qP2 qP3 qP4 adO qO0 qO1 qO2 qO3 qO4 P O) sz) := by
  refine zv_met (cc := cX3_hasEdgesOf) (maxL := 2) (ret := (some .boolean)) (lv0 := [(0, .ref adP), (1, .ref adO)]) (Qc := fun A => va_Qi (fun (rz : Int32) (uz : Unit) => post rz ) (fun (uz : Unit) t => zv_out G cI A (zd_X3_hasEdgesOf cI adP qP0 qP1 qP2 qP3 qP4 adO qO0 qO1 qO2 qO3 qO4 P O) t) A) (by decide) rfl (Nat.le_of_ble_eq_true rfl) rfl ?_ sz
  intro p e s m below meth c A C hr hlk
  clear sz
  refine zv_aload_n (pc := 0) C rfl 0 rfl dX3_hasEdgesOf_0 ?_
  refine zv_get (pc := 1) (CC := RX3) (T := TX3) (N := 6) (ci := 2) (v := .ref qP0) C zi_X3_hasEdgesOf_X3 0 rfl 0 (by decide) zf_X3_hasEdgesOf_9 rfl rfl dX3_hasEdgesOf_1 ?_
  refine zv_iconst (pc := 4) (v := 0) C (by decide) dX3_hasEdgesOf_4 ?_
  obtain ⟨h_1, hF⟩ := hF
  refine zv_iald (pc := 5) (n := 2) (f := (P 0)) C 1 h_1 rfl dX3_hasEdgesOf_5 ?_
  refine zv_aload_n (pc := 6) C rfl 1 rfl dX3_hasEdgesOf_6 ?_
  refine zv_get (pc := 7) (CC := RX3) (T := TX3) (N := 6) (ci := 2) (v := .ref qO0) C zi_X3_hasEdgesOf_X3 6 rfl 0 (by decide) zf_X3_hasEdgesOf_9 rfl rfl dX3_hasEdgesOf_7 ?_
  refine zv_iconst (pc := 10) (v := 0) C (by decide) dX3_hasEdgesOf_10 ?_
  obtain ⟨h_2, hF⟩ := hF
  refine zv_iald (pc := 11) (n := 2) (f := (O 0)) C 7 h_2 rfl dX3_hasEdgesOf_11 ?_
  refine zv_icmp_ne (pc := 12) (tgt := 64) C dX3_hasEdgesOf_12 (by decide) (fun c_3 => ?_) (fun c_3 => ?_)
  · replace hF := And.left hF c_3
    refine zv_iconst (pc := 64) (v := 0) C (by decide) dX3_hasEdgesOf_64 ?_
    obtain ⟨hn_4, hF⟩ := hF
    exact zv_zret (pc := 65) C hr hlk (0 : Int32) () hn_4 hF rfl dX3_hasEdgesOf_65
  · replace hF := And.right hF c_3
    refine zv_aload_n (pc := 15) C rfl 0 rfl dX3_hasEdgesOf_15 ?_
    refine zv_get (pc := 16) (CC := RX3) (T := TX3) (N := 6) (ci := 2) (v := .ref qP1) C zi_X3_hasEdgesOf_X3 0 rfl 1 (by decide) zf_X3_hasEdgesOf_15 rfl rfl dX3_hasEdgesOf_16 ?_
    refine zv_iconst (pc := 19) (v := 0) C (by decide) dX3_hasEdgesOf_19 ?_
    obtain ⟨h_5, hF⟩ := hF
    refine zv_iald (pc := 20) (n := 2) (f := (P 1)) C 2 h_5 rfl dX3_hasEdgesOf_20 ?_
    refine zv_aload_n (pc := 21) C rfl 1 rfl dX3_hasEdgesOf_21 ?_
    refine zv_get (pc := 22) (CC := RX3) (T := TX3) (N := 6) (ci := 2) (v := .ref qO1) C zi_X3_hasEdgesOf_X3 6 rfl 1 (by decide) zf_X3_hasEdgesOf_15 rfl rfl dX3_hasEdgesOf_22 ?_
    refine zv_iconst (pc := 25) (v := 0) C (by decide) dX3_hasEdgesOf_25 ?_
    obtain ⟨h_6, hF⟩ := hF
    refine zv_iald (pc := 26) (n := 2) (f := (O 1)) C 8 h_6 rfl dX3_hasEdgesOf_26 ?_
    refine zv_icmp_ne (pc := 27) (tgt := 64) C dX3_hasEdgesOf_27 (by decide) (fun c_7 => ?_) (fun c_7 => ?_)
    · replace hF := And.left hF c_7
      refine zv_iconst (pc := 64) (v := 0) C (by decide) dX3_hasEdgesOf_64 ?_
      obtain ⟨hn_8, hF⟩ := hF
      exact zv_zret (pc := 65) C hr hlk (0 : Int32) () hn_8 hF rfl dX3_hasEdgesOf_65
    · replace hF := And.right hF c_7
      refine zv_aload_n (pc := 30) C rfl 0 rfl dX3_hasEdgesOf_30 ?_
      refine zv_get (pc := 31) (CC := RX3) (T := TX3) (N := 6) (ci := 2) (v := .ref qP0) C zi_X3_hasEdgesOf_X3 0 rfl 0 (by decide) zf_X3_hasEdgesOf_9 rfl rfl dX3_hasEdgesOf_31 ?_
      refine zv_iconst (pc := 34) (v := 1) C (by decide) dX3_hasEdgesOf_34 ?_
      obtain ⟨h_9, hF⟩ := hF
      refine zv_iald (pc := 35) (n := 2) (f := (P 0)) C 1 h_9 rfl dX3_hasEdgesOf_35 ?_
      refine zv_aload_n (pc := 36) C rfl 1 rfl dX3_hasEdgesOf_36 ?_
      refine zv_get (pc := 37) (CC := RX3) (T := TX3) (N := 6) (ci := 2) (v := .ref qO0) C zi_X3_hasEdgesOf_X3 6 rfl 0 (by decide) zf_X3_hasEdgesOf_9 rfl rfl dX3_hasEdgesOf_37 ?_
      refine zv_iconst (pc := 40) (v := 1) C (by decide) dX3_hasEdgesOf_40 ?_
      obtain ⟨h_10, hF⟩ := hF
      refine zv_iald (pc := 41) (n := 2) (f := (O 0)) C 7 h_10 rfl dX3_hasEdgesOf_41 ?_
      refine zv_icmp_ne (pc := 42) (tgt := 64) C dX3_hasEdgesOf_42 (by decide) (fun c_11 => ?_) (fun c_11 => ?_)
      · replace hF := And.left hF c_11
        refine zv_iconst (pc := 64) (v := 0) C (by decide) dX3_hasEdgesOf_64 ?_
        obtain ⟨hn_12, hF⟩ := hF
        exact zv_zret (pc := 65) C hr hlk (0 : Int32) () hn_12 hF rfl dX3_hasEdgesOf_65
      · replace hF := And.right hF c_11
        refine zv_aload_n (pc := 45) C rfl 0 rfl dX3_hasEdgesOf_45 ?_
        refine zv_get (pc := 46) (CC := RX3) (T := TX3) (N := 6) (ci := 2) (v := .ref qP1) C zi_X3_hasEdgesOf_X3 0 rfl 1 (by decide) zf_X3_hasEdgesOf_15 rfl rfl dX3_hasEdgesOf_46 ?_
        refine zv_iconst (pc := 49) (v := 1) C (by decide) dX3_hasEdgesOf_49 ?_
        obtain ⟨h_13, hF⟩ := hF
        refine zv_iald (pc := 50) (n := 2) (f := (P 1)) C 2 h_13 rfl dX3_hasEdgesOf_50 ?_
        refine zv_aload_n (pc := 51) C rfl 1 rfl dX3_hasEdgesOf_51 ?_
        refine zv_get (pc := 52) (CC := RX3) (T := TX3) (N := 6) (ci := 2) (v := .ref qO1) C zi_X3_hasEdgesOf_X3 6 rfl 1 (by decide) zf_X3_hasEdgesOf_15 rfl rfl dX3_hasEdgesOf_52 ?_
        refine zv_iconst (pc := 55) (v := 1) C (by decide) dX3_hasEdgesOf_55 ?_
        obtain ⟨h_14, hF⟩ := hF
        refine zv_iald (pc := 56) (n := 2) (f := (O 1)) C 8 h_14 rfl dX3_hasEdgesOf_56 ?_
        refine zv_icmp_ne (pc := 57) (tgt := 64) C dX3_hasEdgesOf_57 (by decide) (fun c_15 => ?_) (fun c_15 => ?_)
        · replace hF := And.left hF c_15
          refine zv_iconst (pc := 64) (v := 0) C (by decide) dX3_hasEdgesOf_64 ?_
          obtain ⟨hn_16, hF⟩ := hF
          exact zv_zret (pc := 65) C hr hlk (0 : Int32) () hn_16 hF rfl dX3_hasEdgesOf_65
        · replace hF := And.right hF c_15
          refine zv_iconst (pc := 60) (v := 1) C (by decide) dX3_hasEdgesOf_60 ?_
          refine zv_goto (pc := 61) (tgt := 65) C dX3_hasEdgesOf_61 (by decide) ?_
          obtain ⟨hn_17, hF⟩ := hF
          exact zv_zret (pc := 65) C hr hlk (1 : Int32) () hn_17 hF rfl dX3_hasEdgesOf_65
theorem zf_X3_moveLayer_18 : Cond.fieldLink RX3 18 "GlassStack$Pile" "up" "[I" ∈ wsX3_moveLayer := (List.mem_of_getElem? (i := 1) rfl)
theorem zf_X3_moveLayer_21 : Cond.fieldLink RX3 21 "GlassStack$Pile" "below" "[I" ∈ wsX3_moveLayer := (List.mem_of_getElem? (i := 2) rfl)
theorem zf_X3_moveLayer_24 : Cond.fieldLink RX3 24 "GlassStack$Pile" "width" "[I" ∈ wsX3_moveLayer := (List.mem_of_getElem? (i := 3) rfl)
theorem zi_X3_moveLayer_X3 : ∀ w ∈ wsX30, w ∈ wsX3_moveLayer := fun w h => List.mem_cons_of_mem _ (List.mem_append_right _ h)
theorem zy_X3_moveLayer : yX3_moveLayer.cls = RX3 ∧ yX3_moveLayer.cls ≠ "java/lang/invoke/MethodHandle" ∧ yX3_moveLayer.cls ≠ "java/lang/invoke/VarHandle" ∧ (parseMethodDescriptor yX3_moveLayer.desc).map (fun d => d.parameters.length) = some 2 := by decide +kernel
set_option maxHeartbeats 4000000 in
set_option maxRecDepth 100000 in
theorem zc_X3_moveLayer (l : Launch) (G : va_G) (cI : ClassId) (adP qP0 qP1 qP2 qP3 qP4 : Nat) (P : zMem) (a : Int32) (b : Int32) (post : zMem → Prop) (hF : zw_X3_moveLayer P a b post) (sz : Nat) : Met l yX3_moveLayer wsX3_moveLayer rmX3_moveLayer (va_Pc [.ref adP, .int a, .int b] (zv_in G cI (zd_X3_moveLayer cI adP qP0 qP1 qP2 qP3 qP4 P) sz)) (va_Qv (fun uz : zMem => post uz) (fun (uz : zMem) t => zv_out G cI (va_A (zd_X3_moveLayer cI adP qP0 qP1 qP2 qP3 qP4 P) sz) (zd_X3_moveLayer cI adP qP0 qP1 qP2 qP3 qP4 uz) t) (va_A (zd_X3_moveLayer cI adP qP0 qP1 qP2 qP3 qP4 P) sz)) 0 0 (va_A (zd_X3_moveLayer cI adP qP0 qP1 qP2 qP3 qP4 P) sz) := by
  refine zv_met (cc := cX3_moveLayer) (maxL := 3) (ret := none) (lv0 := [(0, .ref adP), (1, .int a), (2, .int b)]) (Qc := fun A => va_Qv (fun uz : zMem => post uz) (fun (uz : zMem) t => zv_out G cI A (zd_X3_moveLayer cI adP qP0 qP1 qP2 qP3 qP4 uz) t) A) (by decide) rfl (Nat.le_of_ble_eq_true rfl) rfl ?_ sz
  intro p e s m below meth c A C hr hlk
  clear sz
  refine zv_iload_n (pc := 0) C rfl 1 rfl dX3_moveLayer_0 ?_
  refine zv_if_lt (pc := 1) (tgt := 20) C dX3_moveLayer_1 (by decide) (fun c_1 => ?_) (fun c_1 => ?_)
  · replace hF := And.left hF c_1
    exact zv_vret (pc := 20) C hr hlk P hF rfl dX3_moveLayer_20
  · replace hF := And.right hF c_1
    refine zv_iload_n (pc := 4) C rfl 1 rfl dX3_moveLayer_4 ?_
    refine zv_bipush (pc := 5) (v := 6) C (by decide) dX3_moveLayer_5 ?_
    refine zv_icmp_ge (pc := 7) (tgt := 20) C dX3_moveLayer_7 (by decide) (fun c_2 => ?_) (fun c_2 => ?_)
    · replace hF := And.left hF c_2
      exact zv_vret (pc := 20) C hr hlk P hF rfl dX3_moveLayer_20
    · replace hF := And.right hF c_2
      refine zv_iload_n (pc := 10) C rfl 2 rfl dX3_moveLayer_10 ?_
      refine zv_if_lt (pc := 11) (tgt := 20) C dX3_moveLayer_11 (by decide) (fun c_3 => ?_) (fun c_3 => ?_)
      · replace hF := And.left hF c_3
        exact zv_vret (pc := 20) C hr hlk P hF rfl dX3_moveLayer_20
      · replace hF := And.right hF c_3
        refine zv_iload_n (pc := 14) C rfl 2 rfl dX3_moveLayer_14 ?_
        refine zv_bipush (pc := 15) (v := 6) C (by decide) dX3_moveLayer_15 ?_
        refine zv_icmp_lt (pc := 17) (tgt := 21) C dX3_moveLayer_17 (by decide) (fun c_4 => ?_) (fun c_4 => ?_)
        · replace hF := And.left hF c_4
          refine zv_aload_n (pc := 21) C rfl 0 rfl dX3_moveLayer_21 ?_
          refine zv_get (pc := 22) (CC := RX3) (T := TX3) (N := 6) (ci := 2) (v := .ref qP2) C zi_X3_moveLayer_X3 0 rfl 2 (by decide) zf_X3_moveLayer_18 rfl rfl dX3_moveLayer_22 ?_
          refine zv_iload_n (pc := 25) C rfl 2 rfl dX3_moveLayer_25 ?_
          refine zv_aload_n (pc := 26) C rfl 0 rfl dX3_moveLayer_26 ?_
          refine zv_get (pc := 27) (CC := RX3) (T := TX3) (N := 6) (ci := 2) (v := .ref qP2) C zi_X3_moveLayer_X3 0 rfl 2 (by decide) zf_X3_moveLayer_18 rfl rfl dX3_moveLayer_27 ?_
          refine zv_iload_n (pc := 30) C rfl 1 rfl dX3_moveLayer_30 ?_
          obtain ⟨h_5, hF⟩ := hF
          refine zv_iald (pc := 31) (n := 6) (f := (P 2)) C 3 h_5 rfl dX3_moveLayer_31 ?_
          obtain ⟨h_6, hF⟩ := hF
          obtain ⟨r_7, er_7⟩ : ∃ y : zRow, y = (upd (P 2) (Int32.toNatClampNeg b) ((P 2) (Int32.toNatClampNeg a))) := ⟨_, rfl⟩
          replace hF := hF r_7 er_7
          refine zv_iast (pc := 32) (n := 6) (f := (P 2)) (ws' := (zd_X3_moveLayer cI adP qP0 qP1 qP2 qP3 qP4 (zset P 2 r_7))) C 3 h_6 rfl (by rw [er_7]; rfl) dX3_moveLayer_32 ?_
          refine zv_aload_n (pc := 33) C rfl 0 rfl dX3_moveLayer_33 ?_
          refine zv_get (pc := 34) (CC := RX3) (T := TX3) (N := 6) (ci := 2) (v := .ref qP3) C zi_X3_moveLayer_X3 0 rfl 3 (by decide) zf_X3_moveLayer_21 rfl rfl dX3_moveLayer_34 ?_
          refine zv_iload_n (pc := 37) C rfl 2 rfl dX3_moveLayer_37 ?_
          refine zv_aload_n (pc := 38) C rfl 0 rfl dX3_moveLayer_38 ?_
          refine zv_get (pc := 39) (CC := RX3) (T := TX3) (N := 6) (ci := 2) (v := .ref qP3) C zi_X3_moveLayer_X3 0 rfl 3 (by decide) zf_X3_moveLayer_21 rfl rfl dX3_moveLayer_39 ?_
          refine zv_iload_n (pc := 42) C rfl 1 rfl dX3_moveLayer_42 ?_
          obtain ⟨h_8, hF⟩ := hF
          refine zv_iald (pc := 43) (n := 6) (f := (P 3)) C 4 h_8 rfl dX3_moveLayer_43 ?_
          obtain ⟨h_9, hF⟩ := hF
          obtain ⟨r_10, er_10⟩ : ∃ y : zRow, y = (upd (P 3) (Int32.toNatClampNeg b) ((P 3) (Int32.toNatClampNeg a))) := ⟨_, rfl⟩
          replace hF := hF r_10 er_10
          refine zv_iast (pc := 44) (n := 6) (f := (P 3)) (ws' := (zd_X3_moveLayer cI adP qP0 qP1 qP2 qP3 qP4 (zset (zset P 2 r_7) 3 r_10))) C 4 h_9 rfl (by rw [er_10]; rfl) dX3_moveLayer_44 ?_
          refine zv_aload_n (pc := 45) C rfl 0 rfl dX3_moveLayer_45 ?_
          refine zv_get (pc := 46) (CC := RX3) (T := TX3) (N := 6) (ci := 2) (v := .ref qP4) C zi_X3_moveLayer_X3 0 rfl 4 (by decide) zf_X3_moveLayer_24 rfl rfl dX3_moveLayer_46 ?_
          refine zv_iload_n (pc := 49) C rfl 2 rfl dX3_moveLayer_49 ?_
          refine zv_aload_n (pc := 50) C rfl 0 rfl dX3_moveLayer_50 ?_
          refine zv_get (pc := 51) (CC := RX3) (T := TX3) (N := 6) (ci := 2) (v := .ref qP4) C zi_X3_moveLayer_X3 0 rfl 4 (by decide) zf_X3_moveLayer_24 rfl rfl dX3_moveLayer_51 ?_
          refine zv_iload_n (pc := 54) C rfl 1 rfl dX3_moveLayer_54 ?_
          obtain ⟨h_11, hF⟩ := hF
          refine zv_iald (pc := 55) (n := 6) (f := (P 4)) C 5 h_11 rfl dX3_moveLayer_55 ?_
          obtain ⟨h_12, hF⟩ := hF
          obtain ⟨r_13, er_13⟩ : ∃ y : zRow, y = (upd (P 4) (Int32.toNatClampNeg b) ((P 4) (Int32.toNatClampNeg a))) := ⟨_, rfl⟩
          replace hF := hF r_13 er_13
          refine zv_iast (pc := 56) (n := 6) (f := (P 4)) (ws' := (zd_X3_moveLayer cI adP qP0 qP1 qP2 qP3 qP4 (zset (zset (zset P 2 r_7) 3 r_10) 4 r_13))) C 5 h_12 rfl (by rw [er_13]; rfl) dX3_moveLayer_56 ?_
          exact zv_vret (pc := 57) C hr hlk (zset (zset (zset P 2 r_7) 3 r_10) 4 r_13) hF rfl dX3_moveLayer_57
        · replace hF := And.right hF c_4
          exact zv_vret (pc := 20) C hr hlk P hF rfl dX3_moveLayer_20
theorem zf_X3_insert_18 : Cond.fieldLink RX3 18 "GlassStack$Pile" "up" "[I" ∈ wsX3_insert := (List.mem_of_getElem? (i := 2) rfl)
theorem zf_X3_insert_21 : Cond.fieldLink RX3 21 "GlassStack$Pile" "below" "[I" ∈ wsX3_insert := (List.mem_of_getElem? (i := 3) rfl)
theorem zf_X3_insert_24 : Cond.fieldLink RX3 24 "GlassStack$Pile" "width" "[I" ∈ wsX3_insert := (List.mem_of_getElem? (i := 4) rfl)
theorem zf_X3_insert_27 : Cond.fieldLink RX3 27 "GlassStack$Pile" "count" "I" ∈ wsX3_insert := (List.mem_of_getElem? (i := 1) rfl)
theorem zi_X3_insert_X3 : ∀ w ∈ wsX30, w ∈ wsX3_insert := fun w h => List.mem_cons_of_mem _ (List.mem_append_right _ h)
theorem zy_X3_insert : yX3_insert.cls = RX3 ∧ yX3_insert.cls ≠ "java/lang/invoke/MethodHandle" ∧ yX3_insert.cls ≠ "java/lang/invoke/VarHandle" ∧ (parseMethodDescriptor yX3_insert.desc).map (fun d => d.parameters.length) = some 4 := by decide +kernel
set_option maxHeartbeats 4000000 in
set_option maxRecDepth 100000 in
theorem zl_X3_insert_29 {p : Program} {l : Launch} {e : Env} {s : State} {m : MethodId} {args : Array Value} {below : List Frame} {meth : Method} {c : Code} {G : va_G} {cI : ClassId} {A : Nat → Prop} {Q : State → Prop} (adP qP0 qP1 qP2 qP3 qP4 : Nat) (c1 : Int32) (c2 : Int32) (c3 : Int32) (c4 : Int32) (K51 : zMem → Prop) (C : zv_C p s m args c cX3_insert 6 RX3 wsX3_insert G cI A) (hK51 : ∀ (P : zMem), K51 P → zv_V p l e (headSpec wsX3_insert rmX3_insert).room s m args below meth c Q G A 6 0 0 (zd_X3_insert cI adP qP0 qP1 qP2 qP3 qP4 P) 51 [(0, .ref adP), (1, .int c1), (2, .int c2), (3, .int c3), (4, .int c4)] []) : ∀ (k : Nat) (p5 : Int32) (P : zMem), zw_X3_insert_29 c1 c2 c3 c4 K51 k p5 P → zv_V p l e (headSpec wsX3_insert rmX3_insert).room s m args below meth c Q G A 6 0 0 (zd_X3_insert cI adP qP0 qP1 qP2 qP3 qP4 P) 29 [(0, .ref adP), (1, .int c1), (2, .int c2), (3, .int c3), (4, .int c4), (5, .int p5)] [] := by
  intro k
  induction k with
  | zero => intro p5 P hF; exact (show False from hF).elim
  | succ k ih =>
    intro p5 P hF
    refine zv_iload (pc := 29) C 5 rfl dX3_insert_29 ?_
    refine zv_iload_n (pc := 31) C rfl 1 rfl dX3_insert_31 ?_
    refine zv_icmp_le (pc := 32) (tgt := 51) C dX3_insert_32 (by decide) (fun c_7 => ?_) (fun c_7 => ?_)
    · replace hF := And.left hF c_7
      exact zv_lvs [0, 1, 2, 3, 4] rfl (hK51 P hF)
    · replace hF := And.right hF c_7
      refine zv_aload_n (pc := 35) C rfl 0 rfl dX3_insert_35 ?_
      refine zv_iload (pc := 36) C 5 rfl dX3_insert_36 ?_
      refine zv_iconst (pc := 38) (v := 1) C (by decide) dX3_insert_38 ?_
      refine zv_isub (pc := 39) C  dX3_insert_39 ?_
      refine zv_iload (pc := 40) C 5 rfl dX3_insert_40 ?_
      refine zv_cv0 (pc := 42) (ws' := (fun uz : zMem => (zd_X3_insert cI adP qP0 qP1 qP2 qP3 qP4 uz))) C (zv_runV (As := [.int (p5 - (1 : Int32)), .int p5]) (b := adP) (rest := []) (ci := 2) (q0 := 0) C (zc_X3_moveLayer l G cI adP qP0 qP1 qP2 qP3 qP4 P (p5 - (1 : Int32)) p5 _ hF) (cwV 2 C.2.2.2.2.1 gX3_insert_X3_moveLayer rfl rfl rfl zy_X3_moveLayer ⟨Nat.le_of_ble_eq_true rfl, Nat.le_of_ble_eq_true rfl⟩) rfl rfl rfl rfl rfl (Nat.le_of_ble_eq_true rfl) ⟨Nat.zero_le _, Nat.zero_le _⟩ dX3_insert_42) [0, 1, 2, 3, 4, 5] [] rfl rfl rfl rfl rfl (fun _ => rfl) (fun _ => rfl) (fun _ => rfl) (fun uz hF => ?_)
      obtain ⟨T_8, hE⟩ : ∃ z, z = uz := ⟨_, rfl⟩; subst hE
      obtain ⟨x5_9, ex5_9⟩ : ∃ y : Int32, y = p5 + (-1 : Int32) := ⟨_, rfl⟩
      replace hF := hF x5_9 ex5_9
      refine zv_iinc (pc := 45) (v := x5_9) (lv' := [(5, .int x5_9), (0, .ref adP), (1, .int c1), (2, .int c2), (3, .int c3), (4, .int c4)]) C 5 rfl (by rw [ex5_9]; rfl) (by decide) rfl dX3_insert_45 ?_
      refine zv_goto (pc := 48) (tgt := 29) C dX3_insert_48 (by decide) ?_
      exact zv_lvs [1, 2, 3, 4, 5, 0] rfl (ih x5_9 T_8 hF)
set_option maxHeartbeats 4000000 in
set_option maxRecDepth 100000 in
theorem zc_X3_insert (l : Launch) (G : va_G) (cI : ClassId) (adP qP0 qP1 qP2 qP3 qP4 : Nat) (P : zMem) (i : Int32) (a : Int32) (b : Int32) (w : Int32) (post : Int32 → zMem → Prop) (hF : zw_X3_insert P i a b w post) (sz : Nat) : Met l yX3_insert wsX3_insert rmX3_insert (va_Pc [.ref adP, .int i, .int a, .int b, .int w] (zv_in G cI (zd_X3_insert cI adP qP0 qP1 qP2 qP3 qP4 P) sz)) (va_Qi (fun (rz : Int32) (uz : zMem) => post rz uz) (fun (uz : zMem) t => zv_out G cI (va_A (zd_X3_insert cI adP qP0 qP1 qP2 qP3 qP4 P) sz) (zd_X3_insert cI adP qP0 qP1 qP2 qP3 qP4 uz) t) (va_A (zd_X3_insert cI adP qP0 qP1 qP2 qP3 qP4 P) sz)) 0 0 (va_A (zd_X3_insert cI adP qP0 qP1 qP2 qP3 qP4 P) sz) := by
  refine zv_met (cc := cX3_insert) (maxL := 6) (ret := (some .boolean)) (lv0 := [(0, .ref adP), (1, .int i), (2, .int a), (3, .int b), (4, .int w)]) (Qc := fun A => va_Qi (fun (rz : Int32) (uz : zMem) => post rz uz) (fun (uz : zMem) t => zv_out G cI A (zd_X3_insert cI adP qP0 qP1 qP2 qP3 qP4 uz) t) A) (by decide) rfl (Nat.le_of_ble_eq_true rfl) rfl ?_ sz
  intro p e s m below meth c A C hr hlk
  clear sz
  refine zv_aload_n (pc := 0) C rfl 0 rfl dX3_insert_0 ?_
  refine zv_get (pc := 1) (CC := RX3) (T := TX3) (N := 6) (ci := 2) (v := .int (P 5 0)) C zi_X3_insert_X3 0 rfl 5 (by decide) zf_X3_insert_27 rfl rfl dX3_insert_1 ?_
  refine zv_bipush (pc := 4) (v := 6) C (by decide) dX3_insert_4 ?_
  refine zv_icmp_ge (pc := 6) (tgt := 21) C dX3_insert_6 (by decide) (fun c_1 => ?_) (fun c_1 => ?_)
  · replace hF := And.left hF c_1
    refine zv_iconst (pc := 21) (v := 0) C (by decide) dX3_insert_21 ?_
    obtain ⟨hn_2, hF⟩ := hF
    exact zv_zret (pc := 22) C hr hlk (0 : Int32) P hn_2 hF rfl dX3_insert_22
  · replace hF := And.right hF c_1
    refine zv_iload_n (pc := 9) C rfl 1 rfl dX3_insert_9 ?_
    refine zv_if_lt (pc := 10) (tgt := 21) C dX3_insert_10 (by decide) (fun c_3 => ?_) (fun c_3 => ?_)
    · replace hF := And.left hF c_3
      refine zv_iconst (pc := 21) (v := 0) C (by decide) dX3_insert_21 ?_
      obtain ⟨hn_4, hF⟩ := hF
      exact zv_zret (pc := 22) C hr hlk (0 : Int32) P hn_4 hF rfl dX3_insert_22
    · replace hF := And.right hF c_3
      refine zv_iload_n (pc := 13) C rfl 1 rfl dX3_insert_13 ?_
      refine zv_aload_n (pc := 14) C rfl 0 rfl dX3_insert_14 ?_
      refine zv_get (pc := 15) (CC := RX3) (T := TX3) (N := 6) (ci := 2) (v := .int (P 5 0)) C zi_X3_insert_X3 0 rfl 5 (by decide) zf_X3_insert_27 rfl rfl dX3_insert_15 ?_
      refine zv_icmp_le (pc := 18) (tgt := 23) C dX3_insert_18 (by decide) (fun c_5 => ?_) (fun c_5 => ?_)
      · replace hF := And.left hF c_5
        refine zv_aload_n (pc := 23) C rfl 0 rfl dX3_insert_23 ?_
        refine zv_get (pc := 24) (CC := RX3) (T := TX3) (N := 6) (ci := 2) (v := .int (P 5 0)) C zi_X3_insert_X3 0 rfl 5 (by decide) zf_X3_insert_27 rfl rfl dX3_insert_24 ?_
        refine zv_topi (fun x5_6 ex5_6 => ?_)
        replace hF := hF x5_6 ex5_6
        refine zv_istore (pc := 27) (lv' := [(5, .int x5_6), (0, .ref adP), (1, .int i), (2, .int a), (3, .int b), (4, .int w)]) C (by decide) rfl dX3_insert_27 ?_
        obtain ⟨kf, hF⟩ := hF
        refine zv_lvs [1, 2, 3, 4, 5, 0] rfl (zl_X3_insert_29 adP qP0 qP1 qP2 qP3 qP4 i a b w _ C ?_ kf x5_6 P hF)
        · intro T_10 hF
          refine zv_aload_n (pc := 51) C rfl 0 rfl dX3_insert_51 ?_
          refine zv_get (pc := 52) (CC := RX3) (T := TX3) (N := 6) (ci := 2) (v := .ref qP2) C zi_X3_insert_X3 0 rfl 2 (by decide) zf_X3_insert_18 rfl rfl dX3_insert_52 ?_
          refine zv_iload_n (pc := 55) C rfl 1 rfl dX3_insert_55 ?_
          refine zv_iload_n (pc := 56) C rfl 2 rfl dX3_insert_56 ?_
          refine zv_iload_n (pc := 57) C rfl 3 rfl dX3_insert_57 ?_
          refine zv_ci0 (pc := 58) (ws' := (fun uz : Unit => (zd_X3_insert cI adP qP0 qP1 qP2 qP3 qP4 T_10))) C (zv_runS (As := [.int a, .int b]) (rest := [.int i, .ref qP2]) C (zc_X3_lowest l G cI a b _ hF) (va_cwS 2 C.2.2.2.2.1 gX3_insert_X3_lowest rfl rfl rfl zy_X3_lowest ⟨Nat.le_of_ble_eq_true rfl, Nat.le_of_ble_eq_true rfl⟩) rfl rfl (Nat.le_of_ble_eq_true rfl) ⟨Nat.zero_le _, Nat.zero_le _⟩ dX3_insert_58) [] [0, 1, 2, 3, 4, 5] rfl rfl rfl rfl rfl (fun _ => rfl) (fun _ => rfl) (fun _ => rfl) (fun v_11 uz hF => ?_)
          obtain ⟨h_12, hF⟩ := hF
          obtain ⟨r_13, er_13⟩ : ∃ y : zRow, y = (upd (T_10 2) (Int32.toNatClampNeg i) v_11) := ⟨_, rfl⟩
          replace hF := hF r_13 er_13
          refine zv_iast (pc := 61) (n := 6) (f := (T_10 2)) (ws' := (zd_X3_insert cI adP qP0 qP1 qP2 qP3 qP4 (zset T_10 2 r_13))) C 3 h_12 rfl (by rw [er_13]; rfl) dX3_insert_61 ?_
          refine zv_aload_n (pc := 62) C rfl 0 rfl dX3_insert_62 ?_
          refine zv_get (pc := 63) (CC := RX3) (T := TX3) (N := 6) (ci := 2) (v := .ref qP3) C zi_X3_insert_X3 0 rfl 3 (by decide) zf_X3_insert_21 rfl rfl dX3_insert_63 ?_
          refine zv_iload_n (pc := 66) C rfl 1 rfl dX3_insert_66 ?_
          refine zv_iload_n (pc := 67) C rfl 3 rfl dX3_insert_67 ?_
          refine zv_iload_n (pc := 68) C rfl 2 rfl dX3_insert_68 ?_
          refine zv_ci0 (pc := 69) (ws' := (fun uz : Unit => (zd_X3_insert cI adP qP0 qP1 qP2 qP3 qP4 (zset T_10 2 r_13)))) C (zv_runS (As := [.int b, .int a]) (rest := [.int i, .ref qP3]) C (zc_X3_lowest l G cI b a _ hF) (va_cwS 2 C.2.2.2.2.1 gX3_insert_X3_lowest rfl rfl rfl zy_X3_lowest ⟨Nat.le_of_ble_eq_true rfl, Nat.le_of_ble_eq_true rfl⟩) rfl rfl (Nat.le_of_ble_eq_true rfl) ⟨Nat.zero_le _, Nat.zero_le _⟩ dX3_insert_69) [] [0, 1, 2, 3, 4, 5] rfl rfl rfl rfl rfl (fun _ => rfl) (fun _ => rfl) (fun _ => rfl) (fun v_14 uz hF => ?_)
          obtain ⟨h_15, hF⟩ := hF
          obtain ⟨r_16, er_16⟩ : ∃ y : zRow, y = (upd (T_10 3) (Int32.toNatClampNeg i) v_14) := ⟨_, rfl⟩
          replace hF := hF r_16 er_16
          refine zv_iast (pc := 72) (n := 6) (f := (T_10 3)) (ws' := (zd_X3_insert cI adP qP0 qP1 qP2 qP3 qP4 (zset (zset T_10 2 r_13) 3 r_16))) C 4 h_15 rfl (by rw [er_16]; rfl) dX3_insert_72 ?_
          refine zv_aload_n (pc := 73) C rfl 0 rfl dX3_insert_73 ?_
          refine zv_get (pc := 74) (CC := RX3) (T := TX3) (N := 6) (ci := 2) (v := .ref qP4) C zi_X3_insert_X3 0 rfl 4 (by decide) zf_X3_insert_24 rfl rfl dX3_insert_74 ?_
          refine zv_iload_n (pc := 77) C rfl 1 rfl dX3_insert_77 ?_
          refine zv_iload (pc := 78) C 4 rfl dX3_insert_78 ?_
          obtain ⟨h_17, hF⟩ := hF
          obtain ⟨r_18, er_18⟩ : ∃ y : zRow, y = (upd (T_10 4) (Int32.toNatClampNeg i) w) := ⟨_, rfl⟩
          replace hF := hF r_18 er_18
          refine zv_iast (pc := 80) (n := 6) (f := (T_10 4)) (ws' := (zd_X3_insert cI adP qP0 qP1 qP2 qP3 qP4 (zset (zset (zset T_10 2 r_13) 3 r_16) 4 r_18))) C 5 h_17 rfl (by rw [er_18]; rfl) dX3_insert_80 ?_
          refine zv_aload_n (pc := 81) C rfl 0 rfl dX3_insert_81 ?_
          refine zv_dup (pc := 82) C rfl dX3_insert_82 ?_
          refine zv_get (pc := 83) (CC := RX3) (T := TX3) (N := 6) (ci := 2) (v := .int (T_10 5 0)) C zi_X3_insert_X3 0 rfl 5 (by decide) zf_X3_insert_27 rfl rfl dX3_insert_83 ?_
          refine zv_iconst (pc := 86) (v := 1) C (by decide) dX3_insert_86 ?_
          refine zv_iadd (pc := 87) C  dX3_insert_87 ?_
          refine zv_topi (fun y_19 ey_19 => ?_)
          replace hF := hF y_19 ey_19
          refine zv_put (pc := 88) (CC := RX3) (T := TX3) (N := 6) (ci := 2) (v := .int y_19) (ty := .int) (ws' := (zd_X3_insert cI adP qP0 qP1 qP2 qP3 qP4 (zset (zset (zset (zset T_10 2 r_13) 3 r_16) 4 r_18) 5 (fun _ => y_19)))) C zi_X3_insert_X3 tyX3 tyX3_ok nmX3 0 rfl 5 (by decide) zf_X3_insert_27 rfl (by decide +kernel) rfl rfl rfl (Nat.le_of_ble_eq_true rfl) rfl dX3_insert_88 ?_
          refine zv_iconst (pc := 91) (v := 1) C (by decide) dX3_insert_91 ?_
          obtain ⟨hn_20, hF⟩ := hF
          exact zv_zret (pc := 92) C hr hlk (1 : Int32) (zset (zset (zset (zset T_10 2 r_13) 3 r_16) 4 r_18) 5 (fun _ => y_19)) hn_20 hF rfl dX3_insert_92
      · replace hF := And.right hF c_5
        refine zv_iconst (pc := 21) (v := 0) C (by decide) dX3_insert_21 ?_
        obtain ⟨hn_21, hF⟩ := hF
        exact zv_zret (pc := 22) C hr hlk (0 : Int32) P hn_21 hF rfl dX3_insert_22
theorem zf_X3_remove_27 : Cond.fieldLink RX3 27 "GlassStack$Pile" "count" "I" ∈ wsX3_remove := (List.mem_of_getElem? (i := 1) rfl)
theorem zi_X3_remove_X3 : ∀ w ∈ wsX30, w ∈ wsX3_remove := fun w h => List.mem_cons_of_mem _ (List.mem_append_right _ h)
theorem zy_X3_remove : yX3_remove.cls = RX3 ∧ yX3_remove.cls ≠ "java/lang/invoke/MethodHandle" ∧ yX3_remove.cls ≠ "java/lang/invoke/VarHandle" ∧ (parseMethodDescriptor yX3_remove.desc).map (fun d => d.parameters.length) = some 1 := by decide +kernel
set_option maxHeartbeats 4000000 in
set_option maxRecDepth 100000 in
theorem zl_X3_remove_25 {p : Program} {l : Launch} {e : Env} {s : State} {m : MethodId} {args : Array Value} {below : List Frame} {meth : Method} {c : Code} {G : va_G} {cI : ClassId} {A : Nat → Prop} {Q : State → Prop} (adP qP0 qP1 qP2 qP3 qP4 : Nat) (K47 : zMem → Prop) (C : zv_C p s m args c cX3_remove 3 RX3 wsX3_remove G cI A) (hK47 : ∀ (P : zMem), K47 P → zv_V p l e (headSpec wsX3_remove rmX3_remove).room s m args below meth c Q G A 3 0 0 (zd_X3_remove cI adP qP0 qP1 qP2 qP3 qP4 P) 47 [] []) : ∀ (k : Nat) (p2 : Int32) (P : zMem), zw_X3_remove_25 K47 k p2 P → zv_V p l e (headSpec wsX3_remove rmX3_remove).room s m args below meth c Q G A 3 0 0 (zd_X3_remove cI adP qP0 qP1 qP2 qP3 qP4 P) 25 [(0, .ref adP), (2, .int p2)] [] := by
  intro k
  induction k with
  | zero => intro p2 P hF; exact (show False from hF).elim
  | succ k ih =>
    intro p2 P hF
    refine zv_iload_n (pc := 25) C rfl 1 rfl dX3_remove_25 ?_
    refine zv_aload_n (pc := 26) C rfl 0 rfl dX3_remove_26 ?_
    refine zv_get (pc := 27) (CC := RX3) (T := TX3) (N := 6) (ci := 2) (v := .int (P 5 0)) C zi_X3_remove_X3 0 rfl 5 (by decide) zf_X3_remove_27 rfl rfl dX3_remove_27 ?_
    refine zv_icmp_ge (pc := 30) (tgt := 47) C dX3_remove_30 (by decide) (fun c_4 => ?_) (fun c_4 => ?_)
    · replace hF := And.left hF c_4
      exact zv_lvs [] rfl (hK47 P hF)
    · replace hF := And.right hF c_4
      refine zv_aload_n (pc := 33) C rfl 0 rfl dX3_remove_33 ?_
      refine zv_iload_n (pc := 34) C rfl 1 rfl dX3_remove_34 ?_
      refine zv_iconst (pc := 35) (v := 1) C (by decide) dX3_remove_35 ?_
      refine zv_iadd (pc := 36) C  dX3_remove_36 ?_
      refine zv_iload_n (pc := 37) C rfl 1 rfl dX3_remove_37 ?_
      refine zv_cv0 (pc := 38) (ws' := (fun uz : zMem => (zd_X3_remove cI adP qP0 qP1 qP2 qP3 qP4 uz))) C (zv_runV (As := [.int (p2 + (1 : Int32)), .int p2]) (b := adP) (rest := []) (ci := 2) (q0 := 0) C (zc_X3_moveLayer l G cI adP qP0 qP1 qP2 qP3 qP4 P (p2 + (1 : Int32)) p2 _ hF) (cwV 2 C.2.2.2.2.1 gX3_remove_X3_moveLayer rfl rfl rfl zy_X3_moveLayer ⟨Nat.le_of_ble_eq_true rfl, Nat.le_of_ble_eq_true rfl⟩) rfl rfl rfl rfl rfl (Nat.le_of_ble_eq_true rfl) ⟨Nat.zero_le _, Nat.zero_le _⟩ dX3_remove_38) [0, 1, 2, 3, 4, 5] [] rfl rfl rfl rfl rfl (fun _ => rfl) (fun _ => rfl) (fun _ => rfl) (fun uz hF => ?_)
      obtain ⟨T_5, hE⟩ : ∃ z, z = uz := ⟨_, rfl⟩; subst hE
      obtain ⟨x2_6, ex2_6⟩ : ∃ y : Int32, y = p2 + (1 : Int32) := ⟨_, rfl⟩
      replace hF := hF x2_6 ex2_6
      refine zv_iinc (pc := 41) (v := x2_6) (lv' := [(2, .int x2_6), (0, .ref adP)]) C 1 rfl (by rw [ex2_6]; rfl) (by decide) rfl dX3_remove_41 ?_
      refine zv_goto (pc := 44) (tgt := 25) C dX3_remove_44 (by decide) ?_
      exact zv_lvs [1, 0] rfl (ih x2_6 T_5 hF)
set_option maxHeartbeats 4000000 in
set_option maxRecDepth 100000 in
theorem zc_X3_remove (l : Launch) (G : va_G) (cI : ClassId) (adP qP0 qP1 qP2 qP3 qP4 : Nat) (P : zMem) (i : Int32) (post : zMem → Prop) (hF : zw_X3_remove P i post) (sz : Nat) : Met l yX3_remove wsX3_remove rmX3_remove (va_Pc [.ref adP, .int i] (zv_in G cI (zd_X3_remove cI adP qP0 qP1 qP2 qP3 qP4 P) sz)) (va_Qv (fun uz : zMem => post uz) (fun (uz : zMem) t => zv_out G cI (va_A (zd_X3_remove cI adP qP0 qP1 qP2 qP3 qP4 P) sz) (zd_X3_remove cI adP qP0 qP1 qP2 qP3 qP4 uz) t) (va_A (zd_X3_remove cI adP qP0 qP1 qP2 qP3 qP4 P) sz)) 0 0 (va_A (zd_X3_remove cI adP qP0 qP1 qP2 qP3 qP4 P) sz) := by
  refine zv_met (cc := cX3_remove) (maxL := 3) (ret := none) (lv0 := [(0, .ref adP), (1, .int i)]) (Qc := fun A => va_Qv (fun uz : zMem => post uz) (fun (uz : zMem) t => zv_out G cI A (zd_X3_remove cI adP qP0 qP1 qP2 qP3 qP4 uz) t) A) (by decide) rfl (Nat.le_of_ble_eq_true rfl) rfl ?_ sz
  intro p e s m below meth c A C hr hlk
  clear sz
  refine zv_iload_n (pc := 0) C rfl 1 rfl dX3_remove_0 ?_
  refine zv_if_lt (pc := 1) (tgt := 12) C dX3_remove_1 (by decide) (fun c_1 => ?_) (fun c_1 => ?_)
  · replace hF := And.left hF c_1
    exact zv_vret (pc := 12) C hr hlk P hF rfl dX3_remove_12
  · replace hF := And.right hF c_1
    refine zv_iload_n (pc := 4) C rfl 1 rfl dX3_remove_4 ?_
    refine zv_aload_n (pc := 5) C rfl 0 rfl dX3_remove_5 ?_
    refine zv_get (pc := 6) (CC := RX3) (T := TX3) (N := 6) (ci := 2) (v := .int (P 5 0)) C zi_X3_remove_X3 0 rfl 5 (by decide) zf_X3_remove_27 rfl rfl dX3_remove_6 ?_
    refine zv_icmp_lt (pc := 9) (tgt := 13) C dX3_remove_9 (by decide) (fun c_2 => ?_) (fun c_2 => ?_)
    · replace hF := And.left hF c_2
      refine zv_aload_n (pc := 13) C rfl 0 rfl dX3_remove_13 ?_
      refine zv_dup (pc := 14) C rfl dX3_remove_14 ?_
      refine zv_get (pc := 15) (CC := RX3) (T := TX3) (N := 6) (ci := 2) (v := .int (P 5 0)) C zi_X3_remove_X3 0 rfl 5 (by decide) zf_X3_remove_27 rfl rfl dX3_remove_15 ?_
      refine zv_iconst (pc := 18) (v := 1) C (by decide) dX3_remove_18 ?_
      refine zv_isub (pc := 19) C  dX3_remove_19 ?_
      refine zv_topi (fun y_3 ey_3 => ?_)
      replace hF := hF y_3 ey_3
      refine zv_put (pc := 20) (CC := RX3) (T := TX3) (N := 6) (ci := 2) (v := .int y_3) (ty := .int) (ws' := (zd_X3_remove cI adP qP0 qP1 qP2 qP3 qP4 (zset P 5 (fun _ => y_3)))) C zi_X3_remove_X3 tyX3 tyX3_ok nmX3 0 rfl 5 (by decide) zf_X3_remove_27 rfl (by decide +kernel) rfl rfl rfl (Nat.le_of_ble_eq_true rfl) rfl dX3_remove_20 ?_
      refine zv_iload_n (pc := 23) C rfl 1 rfl dX3_remove_23 ?_
      refine zv_istore_n (pc := 24) (lv' := [(2, .int i), (0, .ref adP), (1, .int i)]) C rfl (by decide) rfl dX3_remove_24 ?_
      obtain ⟨kf, hF⟩ := hF
      refine zv_lvs [1, 0] rfl (zl_X3_remove_25 adP qP0 qP1 qP2 qP3 qP4 _ C ?_ kf i (zset P 5 (fun _ => y_3)) hF)
      · intro T_7 hF
        exact zv_vret (pc := 47) C hr hlk T_7 hF rfl dX3_remove_47
    · replace hF := And.right hF c_2
      exact zv_vret (pc := 12) C hr hlk P hF rfl dX3_remove_12
theorem zf_X3_removeAll_27 : Cond.fieldLink RX3 27 "GlassStack$Pile" "count" "I" ∈ wsX3_removeAll := (List.mem_of_getElem? (i := 1) rfl)
theorem zi_X3_removeAll_X3 : ∀ w ∈ wsX30, w ∈ wsX3_removeAll := fun w h => List.mem_cons_of_mem _ (List.mem_append_right _ h)
theorem zy_X3_removeAll : yX3_removeAll.cls = RX3 ∧ yX3_removeAll.cls ≠ "java/lang/invoke/MethodHandle" ∧ yX3_removeAll.cls ≠ "java/lang/invoke/VarHandle" ∧ (parseMethodDescriptor yX3_removeAll.desc).map (fun d => d.parameters.length) = some 0 := by decide +kernel
set_option maxHeartbeats 4000000 in
set_option maxRecDepth 100000 in
theorem zc_X3_removeAll (l : Launch) (G : va_G) (cI : ClassId) (adP qP0 qP1 qP2 qP3 qP4 : Nat) (P : zMem) (post : zMem → Prop) (hF : zw_X3_removeAll P post) (sz : Nat) : Met l yX3_removeAll wsX3_removeAll rmX3_removeAll (va_Pc [.ref adP] (zv_in G cI (zd_X3_removeAll cI adP qP0 qP1 qP2 qP3 qP4 P) sz)) (va_Qv (fun uz : zMem => post uz) (fun (uz : zMem) t => zv_out G cI (va_A (zd_X3_removeAll cI adP qP0 qP1 qP2 qP3 qP4 P) sz) (zd_X3_removeAll cI adP qP0 qP1 qP2 qP3 qP4 uz) t) (va_A (zd_X3_removeAll cI adP qP0 qP1 qP2 qP3 qP4 P) sz)) 0 0 (va_A (zd_X3_removeAll cI adP qP0 qP1 qP2 qP3 qP4 P) sz) := by
  refine zv_met (cc := cX3_removeAll) (maxL := 1) (ret := none) (lv0 := [(0, .ref adP)]) (Qc := fun A => va_Qv (fun uz : zMem => post uz) (fun (uz : zMem) t => zv_out G cI A (zd_X3_removeAll cI adP qP0 qP1 qP2 qP3 qP4 uz) t) A) (by decide) rfl (Nat.le_of_ble_eq_true rfl) rfl ?_ sz
  intro p e s m below meth c A C hr hlk
  clear sz
  refine zv_aload_n (pc := 0) C rfl 0 rfl dX3_removeAll_0 ?_
  refine zv_iconst (pc := 1) (v := 0) C (by decide) dX3_removeAll_1 ?_
  refine zv_put (pc := 2) (CC := RX3) (T := TX3) (N := 6) (ci := 2) (v := .int (0 : Int32)) (ty := .int) (ws' := (zd_X3_removeAll cI adP qP0 qP1 qP2 qP3 qP4 (zset P 5 (fun _ => (0 : Int32))))) C zi_X3_removeAll_X3 tyX3 tyX3_ok nmX3 0 rfl 5 (by decide) zf_X3_removeAll_27 rfl (by decide +kernel) rfl rfl rfl (Nat.le_of_ble_eq_true rfl) rfl dX3_removeAll_2 ?_
  exact zv_vret (pc := 5) C hr hlk (zset P 5 (fun _ => (0 : Int32))) hF rfl dX3_removeAll_5
theorem zf_X3_layerPart_18 : Cond.fieldLink RX3 18 "GlassStack$Pile" "up" "[I" ∈ wsX3_layerPart := (List.mem_of_getElem? (i := 2) rfl)
theorem zf_X3_layerPart_21 : Cond.fieldLink RX3 21 "GlassStack$Pile" "below" "[I" ∈ wsX3_layerPart := (List.mem_of_getElem? (i := 3) rfl)
theorem zf_X3_layerPart_24 : Cond.fieldLink RX3 24 "GlassStack$Pile" "width" "[I" ∈ wsX3_layerPart := (List.mem_of_getElem? (i := 4) rfl)
theorem zf_X3_layerPart_27 : Cond.fieldLink RX3 27 "GlassStack$Pile" "count" "I" ∈ wsX3_layerPart := (List.mem_of_getElem? (i := 1) rfl)
theorem zi_X3_layerPart_X3 : ∀ w ∈ wsX30, w ∈ wsX3_layerPart := fun w h => List.mem_cons_of_mem _ (List.mem_append_right _ h)
theorem zy_X3_layerPart : yX3_layerPart.cls = RX3 ∧ yX3_layerPart.cls ≠ "java/lang/invoke/MethodHandle" ∧ yX3_layerPart.cls ≠ "java/lang/invoke/VarHandle" ∧ (parseMethodDescriptor yX3_layerPart.desc).map (fun d => d.parameters.length) = some 2 := by decide +kernel
set_option maxHeartbeats 4000000 in
set_option maxRecDepth 100000 in
theorem zc_X3_layerPart (l : Launch) (G : va_G) (cI : ClassId) (adP qP0 qP1 qP2 qP3 qP4 : Nat) (P : zMem) (i : Int32) (pt : Int32) (post : Int32 → Prop) (hF : zw_X3_layerPart P i pt post) (sz : Nat) : Met l yX3_layerPart wsX3_layerPart rmX3_layerPart (va_Pc [.ref adP, .int i, .int pt] (zv_in G cI (zd_X3_layerPart cI adP qP0 qP1 qP2 qP3 qP4 P) sz)) (va_Qi (fun (rz : Int32) (uz : Unit) => post rz ) (fun (uz : Unit) t => zv_out G cI (va_A (zd_X3_layerPart cI adP qP0 qP1 qP2 qP3 qP4 P) sz) (zd_X3_layerPart cI adP qP0 qP1 qP2 qP3 qP4 P) t) (va_A (zd_X3_layerPart cI adP qP0 qP1 qP2 qP3 qP4 P) sz)) 0 0 (va_A (zd_X3_layerPart cI adP qP0 qP1 qP2 qP3 qP4 P) sz) := by
  refine zv_met (cc := cX3_layerPart) (maxL := 3) (ret := (some .int)) (lv0 := [(0, .ref adP), (1, .int i), (2, .int pt)]) (Qc := fun A => va_Qi (fun (rz : Int32) (uz : Unit) => post rz ) (fun (uz : Unit) t => zv_out G cI A (zd_X3_layerPart cI adP qP0 qP1 qP2 qP3 qP4 P) t) A) (by decide) rfl (Nat.le_of_ble_eq_true rfl) rfl ?_ sz
  intro p e s m below meth c A C hr hlk
  clear sz
  refine zv_iload_n (pc := 0) C rfl 1 rfl dX3_layerPart_0 ?_
  refine zv_if_lt (pc := 1) (tgt := 12) C dX3_layerPart_1 (by decide) (fun c_1 => ?_) (fun c_1 => ?_)
  · replace hF := And.left hF c_1
    refine zv_iconst (pc := 12) (v := 0) C (by decide) dX3_layerPart_12 ?_
    exact zv_iret (pc := 13) C hr hlk (0 : Int32) () hF rfl dX3_layerPart_13
  · replace hF := And.right hF c_1
    refine zv_iload_n (pc := 4) C rfl 1 rfl dX3_layerPart_4 ?_
    refine zv_aload_n (pc := 5) C rfl 0 rfl dX3_layerPart_5 ?_
    refine zv_get (pc := 6) (CC := RX3) (T := TX3) (N := 6) (ci := 2) (v := .int (P 5 0)) C zi_X3_layerPart_X3 0 rfl 5 (by decide) zf_X3_layerPart_27 rfl rfl dX3_layerPart_6 ?_
    refine zv_icmp_lt (pc := 9) (tgt := 14) C dX3_layerPart_9 (by decide) (fun c_2 => ?_) (fun c_2 => ?_)
    · replace hF := And.left hF c_2
      refine zv_iload_n (pc := 14) C rfl 2 rfl dX3_layerPart_14 ?_
      refine zv_if_ne (pc := 15) (tgt := 25) C dX3_layerPart_15 (by decide) (fun c_3 => ?_) (fun c_3 => ?_)
      · replace hF := And.left hF c_3
        refine zv_iload_n (pc := 25) C rfl 2 rfl dX3_layerPart_25 ?_
        refine zv_iconst (pc := 26) (v := 1) C (by decide) dX3_layerPart_26 ?_
        refine zv_icmp_ne (pc := 27) (tgt := 39) C dX3_layerPart_27 (by decide) (fun c_4 => ?_) (fun c_4 => ?_)
        · replace hF := And.left hF c_4
          refine zv_aload_n (pc := 39) C rfl 0 rfl dX3_layerPart_39 ?_
          refine zv_get (pc := 40) (CC := RX3) (T := TX3) (N := 6) (ci := 2) (v := .ref qP4) C zi_X3_layerPart_X3 0 rfl 4 (by decide) zf_X3_layerPart_24 rfl rfl dX3_layerPart_40 ?_
          refine zv_iload_n (pc := 43) C rfl 1 rfl dX3_layerPart_43 ?_
          obtain ⟨h_5, hF⟩ := hF
          refine zv_iald (pc := 44) (n := 6) (f := (P 4)) C 5 h_5 rfl dX3_layerPart_44 ?_
          exact zv_iret (pc := 45) C hr hlk ((P 4) (Int32.toNatClampNeg i)) () hF rfl dX3_layerPart_45
        · replace hF := And.right hF c_4
          refine zv_aload_n (pc := 30) C rfl 0 rfl dX3_layerPart_30 ?_
          refine zv_get (pc := 31) (CC := RX3) (T := TX3) (N := 6) (ci := 2) (v := .ref qP3) C zi_X3_layerPart_X3 0 rfl 3 (by decide) zf_X3_layerPart_21 rfl rfl dX3_layerPart_31 ?_
          refine zv_iload_n (pc := 34) C rfl 1 rfl dX3_layerPart_34 ?_
          obtain ⟨h_6, hF⟩ := hF
          refine zv_iald (pc := 35) (n := 6) (f := (P 3)) C 4 h_6 rfl dX3_layerPart_35 ?_
          refine zv_goto (pc := 36) (tgt := 45) C dX3_layerPart_36 (by decide) ?_
          exact zv_iret (pc := 45) C hr hlk ((P 3) (Int32.toNatClampNeg i)) () hF rfl dX3_layerPart_45
      · replace hF := And.right hF c_3
        refine zv_aload_n (pc := 18) C rfl 0 rfl dX3_layerPart_18 ?_
        refine zv_get (pc := 19) (CC := RX3) (T := TX3) (N := 6) (ci := 2) (v := .ref qP2) C zi_X3_layerPart_X3 0 rfl 2 (by decide) zf_X3_layerPart_18 rfl rfl dX3_layerPart_19 ?_
        refine zv_iload_n (pc := 22) C rfl 1 rfl dX3_layerPart_22 ?_
        obtain ⟨h_7, hF⟩ := hF
        refine zv_iald (pc := 23) (n := 6) (f := (P 2)) C 3 h_7 rfl dX3_layerPart_23 ?_
        exact zv_iret (pc := 24) C hr hlk ((P 2) (Int32.toNatClampNeg i)) () hF rfl dX3_layerPart_24
    · replace hF := And.right hF c_2
      refine zv_iconst (pc := 12) (v := 0) C (by decide) dX3_layerPart_12 ?_
      exact zv_iret (pc := 13) C hr hlk (0 : Int32) () hF rfl dX3_layerPart_13
theorem zy_X3_swap : yX3_swap.cls ≠ "java/lang/invoke/MethodHandle" ∧ yX3_swap.cls ≠ "java/lang/invoke/VarHandle" ∧ (parseMethodDescriptor yX3_swap.desc).map (fun d => d.parameters.length) = some 3 := by decide +kernel
set_option maxHeartbeats 4000000 in
set_option maxRecDepth 100000 in
theorem zc_X3_swap (l : Launch) (G : va_G) (cI : ClassId) (qr : Nat) (nr : Nat) (r : zRow) (i : Int32) (j : Int32) (post : zRow → Prop) (hF : zw_X3_swap nr r i j post) (sz : Nat) : Met l yX3_swap wsX3_swap rmX3_swap (va_Pc [.ref qr, .int i, .int j] (zv_in G cI (zd_X3_swap cI qr nr r) sz)) (va_Qv (fun uz : zRow => post uz) (fun (uz : zRow) t => zv_out G cI (va_A (zd_X3_swap cI qr nr r) sz) (zd_X3_swap cI qr nr uz) t) (va_A (zd_X3_swap cI qr nr r) sz)) 0 0 (va_A (zd_X3_swap cI qr nr r) sz) := by
  refine zv_met (cc := cX3_swap) (maxL := 4) (ret := none) (lv0 := [(0, .ref qr), (1, .int i), (2, .int j)]) (Qc := fun A => va_Qv (fun uz : zRow => post uz) (fun (uz : zRow) t => zv_out G cI A (zd_X3_swap cI qr nr uz) t) A) (by decide) rfl (Nat.le_of_ble_eq_true rfl) rfl ?_ sz
  intro p e s m below meth c A C hr hlk
  clear sz
  refine zv_iload_n (pc := 0) C rfl 1 rfl dX3_swap_0 ?_
  refine zv_if_lt (pc := 1) (tgt := 20) C dX3_swap_1 (by decide) (fun c_1 => ?_) (fun c_1 => ?_)
  · replace hF := And.left hF c_1
    exact zv_vret (pc := 20) C hr hlk r hF rfl dX3_swap_20
  · replace hF := And.right hF c_1
    refine zv_iload_n (pc := 4) C rfl 1 rfl dX3_swap_4 ?_
    refine zv_aload_n (pc := 5) C rfl 0 rfl dX3_swap_5 ?_
    refine zv_alen (pc := 6) (n := nr) (f := r) (v := (nI nr)) C 0 rfl rfl dX3_swap_6 ?_
    refine zv_icmp_ge (pc := 7) (tgt := 20) C dX3_swap_7 (by decide) (fun c_2 => ?_) (fun c_2 => ?_)
    · replace hF := And.left hF c_2
      exact zv_vret (pc := 20) C hr hlk r hF rfl dX3_swap_20
    · replace hF := And.right hF c_2
      refine zv_iload_n (pc := 10) C rfl 2 rfl dX3_swap_10 ?_
      refine zv_if_lt (pc := 11) (tgt := 20) C dX3_swap_11 (by decide) (fun c_3 => ?_) (fun c_3 => ?_)
      · replace hF := And.left hF c_3
        exact zv_vret (pc := 20) C hr hlk r hF rfl dX3_swap_20
      · replace hF := And.right hF c_3
        refine zv_iload_n (pc := 14) C rfl 2 rfl dX3_swap_14 ?_
        refine zv_aload_n (pc := 15) C rfl 0 rfl dX3_swap_15 ?_
        refine zv_alen (pc := 16) (n := nr) (f := r) (v := (nI nr)) C 0 rfl rfl dX3_swap_16 ?_
        refine zv_icmp_lt (pc := 17) (tgt := 21) C dX3_swap_17 (by decide) (fun c_4 => ?_) (fun c_4 => ?_)
        · replace hF := And.left hF c_4
          refine zv_aload_n (pc := 21) C rfl 0 rfl dX3_swap_21 ?_
          refine zv_iload_n (pc := 22) C rfl 1 rfl dX3_swap_22 ?_
          obtain ⟨h_5, hF⟩ := hF
          refine zv_iald (pc := 23) (n := nr) (f := r) C 0 h_5 rfl dX3_swap_23 ?_
          refine zv_topi (fun x3_6 ex3_6 => ?_)
          replace hF := hF x3_6 ex3_6
          refine zv_istore_n (pc := 24) (lv' := [(3, .int x3_6), (0, .ref qr), (1, .int i), (2, .int j)]) C rfl (by decide) rfl dX3_swap_24 ?_
          refine zv_aload_n (pc := 25) C rfl 1 rfl dX3_swap_25 ?_
          refine zv_iload_n (pc := 26) C rfl 2 rfl dX3_swap_26 ?_
          refine zv_aload_n (pc := 27) C rfl 1 rfl dX3_swap_27 ?_
          refine zv_iload_n (pc := 28) C rfl 3 rfl dX3_swap_28 ?_
          obtain ⟨h_7, hF⟩ := hF
          refine zv_iald (pc := 29) (n := nr) (f := r) C 0 h_7 rfl dX3_swap_29 ?_
          obtain ⟨h_8, hF⟩ := hF
          obtain ⟨r_9, er_9⟩ : ∃ y : zRow, y = (upd r (Int32.toNatClampNeg i) (r (Int32.toNatClampNeg j))) := ⟨_, rfl⟩
          replace hF := hF r_9 er_9
          refine zv_iast (pc := 30) (n := nr) (f := r) (ws' := (zd_X3_swap cI qr nr r_9)) C 0 h_8 rfl (by rw [er_9]; rfl) dX3_swap_30 ?_
          refine zv_aload_n (pc := 31) C rfl 1 rfl dX3_swap_31 ?_
          refine zv_iload_n (pc := 32) C rfl 3 rfl dX3_swap_32 ?_
          refine zv_iload_n (pc := 33) C rfl 0 rfl dX3_swap_33 ?_
          obtain ⟨h_10, hF⟩ := hF
          obtain ⟨r_11, er_11⟩ : ∃ y : zRow, y = (upd r_9 (Int32.toNatClampNeg j) x3_6) := ⟨_, rfl⟩
          replace hF := hF r_11 er_11
          refine zv_iast (pc := 34) (n := nr) (f := r_9) (ws' := (zd_X3_swap cI qr nr r_11)) C 0 h_10 rfl (by rw [er_11]; rfl) dX3_swap_34 ?_
          exact zv_vret (pc := 35) C hr hlk r_11 hF rfl dX3_swap_35
        · replace hF := And.right hF c_4
          exact zv_vret (pc := 20) C hr hlk r hF rfl dX3_swap_20
theorem zf_X3_reverse_15 : Cond.fieldLink RX3 15 "GlassStack$Pile" "edgeBelow" "[I" ∈ wsX3_reverse := (List.mem_of_getElem? (i := 2) rfl)
theorem zf_X3_reverse_18 : Cond.fieldLink RX3 18 "GlassStack$Pile" "up" "[I" ∈ wsX3_reverse := (List.mem_of_getElem? (i := 4) rfl)
theorem zf_X3_reverse_21 : Cond.fieldLink RX3 21 "GlassStack$Pile" "below" "[I" ∈ wsX3_reverse := (List.mem_of_getElem? (i := 5) rfl)
theorem zf_X3_reverse_24 : Cond.fieldLink RX3 24 "GlassStack$Pile" "width" "[I" ∈ wsX3_reverse := (List.mem_of_getElem? (i := 6) rfl)
theorem zf_X3_reverse_27 : Cond.fieldLink RX3 27 "GlassStack$Pile" "count" "I" ∈ wsX3_reverse := (List.mem_of_getElem? (i := 3) rfl)
theorem zf_X3_reverse_9 : Cond.fieldLink RX3 9 "GlassStack$Pile" "edgeUp" "[I" ∈ wsX3_reverse := (List.mem_of_getElem? (i := 1) rfl)
theorem zi_X3_reverse_X3 : ∀ w ∈ wsX30, w ∈ wsX3_reverse := fun w h => List.mem_cons_of_mem _ (List.mem_append_right _ h)
theorem zy_X3_reverse : yX3_reverse.cls = RX3 ∧ yX3_reverse.cls ≠ "java/lang/invoke/MethodHandle" ∧ yX3_reverse.cls ≠ "java/lang/invoke/VarHandle" ∧ (parseMethodDescriptor yX3_reverse.desc).map (fun d => d.parameters.length) = some 0 := by decide +kernel
set_option maxHeartbeats 4000000 in
set_option maxRecDepth 100000 in
theorem zl_X3_reverse_27 {p : Program} {l : Launch} {e : Env} {s : State} {m : MethodId} {args : Array Value} {below : List Frame} {meth : Method} {c : Code} {G : va_G} {cI : ClassId} {A : Nat → Prop} {Q : State → Prop} (adP qP0 qP1 qP2 qP3 qP4 : Nat) (K68 : zMem → Prop) (C : zv_C p s m args c cX3_reverse 3 RX3 wsX3_reverse G cI A) (hK68 : ∀ (P : zMem), K68 P → zv_V p l e (headSpec wsX3_reverse rmX3_reverse).room s m args below meth c Q G A 3 0 0 (zd_X3_reverse cI adP qP0 qP1 qP2 qP3 qP4 P) 68 [] []) : ∀ (k : Nat) (p1 : Int32) (p2 : Int32) (P : zMem), zw_X3_reverse_27 K68 k p1 p2 P → zv_V p l e (headSpec wsX3_reverse rmX3_reverse).room s m args below meth c Q G A 3 0 0 (zd_X3_reverse cI adP qP0 qP1 qP2 qP3 qP4 P) 27 [(0, .ref adP), (1, .int p1), (2, .int p2)] [] := by
  intro k
  induction k with
  | zero => intro p1 p2 P hF; exact (show False from hF).elim
  | succ k ih =>
    intro p1 p2 P hF
    refine zv_iload_n (pc := 27) C rfl 1 rfl dX3_reverse_27 ?_
    refine zv_iload_n (pc := 28) C rfl 2 rfl dX3_reverse_28 ?_
    refine zv_icmp_ge (pc := 29) (tgt := 68) C dX3_reverse_29 (by decide) (fun c_4 => ?_) (fun c_4 => ?_)
    · replace hF := And.left hF c_4
      exact zv_lvs [] rfl (hK68 P hF)
    · replace hF := And.right hF c_4
      refine zv_aload_n (pc := 32) C rfl 0 rfl dX3_reverse_32 ?_
      refine zv_get (pc := 33) (CC := RX3) (T := TX3) (N := 6) (ci := 2) (v := .ref qP2) C zi_X3_reverse_X3 0 rfl 2 (by decide) zf_X3_reverse_18 rfl rfl dX3_reverse_33 ?_
      refine zv_iload_n (pc := 36) C rfl 1 rfl dX3_reverse_36 ?_
      refine zv_iload_n (pc := 37) C rfl 2 rfl dX3_reverse_37 ?_
      refine zv_cv0 (pc := 38) (ws' := (fun uz : zRow => (zd_X3_reverse cI adP qP0 qP1 qP2 qP3 qP4 (zset P 2 uz)))) C (zv_runS (As := [.ref qP2, .int p1, .int p2]) (rest := []) C (zc_X3_swap l G cI qP2 6 (P 2) p1 p2 _ hF) (va_cwS 3 C.2.2.2.2.1 gX3_reverse_X3_swap rfl rfl rfl zy_X3_swap ⟨Nat.le_of_ble_eq_true rfl, Nat.le_of_ble_eq_true rfl⟩) rfl rfl (Nat.le_of_ble_eq_true rfl) ⟨Nat.zero_le _, Nat.zero_le _⟩ dX3_reverse_38) [3] [0, 1, 2, 4, 5] rfl rfl rfl rfl rfl (fun _ => rfl) (fun _ => rfl) (fun _ => rfl) (fun uz hF => ?_)
      obtain ⟨r_5, hE⟩ : ∃ z, z = uz := ⟨_, rfl⟩; subst hE
      refine zv_aload_n (pc := 41) C rfl 0 rfl dX3_reverse_41 ?_
      refine zv_get (pc := 42) (CC := RX3) (T := TX3) (N := 6) (ci := 2) (v := .ref qP3) C zi_X3_reverse_X3 0 rfl 3 (by decide) zf_X3_reverse_21 rfl rfl dX3_reverse_42 ?_
      refine zv_iload_n (pc := 45) C rfl 1 rfl dX3_reverse_45 ?_
      refine zv_iload_n (pc := 46) C rfl 2 rfl dX3_reverse_46 ?_
      refine zv_cv0 (pc := 47) (ws' := (fun uz : zRow => (zd_X3_reverse cI adP qP0 qP1 qP2 qP3 qP4 (zset (zset P 2 r_5) 3 uz)))) C (zv_runS (As := [.ref qP3, .int p1, .int p2]) (rest := []) C (zc_X3_swap l G cI qP3 6 (P 3) p1 p2 _ hF) (va_cwS 3 C.2.2.2.2.1 gX3_reverse_X3_swap rfl rfl rfl zy_X3_swap ⟨Nat.le_of_ble_eq_true rfl, Nat.le_of_ble_eq_true rfl⟩) rfl rfl (Nat.le_of_ble_eq_true rfl) ⟨Nat.zero_le _, Nat.zero_le _⟩ dX3_reverse_47) [4] [0, 1, 2, 3, 5] rfl rfl rfl rfl rfl (fun _ => rfl) (fun _ => rfl) (fun _ => rfl) (fun uz hF => ?_)
      obtain ⟨r_6, hE⟩ : ∃ z, z = uz := ⟨_, rfl⟩; subst hE
      refine zv_aload_n (pc := 50) C rfl 0 rfl dX3_reverse_50 ?_
      refine zv_get (pc := 51) (CC := RX3) (T := TX3) (N := 6) (ci := 2) (v := .ref qP4) C zi_X3_reverse_X3 0 rfl 4 (by decide) zf_X3_reverse_24 rfl rfl dX3_reverse_51 ?_
      refine zv_iload_n (pc := 54) C rfl 1 rfl dX3_reverse_54 ?_
      refine zv_iload_n (pc := 55) C rfl 2 rfl dX3_reverse_55 ?_
      refine zv_cv0 (pc := 56) (ws' := (fun uz : zRow => (zd_X3_reverse cI adP qP0 qP1 qP2 qP3 qP4 (zset (zset (zset P 2 r_5) 3 r_6) 4 uz)))) C (zv_runS (As := [.ref qP4, .int p1, .int p2]) (rest := []) C (zc_X3_swap l G cI qP4 6 (P 4) p1 p2 _ hF) (va_cwS 3 C.2.2.2.2.1 gX3_reverse_X3_swap rfl rfl rfl zy_X3_swap ⟨Nat.le_of_ble_eq_true rfl, Nat.le_of_ble_eq_true rfl⟩) rfl rfl (Nat.le_of_ble_eq_true rfl) ⟨Nat.zero_le _, Nat.zero_le _⟩ dX3_reverse_56) [5] [0, 1, 2, 3, 4] rfl rfl rfl rfl rfl (fun _ => rfl) (fun _ => rfl) (fun _ => rfl) (fun uz hF => ?_)
      obtain ⟨r_7, hE⟩ : ∃ z, z = uz := ⟨_, rfl⟩; subst hE
      obtain ⟨x1_8, ex1_8⟩ : ∃ y : Int32, y = p1 + (1 : Int32) := ⟨_, rfl⟩
      replace hF := hF x1_8 ex1_8
      refine zv_iinc (pc := 59) (v := x1_8) (lv' := [(1, .int x1_8), (0, .ref adP), (2, .int p2)]) C 1 rfl (by rw [ex1_8]; rfl) (by decide) rfl dX3_reverse_59 ?_
      obtain ⟨x2_9, ex2_9⟩ : ∃ y : Int32, y = p2 + (-1 : Int32) := ⟨_, rfl⟩
      replace hF := hF x2_9 ex2_9
      refine zv_iinc (pc := 62) (v := x2_9) (lv' := [(2, .int x2_9), (1, .int x1_8), (0, .ref adP)]) C 2 rfl (by rw [ex2_9]; rfl) (by decide) rfl dX3_reverse_62 ?_
      refine zv_goto (pc := 65) (tgt := 27) C dX3_reverse_65 (by decide) ?_
      exact zv_lvs [2, 1, 0] rfl (ih x1_8 x2_9 (zset (zset (zset P 2 r_5) 3 r_6) 4 r_7) hF)
set_option maxHeartbeats 4000000 in
set_option maxRecDepth 100000 in
theorem zc_X3_reverse (l : Launch) (G : va_G) (cI : ClassId) (adP qP0 qP1 qP2 qP3 qP4 : Nat) (P : zMem) (post : zMem → Prop) (hF : zw_X3_reverse P post) (sz : Nat) : Met l yX3_reverse wsX3_reverse rmX3_reverse (va_Pc [.ref adP] (zv_in G cI (zd_X3_reverse cI adP qP0 qP1 qP2 qP3 qP4 P) sz)) (va_Qv (fun uz : zMem => post uz) (fun (uz : zMem) t => zv_out G cI (va_A (zd_X3_reverse cI adP qP0 qP1 qP2 qP3 qP4 P) sz) (zd_X3_reverse cI adP qP0 qP1 qP2 qP3 qP4 uz) t) (va_A (zd_X3_reverse cI adP qP0 qP1 qP2 qP3 qP4 P) sz)) 0 0 (va_A (zd_X3_reverse cI adP qP0 qP1 qP2 qP3 qP4 P) sz) := by
  refine zv_met (cc := cX3_reverse) (maxL := 3) (ret := none) (lv0 := [(0, .ref adP)]) (Qc := fun A => va_Qv (fun uz : zMem => post uz) (fun (uz : zMem) t => zv_out G cI A (zd_X3_reverse cI adP qP0 qP1 qP2 qP3 qP4 uz) t) A) (by decide) rfl (Nat.le_of_ble_eq_true rfl) rfl ?_ sz
  intro p e s m below meth c A C hr hlk
  clear sz
  refine zv_aload_n (pc := 0) C rfl 0 rfl dX3_reverse_0 ?_
  refine zv_get (pc := 1) (CC := RX3) (T := TX3) (N := 6) (ci := 2) (v := .ref qP0) C zi_X3_reverse_X3 0 rfl 0 (by decide) zf_X3_reverse_9 rfl rfl dX3_reverse_1 ?_
  refine zv_iconst (pc := 4) (v := 0) C (by decide) dX3_reverse_4 ?_
  refine zv_iconst (pc := 5) (v := 1) C (by decide) dX3_reverse_5 ?_
  refine zv_cv0 (pc := 6) (ws' := (fun uz : zRow => (zd_X3_reverse cI adP qP0 qP1 qP2 qP3 qP4 (zset P 0 uz)))) C (zv_runS (As := [.ref qP0, .int (0 : Int32), .int (1 : Int32)]) (rest := []) C (zc_X3_swap l G cI qP0 2 (P 0) (0 : Int32) (1 : Int32) _ hF) (va_cwS 3 C.2.2.2.2.1 gX3_reverse_X3_swap rfl rfl rfl zy_X3_swap ⟨Nat.le_of_ble_eq_true rfl, Nat.le_of_ble_eq_true rfl⟩) rfl rfl (Nat.le_of_ble_eq_true rfl) ⟨Nat.zero_le _, Nat.zero_le _⟩ dX3_reverse_6) [1] [0, 2, 3, 4, 5] rfl rfl rfl rfl rfl (fun _ => rfl) (fun _ => rfl) (fun _ => rfl) (fun uz hF => ?_)
  obtain ⟨r_1, hE⟩ : ∃ z, z = uz := ⟨_, rfl⟩; subst hE
  refine zv_aload_n (pc := 9) C rfl 0 rfl dX3_reverse_9 ?_
  refine zv_get (pc := 10) (CC := RX3) (T := TX3) (N := 6) (ci := 2) (v := .ref qP1) C zi_X3_reverse_X3 0 rfl 1 (by decide) zf_X3_reverse_15 rfl rfl dX3_reverse_10 ?_
  refine zv_iconst (pc := 13) (v := 0) C (by decide) dX3_reverse_13 ?_
  refine zv_iconst (pc := 14) (v := 1) C (by decide) dX3_reverse_14 ?_
  refine zv_cv0 (pc := 15) (ws' := (fun uz : zRow => (zd_X3_reverse cI adP qP0 qP1 qP2 qP3 qP4 (zset (zset P 0 r_1) 1 uz)))) C (zv_runS (As := [.ref qP1, .int (0 : Int32), .int (1 : Int32)]) (rest := []) C (zc_X3_swap l G cI qP1 2 (P 1) (0 : Int32) (1 : Int32) _ hF) (va_cwS 3 C.2.2.2.2.1 gX3_reverse_X3_swap rfl rfl rfl zy_X3_swap ⟨Nat.le_of_ble_eq_true rfl, Nat.le_of_ble_eq_true rfl⟩) rfl rfl (Nat.le_of_ble_eq_true rfl) ⟨Nat.zero_le _, Nat.zero_le _⟩ dX3_reverse_15) [2] [0, 1, 3, 4, 5] rfl rfl rfl rfl rfl (fun _ => rfl) (fun _ => rfl) (fun _ => rfl) (fun uz hF => ?_)
  obtain ⟨r_2, hE⟩ : ∃ z, z = uz := ⟨_, rfl⟩; subst hE
  refine zv_iconst (pc := 18) (v := 0) C (by decide) dX3_reverse_18 ?_
  refine zv_istore_n (pc := 19) (lv' := [(1, .int (0 : Int32)), (0, .ref adP)]) C rfl (by decide) rfl dX3_reverse_19 ?_
  refine zv_aload_n (pc := 20) C rfl 1 rfl dX3_reverse_20 ?_
  refine zv_get (pc := 21) (CC := RX3) (T := TX3) (N := 6) (ci := 2) (v := .int (P 5 0)) C zi_X3_reverse_X3 0 rfl 5 (by decide) zf_X3_reverse_27 rfl rfl dX3_reverse_21 ?_
  refine zv_iconst (pc := 24) (v := 1) C (by decide) dX3_reverse_24 ?_
  refine zv_isub (pc := 25) C  dX3_reverse_25 ?_
  refine zv_topi (fun x2_3 ex2_3 => ?_)
  replace hF := hF x2_3 ex2_3
  refine zv_istore_n (pc := 26) (lv' := [(2, .int x2_3), (1, .int (0 : Int32)), (0, .ref adP)]) C rfl (by decide) rfl dX3_reverse_26 ?_
  obtain ⟨kf, hF⟩ := hF
  refine zv_lvs [2, 1, 0] rfl (zl_X3_reverse_27 adP qP0 qP1 qP2 qP3 qP4 _ C ?_ kf (0 : Int32) x2_3 (zset (zset P 0 r_1) 1 r_2) hF)
  · intro T_10 hF
    exact zv_vret (pc := 68) C hr hlk T_10 hF rfl dX3_reverse_68
theorem zf_X3_becomeLike_15 : Cond.fieldLink RX3 15 "GlassStack$Pile" "edgeBelow" "[I" ∈ wsX3_becomeLike := (List.mem_of_getElem? (i := 6) rfl)
theorem zf_X3_becomeLike_18 : Cond.fieldLink RX3 18 "GlassStack$Pile" "up" "[I" ∈ wsX3_becomeLike := (List.mem_of_getElem? (i := 7) rfl)
theorem zf_X3_becomeLike_21 : Cond.fieldLink RX3 21 "GlassStack$Pile" "below" "[I" ∈ wsX3_becomeLike := (List.mem_of_getElem? (i := 8) rfl)
theorem zf_X3_becomeLike_24 : Cond.fieldLink RX3 24 "GlassStack$Pile" "width" "[I" ∈ wsX3_becomeLike := (List.mem_of_getElem? (i := 9) rfl)
theorem zf_X3_becomeLike_27 : Cond.fieldLink RX3 27 "GlassStack$Pile" "count" "I" ∈ wsX3_becomeLike := (List.mem_of_getElem? (i := 10) rfl)
theorem zf_X3_becomeLike_9 : Cond.fieldLink RX3 9 "GlassStack$Pile" "edgeUp" "[I" ∈ wsX3_becomeLike := (List.mem_of_getElem? (i := 1) rfl)
theorem zi_X3_becomeLike_X3 : ∀ w ∈ wsX30, w ∈ wsX3_becomeLike := fun w h => List.mem_cons_of_mem _ (List.mem_append_right _ h)
theorem zy_X3_becomeLike : yX3_becomeLike.cls = RX3 ∧ yX3_becomeLike.cls ≠ "java/lang/invoke/MethodHandle" ∧ yX3_becomeLike.cls ≠ "java/lang/invoke/VarHandle" ∧ (parseMethodDescriptor yX3_becomeLike.desc).map (fun d => d.parameters.length) = some 1 := by decide +kernel
set_option maxHeartbeats 4000000 in
set_option maxRecDepth 100000 in
theorem zc_X3_becomeLike (l : Launch) (G : va_G) (cI : ClassId) (adP qP0 qP1 qP2 qP3 qP4 adO qO0 qO1 qO2 qO3 qO4 : Nat) (P : zMem) (O : zMem) (post : zMem → Prop) (hF : zw_X3_becomeLike P O post) (sz : Nat) : Met l yX3_becomeLike wsX3_becomeLike rmX3_becomeLike (va_Pc [.ref adP, .ref adO] (zv_in G cI (zd_X3_becomeLike cI adP qP0 qP1 qP2 qP3 qP4 adO qO0 qO1 qO2 qO3 qO4 P O) sz)) (va_Qv (fun uz : zMem => post uz) (fun (uz : zMem) t => zv_out G cI (va_A (zd_X3_becomeLike cI adP qP0 qP1 qP2 qP3 qP4 adO qO0 qO1 qO2 qO3 qO4 P O) sz) (zd_X3_becomeLike cI adP qP0 qP1 qP2 qP3 qP4 adO qO0 qO1 qO2 qO3 qO4 uz O) t) (va_A (zd_X3_becomeLike cI adP qP0 qP1 qP2 qP3 qP4 adO qO0 qO1 qO2 qO3 qO4 P O) sz)) 0 0 (va_A (zd_X3_becomeLike cI adP qP0 qP1 qP2 qP3 qP4 adO qO0 qO1 qO2 qO3 qO4 P O) sz) := by
  refine zv_met (cc := cX3_becomeLike) (maxL := 2) (ret := none) (lv0 := [(0, .ref adP), (1, .ref adO)]) (Qc := fun A => va_Qv (fun uz : zMem => post uz) (fun (uz : zMem) t => zv_out G cI A (zd_X3_becomeLike cI adP qP0 qP1 qP2 qP3 qP4 adO qO0 qO1 qO2 qO3 qO4 uz O) t) A) (by decide) rfl (Nat.le_of_ble_eq_true rfl) rfl ?_ sz
  intro p e s m below meth c A C hr hlk
  clear sz
  refine zv_aload_n (pc := 0) C rfl 1 rfl dX3_becomeLike_0 ?_
  refine zv_get (pc := 1) (CC := RX3) (T := TX3) (N := 6) (ci := 2) (v := .ref qO0) C zi_X3_becomeLike_X3 6 rfl 0 (by decide) zf_X3_becomeLike_9 rfl rfl dX3_becomeLike_1 ?_
  refine zv_iconst (pc := 4) (v := 0) C (by decide) dX3_becomeLike_4 ?_
  refine zv_aload_n (pc := 5) C rfl 0 rfl dX3_becomeLike_5 ?_
  refine zv_get (pc := 6) (CC := RX3) (T := TX3) (N := 6) (ci := 2) (v := .ref qP0) C zi_X3_becomeLike_X3 0 rfl 0 (by decide) zf_X3_becomeLike_9 rfl rfl dX3_becomeLike_6 ?_
  refine zv_iconst (pc := 9) (v := 0) C (by decide) dX3_becomeLike_9 ?_
  refine zv_iconst (pc := 10) (v := 2) C (by decide) dX3_becomeLike_10 ?_
  obtain ⟨r_1, er_1⟩ : ∃ y : zRow, y = (va_cpy (O 0) (P 0) 0 0 2) := ⟨_, rfl⟩
  replace hF := hF r_1 er_1
  refine zv_copyi (pc := 11) (f := (O 0)) (g := (P 0)) (n0 := 2) (n1 := 2) (ws' := (zd_X3_becomeLike cI adP qP0 qP1 qP2 qP3 qP4 adO qO0 qO1 qO2 qO3 qO4 (zset P 0 r_1) O)) C (List.mem_of_getElem? (i := 2) rfl) (List.mem_of_getElem? (i := 3) rfl) (List.mem_of_getElem? (i := 4) rfl) (List.mem_of_getElem? (i := 5) rfl) 7 1 (by decide) (by decide) (by decide) (by decide) (by decide) (Nat.le_of_ble_eq_true rfl) (Nat.le_of_ble_eq_true rfl) rfl rfl (by rw [er_1]; rfl) dX3_becomeLike_11 ?_
  refine zv_aload_n (pc := 14) C rfl 1 rfl dX3_becomeLike_14 ?_
  refine zv_get (pc := 15) (CC := RX3) (T := TX3) (N := 6) (ci := 2) (v := .ref qO1) C zi_X3_becomeLike_X3 6 rfl 1 (by decide) zf_X3_becomeLike_15 rfl rfl dX3_becomeLike_15 ?_
  refine zv_iconst (pc := 18) (v := 0) C (by decide) dX3_becomeLike_18 ?_
  refine zv_aload_n (pc := 19) C rfl 0 rfl dX3_becomeLike_19 ?_
  refine zv_get (pc := 20) (CC := RX3) (T := TX3) (N := 6) (ci := 2) (v := .ref qP1) C zi_X3_becomeLike_X3 0 rfl 1 (by decide) zf_X3_becomeLike_15 rfl rfl dX3_becomeLike_20 ?_
  refine zv_iconst (pc := 23) (v := 0) C (by decide) dX3_becomeLike_23 ?_
  refine zv_iconst (pc := 24) (v := 2) C (by decide) dX3_becomeLike_24 ?_
  obtain ⟨r_2, er_2⟩ : ∃ y : zRow, y = (va_cpy (O 1) (P 1) 0 0 2) := ⟨_, rfl⟩
  replace hF := hF r_2 er_2
  refine zv_copyi (pc := 25) (f := (O 1)) (g := (P 1)) (n0 := 2) (n1 := 2) (ws' := (zd_X3_becomeLike cI adP qP0 qP1 qP2 qP3 qP4 adO qO0 qO1 qO2 qO3 qO4 (zset (zset P 0 r_1) 1 r_2) O)) C (List.mem_of_getElem? (i := 2) rfl) (List.mem_of_getElem? (i := 3) rfl) (List.mem_of_getElem? (i := 4) rfl) (List.mem_of_getElem? (i := 5) rfl) 8 2 (by decide) (by decide) (by decide) (by decide) (by decide) (Nat.le_of_ble_eq_true rfl) (Nat.le_of_ble_eq_true rfl) rfl rfl (by rw [er_2]; rfl) dX3_becomeLike_25 ?_
  refine zv_aload_n (pc := 28) C rfl 1 rfl dX3_becomeLike_28 ?_
  refine zv_get (pc := 29) (CC := RX3) (T := TX3) (N := 6) (ci := 2) (v := .ref qO2) C zi_X3_becomeLike_X3 6 rfl 2 (by decide) zf_X3_becomeLike_18 rfl rfl dX3_becomeLike_29 ?_
  refine zv_iconst (pc := 32) (v := 0) C (by decide) dX3_becomeLike_32 ?_
  refine zv_aload_n (pc := 33) C rfl 0 rfl dX3_becomeLike_33 ?_
  refine zv_get (pc := 34) (CC := RX3) (T := TX3) (N := 6) (ci := 2) (v := .ref qP2) C zi_X3_becomeLike_X3 0 rfl 2 (by decide) zf_X3_becomeLike_18 rfl rfl dX3_becomeLike_34 ?_
  refine zv_iconst (pc := 37) (v := 0) C (by decide) dX3_becomeLike_37 ?_
  refine zv_bipush (pc := 38) (v := 6) C (by decide) dX3_becomeLike_38 ?_
  obtain ⟨r_3, er_3⟩ : ∃ y : zRow, y = (va_cpy (O 2) (P 2) 0 0 6) := ⟨_, rfl⟩
  replace hF := hF r_3 er_3
  refine zv_copyi (pc := 40) (f := (O 2)) (g := (P 2)) (n0 := 6) (n1 := 6) (ws' := (zd_X3_becomeLike cI adP qP0 qP1 qP2 qP3 qP4 adO qO0 qO1 qO2 qO3 qO4 (zset (zset (zset P 0 r_1) 1 r_2) 2 r_3) O)) C (List.mem_of_getElem? (i := 2) rfl) (List.mem_of_getElem? (i := 3) rfl) (List.mem_of_getElem? (i := 4) rfl) (List.mem_of_getElem? (i := 5) rfl) 9 3 (by decide) (by decide) (by decide) (by decide) (by decide) (Nat.le_of_ble_eq_true rfl) (Nat.le_of_ble_eq_true rfl) rfl rfl (by rw [er_3]; rfl) dX3_becomeLike_40 ?_
  refine zv_aload_n (pc := 43) C rfl 1 rfl dX3_becomeLike_43 ?_
  refine zv_get (pc := 44) (CC := RX3) (T := TX3) (N := 6) (ci := 2) (v := .ref qO3) C zi_X3_becomeLike_X3 6 rfl 3 (by decide) zf_X3_becomeLike_21 rfl rfl dX3_becomeLike_44 ?_
  refine zv_iconst (pc := 47) (v := 0) C (by decide) dX3_becomeLike_47 ?_
  refine zv_aload_n (pc := 48) C rfl 0 rfl dX3_becomeLike_48 ?_
  refine zv_get (pc := 49) (CC := RX3) (T := TX3) (N := 6) (ci := 2) (v := .ref qP3) C zi_X3_becomeLike_X3 0 rfl 3 (by decide) zf_X3_becomeLike_21 rfl rfl dX3_becomeLike_49 ?_
  refine zv_iconst (pc := 52) (v := 0) C (by decide) dX3_becomeLike_52 ?_
  refine zv_bipush (pc := 53) (v := 6) C (by decide) dX3_becomeLike_53 ?_
  obtain ⟨r_4, er_4⟩ : ∃ y : zRow, y = (va_cpy (O 3) (P 3) 0 0 6) := ⟨_, rfl⟩
  replace hF := hF r_4 er_4
  refine zv_copyi (pc := 55) (f := (O 3)) (g := (P 3)) (n0 := 6) (n1 := 6) (ws' := (zd_X3_becomeLike cI adP qP0 qP1 qP2 qP3 qP4 adO qO0 qO1 qO2 qO3 qO4 (zset (zset (zset (zset P 0 r_1) 1 r_2) 2 r_3) 3 r_4) O)) C (List.mem_of_getElem? (i := 2) rfl) (List.mem_of_getElem? (i := 3) rfl) (List.mem_of_getElem? (i := 4) rfl) (List.mem_of_getElem? (i := 5) rfl) 10 4 (by decide) (by decide) (by decide) (by decide) (by decide) (Nat.le_of_ble_eq_true rfl) (Nat.le_of_ble_eq_true rfl) rfl rfl (by rw [er_4]; rfl) dX3_becomeLike_55 ?_
  refine zv_aload_n (pc := 58) C rfl 1 rfl dX3_becomeLike_58 ?_
  refine zv_get (pc := 59) (CC := RX3) (T := TX3) (N := 6) (ci := 2) (v := .ref qO4) C zi_X3_becomeLike_X3 6 rfl 4 (by decide) zf_X3_becomeLike_24 rfl rfl dX3_becomeLike_59 ?_
  refine zv_iconst (pc := 62) (v := 0) C (by decide) dX3_becomeLike_62 ?_
  refine zv_aload_n (pc := 63) C rfl 0 rfl dX3_becomeLike_63 ?_
  refine zv_get (pc := 64) (CC := RX3) (T := TX3) (N := 6) (ci := 2) (v := .ref qP4) C zi_X3_becomeLike_X3 0 rfl 4 (by decide) zf_X3_becomeLike_24 rfl rfl dX3_becomeLike_64 ?_
  refine zv_iconst (pc := 67) (v := 0) C (by decide) dX3_becomeLike_67 ?_
  refine zv_bipush (pc := 68) (v := 6) C (by decide) dX3_becomeLike_68 ?_
  obtain ⟨r_5, er_5⟩ : ∃ y : zRow, y = (va_cpy (O 4) (P 4) 0 0 6) := ⟨_, rfl⟩
  replace hF := hF r_5 er_5
  refine zv_copyi (pc := 70) (f := (O 4)) (g := (P 4)) (n0 := 6) (n1 := 6) (ws' := (zd_X3_becomeLike cI adP qP0 qP1 qP2 qP3 qP4 adO qO0 qO1 qO2 qO3 qO4 (zset (zset (zset (zset (zset P 0 r_1) 1 r_2) 2 r_3) 3 r_4) 4 r_5) O)) C (List.mem_of_getElem? (i := 2) rfl) (List.mem_of_getElem? (i := 3) rfl) (List.mem_of_getElem? (i := 4) rfl) (List.mem_of_getElem? (i := 5) rfl) 11 5 (by decide) (by decide) (by decide) (by decide) (by decide) (Nat.le_of_ble_eq_true rfl) (Nat.le_of_ble_eq_true rfl) rfl rfl (by rw [er_5]; rfl) dX3_becomeLike_70 ?_
  refine zv_aload_n (pc := 73) C rfl 0 rfl dX3_becomeLike_73 ?_
  refine zv_aload_n (pc := 74) C rfl 1 rfl dX3_becomeLike_74 ?_
  refine zv_get (pc := 75) (CC := RX3) (T := TX3) (N := 6) (ci := 2) (v := .int (O 5 0)) C zi_X3_becomeLike_X3 6 rfl 5 (by decide) zf_X3_becomeLike_27 rfl rfl dX3_becomeLike_75 ?_
  refine zv_topi (fun y_6 ey_6 => ?_)
  replace hF := hF y_6 ey_6
  refine zv_put (pc := 78) (CC := RX3) (T := TX3) (N := 6) (ci := 2) (v := .int y_6) (ty := .int) (ws' := (zd_X3_becomeLike cI adP qP0 qP1 qP2 qP3 qP4 adO qO0 qO1 qO2 qO3 qO4 (zset (zset (zset (zset (zset (zset P 0 r_1) 1 r_2) 2 r_3) 3 r_4) 4 r_5) 5 (fun _ => y_6)) O)) C zi_X3_becomeLike_X3 tyX3 tyX3_ok nmX3 0 rfl 5 (by decide) zf_X3_becomeLike_27 rfl (by decide +kernel) rfl rfl rfl (Nat.le_of_ble_eq_true rfl) rfl dX3_becomeLike_78 ?_
  exact zv_vret (pc := 81) C hr hlk (zset (zset (zset (zset (zset (zset P 0 r_1) 1 r_2) 2 r_3) 3 r_4) 4 r_5) 5 (fun _ => y_6)) hF rfl dX3_becomeLike_81
