/-! X4_rowOf -/
def zd_X4_rowOf (cI : ClassId) (adT qT0 qT1 qT2 qT3 qT4 qT5 qT6 qT7 : Nat) (T : zMem) : va_W := [(adT, .inr (3, [.ref qT0, .ref qT1, .ref qT2, .ref qT3, .ref qT4, .ref qT5, .ref qT6, .ref qT7, .int (T 8 0), .int (T 9 0), .int (T 10 0)])), (qT0, .inl (cI, 8, .inl (T 0))), (qT1, .inl (cI, 8, .inl (T 1))), (qT2, .inl (cI, 8, .inl (T 2))), (qT3, .inl (cI, 8, .inl (T 3))), (qT4, .inl (cI, 8, .inl (T 4))), (qT5, .inl (cI, 8, .inl (T 5))), (qT6, .inl (cI, 8, .inl (T 6))), (qT7, .inl (cI, 16, .inl (T 7)))]
abbrev rmX4_rowOf : Room := { frames := 0, cells := 0, slots := 0, locals := 0 }
def zw_X4_rowOf (T : zMem) (en : Int32) (P0 P1 P2 P3 : Prop) : Prop := ((¬ en = 0 → ((¬ en = (1 : Int32) → ((¬ en = (2 : Int32) → P3) ∧ (en = (2 : Int32) → P2))) ∧ (en = (1 : Int32) → P1))) ∧ (en = 0 → P0))
/-! X4_passPair_ab -/
def zd_X4_passPair_ab (cI : ClassId) (adT qT0 qT1 qT2 qT3 qT4 qT5 qT6 qT7 : Nat) (T : zMem) : va_W := [(adT, .inr (3, [.ref qT0, .ref qT1, .ref qT2, .ref qT3, .ref qT4, .ref qT5, .ref qT6, .ref qT7, .int (T 8 0), .int (T 9 0), .int (T 10 0)])), (qT0, .inl (cI, 8, .inl (T 0))), (qT1, .inl (cI, 8, .inl (T 1))), (qT2, .inl (cI, 8, .inl (T 2))), (qT3, .inl (cI, 8, .inl (T 3))), (qT4, .inl (cI, 8, .inl (T 4))), (qT5, .inl (cI, 8, .inl (T 5))), (qT6, .inl (cI, 8, .inl (T 6))), (qT7, .inl (cI, 16, .inl (T 7)))]
abbrev rmX4_passPair_ab : Room := { frames := 1, cells := 0, slots := 0, locals := 26 }
def zw_X4_passPair_ab (T : zMem) (st : Int64) (ts : Int64) (tl : Int64) (post : zMem → Prop) : Prop := zw_X1_put 8 8 (T 5) (T 0) (fun (r_1 : zRow) => zw_X1_scale 8 r_1 st (fun (r_2 : zRow) => zw_X1_put 8 8 (T 6) (T 1) (fun (r_3 : zRow) => zw_X1_scale 8 r_3 tl (fun (r_4 : zRow) => zw_X1_gain 8 8 r_2 r_4 (Int32.toInt64 (-(T 10 0))) (fun (r_5 : zRow) => zw_X1_scale 8 (T 1) st (fun (r_6 : zRow) => zw_X1_gain 8 8 r_6 (T 0) ts (fun (r_7 : zRow) => zw_X1_put 8 8 (T 0) r_5 (fun (r_8 : zRow) => post (zset (zset (zset (zset T 0 r_8) 1 r_7) 5 r_5) 6 r_4)))))))))
/-! X4_passPair_dg -/
def zd_X4_passPair_dg (cI : ClassId) (adT qT0 qT1 qT2 qT3 qT4 qT5 qT6 qT7 : Nat) (T : zMem) : va_W := [(adT, .inr (3, [.ref qT0, .ref qT1, .ref qT2, .ref qT3, .ref qT4, .ref qT5, .ref qT6, .ref qT7, .int (T 8 0), .int (T 9 0), .int (T 10 0)])), (qT0, .inl (cI, 8, .inl (T 0))), (qT1, .inl (cI, 8, .inl (T 1))), (qT2, .inl (cI, 8, .inl (T 2))), (qT3, .inl (cI, 8, .inl (T 3))), (qT4, .inl (cI, 8, .inl (T 4))), (qT5, .inl (cI, 8, .inl (T 5))), (qT6, .inl (cI, 8, .inl (T 6))), (qT7, .inl (cI, 16, .inl (T 7)))]
abbrev rmX4_passPair_dg : Room := { frames := 1, cells := 0, slots := 0, locals := 26 }
def zw_X4_passPair_dg (T : zMem) (st : Int64) (ts : Int64) (tl : Int64) (post : zMem → Prop) : Prop := zw_X1_put 8 8 (T 5) (T 3) (fun (r_1 : zRow) => zw_X1_scale 8 r_1 st (fun (r_2 : zRow) => zw_X1_put 8 8 (T 6) (T 2) (fun (r_3 : zRow) => zw_X1_scale 8 r_3 tl (fun (r_4 : zRow) => zw_X1_gain 8 8 r_2 r_4 (Int32.toInt64 (-(T 10 0))) (fun (r_5 : zRow) => zw_X1_scale 8 (T 2) st (fun (r_6 : zRow) => zw_X1_gain 8 8 r_6 (T 3) ts (fun (r_7 : zRow) => zw_X1_put 8 8 (T 3) r_5 (fun (r_8 : zRow) => post (zset (zset (zset (zset T 2 r_7) 3 r_8) 5 r_5) 6 r_4)))))))))
/-! X4_appendLayer -/
def zd_X4_appendLayer (cI : ClassId) (adT qT0 qT1 qT2 qT3 qT4 qT5 qT6 qT7 : Nat) (T : zMem) : va_W := [(adT, .inr (3, [.ref qT0, .ref qT1, .ref qT2, .ref qT3, .ref qT4, .ref qT5, .ref qT6, .ref qT7, .int (T 8 0), .int (T 9 0), .int (T 10 0)])), (qT0, .inl (cI, 8, .inl (T 0))), (qT1, .inl (cI, 8, .inl (T 1))), (qT2, .inl (cI, 8, .inl (T 2))), (qT3, .inl (cI, 8, .inl (T 3))), (qT4, .inl (cI, 8, .inl (T 4))), (qT5, .inl (cI, 8, .inl (T 5))), (qT6, .inl (cI, 8, .inl (T 6))), (qT7, .inl (cI, 16, .inl (T 7)))]
abbrev rmX4_appendLayer : Room := { frames := 2, cells := 0, slots := 0, locals := 54 }
def zw_X4_appendLayer_39 (T : zMem) (c1 : Int32) (c2 : Int32) (c3 : Int32) (c4 : Int64) (K113 : Int64 → Int64 → Int64 → Prop) : Nat → Int64 → Int64 → Int64 → Int64 → Int64 → Int32 → Prop
  | 0, _, _, _, _, _, _ => False
  | k + 1, p6, p8, p10, p12, p14, p16 => ((c3 ≤ p16 → (K113 p6 p10 p14)) ∧ (¬ c3 ≤ p16 → ∀ x17_5 : Int64, x17_5 = (((Int32.toInt64 ((2 : Int32) * (T 8 0))) * p6) - (c4 * p8)) → (∀ x19_6 : Int64, x19_6 = (((Int32.toInt64 ((2 : Int32) * (T 8 0))) * p10) - (c4 * p12)) → (∀ x14_7 : Int64, x14_7 = (p14 * (Int32.toInt64 (T 9 0))) → (∀ x16_8 : Int32, x16_8 = p16 + (1 : Int32) → ((zw_X4_appendLayer_39 T c1 c2 c3 c4 K113 k x17_5 p6 x19_6 p10 x14_7 x16_8)))))))
def zw_X4_appendLayer (T : zMem) (up : Int32) (lo : Int32) (wi : Int32) (post : zMem → Prop) : Prop := ∀ x4_1 : Int64, x4_1 = ((Int32.toInt64 (T 9 0)) * (Int32.toInt64 (T 9 0))) → (∀ x6_2 : Int64, x6_2 = (Int32.toInt64 (T 8 0)) → (∀ x14_3 : Int64, x14_3 = (Int32.toInt64 (T 9 0)) → ((∃ kf, zw_X4_appendLayer_39 T up lo wi x4_1 (fun (x6_9 : Int64) (x10_10 : Int64) (x14_11 : Int64) => ∀ x16_12 : Int32, x16_12 = (up * lo) → (zw_X4_passPair_ab T (x6_9 * (Int32.toInt64 x16_12)) ((x10_10 * (Int32.toInt64 lo)) * (Int32.toInt64 lo)) ((x10_10 * (Int32.toInt64 up)) * (Int32.toInt64 up)) (fun (T_13 : zMem) => zw_X4_passPair_dg T_13 (x6_9 * (Int32.toInt64 x16_12)) ((x10_10 * (Int32.toInt64 up)) * (Int32.toInt64 up)) ((x10_10 * (Int32.toInt64 lo)) * (Int32.toInt64 lo)) (fun (T_14 : zMem) => zw_X1_scale 8 (T_14 4) (x14_11 * (Int32.toInt64 x16_12)) (fun (r_15 : zRow) => post (zset T_14 4 r_15)))))) kf x6_2 (1 : Int64) (1 : Int64) (0 : Int64) x14_3 (1 : Int32)))))
/-! X4_reckon -/
def zd_X4_reckon (cI : ClassId) (adT qT0 qT1 qT2 qT3 qT4 qT5 qT6 qT7 adP qP0 qP1 qP2 qP3 qP4 : Nat) (T : zMem) (P : zMem) : va_W := [(adT, .inr (3, [.ref qT0, .ref qT1, .ref qT2, .ref qT3, .ref qT4, .ref qT5, .ref qT6, .ref qT7, .int (T 8 0), .int (T 9 0), .int (T 10 0)])), (qT0, .inl (cI, 8, .inl (T 0))), (qT1, .inl (cI, 8, .inl (T 1))), (qT2, .inl (cI, 8, .inl (T 2))), (qT3, .inl (cI, 8, .inl (T 3))), (qT4, .inl (cI, 8, .inl (T 4))), (qT5, .inl (cI, 8, .inl (T 5))), (qT6, .inl (cI, 8, .inl (T 6))), (qT7, .inl (cI, 16, .inl (T 7))), (adP, .inr (2, [.ref qP0, .ref qP1, .ref qP2, .ref qP3, .ref qP4, .int (P 5 0)])), (qP0, .inl (cI, 2, .inl (P 0))), (qP1, .inl (cI, 2, .inl (P 1))), (qP2, .inl (cI, 6, .inl (P 2))), (qP3, .inl (cI, 6, .inl (P 3))), (qP4, .inl (cI, 6, .inl (P 4)))]
abbrev rmX4_reckon : Room := { frames := 3, cells := 0, slots := 0, locals := 94 }
def zw_X4_reckon_64 (P : zMem) (K111 : zMem → Prop) : Nat → Int32 → zMem → Prop
  | 0, _, _ => False
  | k + 1, p4, T => (((P 5 0) ≤ p4 → (K111 T)) ∧ (¬ (P 5 0) ≤ p4 → (((6 : Int32) ≤ p4 → (K111 T)) ∧ (¬ (6 : Int32) ≤ p4 → (vp_in p4 6 ∧ (vp_in p4 6 ∧ (vp_in p4 6 ∧ zw_X4_appendLayer T ((P 2) (Int32.toNatClampNeg p4)) ((P 3) (Int32.toNatClampNeg p4)) ((P 4) (Int32.toNatClampNeg p4)) (fun (T_12 : zMem) => ∀ x4_13 : Int32, x4_13 = p4 + (1 : Int32) → ((zw_X4_reckon_64 P K111 k x4_13 T_12))))))))))
def zw_X4_reckon (T : zMem) (P : zMem) (uv : Int32) (v : Int32) (post : zMem → Prop) : Prop := ∀ y_1 : Int32, y_1 = ((v * v) - (uv * uv)) → (zw_X1_set 8 (T 0) (1 : Int32) (fun (r_2 : zRow) => zw_X1_set 8 (T 1) (0 : Int32) (fun (r_3 : zRow) => zw_X1_set 8 (T 2) (0 : Int32) (fun (r_4 : zRow) => zw_X1_set 8 (T 3) (1 : Int32) (fun (r_5 : zRow) => zw_X1_set 8 (T 4) (1 : Int32) (fun (r_6 : zRow) => (∃ kf, zw_X4_reckon_64 P (fun (T_14 : zMem) => post T_14) kf (0 : Int32) (zset (zset (zset (zset (zset (zset (zset (zset T 0 r_2) 1 r_3) 2 r_4) 3 r_5) 4 r_6) 8 (fun _ => uv)) 9 (fun _ => v)) 10 (fun _ => y_1)))))))))
/-! X4_tellSize -/
def zd_X4_tellSize (cI : ClassId) (adT qT0 qT1 qT2 qT3 qT4 qT5 qT6 qT7 adF qF0 qF1 qF2 qF3 : Nat) (T : zMem) (F : zMem) : va_W := [(adT, .inr (3, [.ref qT0, .ref qT1, .ref qT2, .ref qT3, .ref qT4, .ref qT5, .ref qT6, .ref qT7, .int (T 8 0), .int (T 9 0), .int (T 10 0)])), (qT0, .inl (cI, 8, .inl (T 0))), (qT1, .inl (cI, 8, .inl (T 1))), (qT2, .inl (cI, 8, .inl (T 2))), (qT3, .inl (cI, 8, .inl (T 3))), (qT4, .inl (cI, 8, .inl (T 4))), (qT5, .inl (cI, 8, .inl (T 5))), (qT6, .inl (cI, 8, .inl (T 6))), (qT7, .inl (cI, 16, .inl (T 7))), (adF, .inr (0, [.ref qF0, .ref qF1, .ref qF2, .ref qF3])), (qF0, .inl (cI, 16, .inl (F 0))), (qF1, .inl (cI, 16, .inl (F 1))), (qF2, .inl (cI, 32, .inl (F 2))), (qF3, .inl (cI, 32, .inl (F 3)))]
abbrev rmX4_tellSize : Room := { frames := 2, cells := 0, slots := 0, locals := 45 }
def zw_X4_tellSize (T : zMem) (F : zMem) (en : Int32) (post : zMem → Prop) : Prop := zw_X4_rowOf T en (zw_X1_putSize 16 8 (F 0) (T 0) (fun (r_1 : zRow) => ((en = (1 : Int32) → zw_X1_scale 16 r_1 (Int32.toInt64 (T 9 0)) (fun (r_3 : zRow) => zw_X1_put 16 8 (F 1) (T 4) (fun (r_4 : zRow) => post (zset (zset F 0 r_3) 1 r_4)))) ∧ (¬ en = (1 : Int32) → ((¬ en = (2 : Int32) → zw_X1_put 16 8 (F 1) (T 4) (fun (r_6 : zRow) => post (zset (zset F 0 r_1) 1 r_6))) ∧ (en = (2 : Int32) → zw_X1_scale 16 r_1 (Int32.toInt64 (T 9 0)) (fun (r_7 : zRow) => zw_X1_put 16 8 (F 1) (T 4) (fun (r_8 : zRow) => post (zset (zset F 0 r_7) 1 r_8))))))))) (zw_X1_putSize 16 8 (F 0) (T 1) (fun (r_9 : zRow) => ((en = (1 : Int32) → zw_X1_scale 16 r_9 (Int32.toInt64 (T 9 0)) (fun (r_11 : zRow) => zw_X1_put 16 8 (F 1) (T 4) (fun (r_12 : zRow) => post (zset (zset F 0 r_11) 1 r_12)))) ∧ (¬ en = (1 : Int32) → ((¬ en = (2 : Int32) → zw_X1_put 16 8 (F 1) (T 4) (fun (r_14 : zRow) => post (zset (zset F 0 r_9) 1 r_14))) ∧ (en = (2 : Int32) → zw_X1_scale 16 r_9 (Int32.toInt64 (T 9 0)) (fun (r_15 : zRow) => zw_X1_put 16 8 (F 1) (T 4) (fun (r_16 : zRow) => post (zset (zset F 0 r_15) 1 r_16))))))))) (zw_X1_putSize 16 8 (F 0) (T 2) (fun (r_17 : zRow) => ((en = (1 : Int32) → zw_X1_scale 16 r_17 (Int32.toInt64 (T 9 0)) (fun (r_19 : zRow) => zw_X1_put 16 8 (F 1) (T 4) (fun (r_20 : zRow) => post (zset (zset F 0 r_19) 1 r_20)))) ∧ (¬ en = (1 : Int32) → ((¬ en = (2 : Int32) → zw_X1_put 16 8 (F 1) (T 4) (fun (r_22 : zRow) => post (zset (zset F 0 r_17) 1 r_22))) ∧ (en = (2 : Int32) → zw_X1_scale 16 r_17 (Int32.toInt64 (T 9 0)) (fun (r_23 : zRow) => zw_X1_put 16 8 (F 1) (T 4) (fun (r_24 : zRow) => post (zset (zset F 0 r_23) 1 r_24))))))))) (zw_X1_putSize 16 8 (F 0) (T 3) (fun (r_25 : zRow) => ((en = (1 : Int32) → zw_X1_scale 16 r_25 (Int32.toInt64 (T 9 0)) (fun (r_27 : zRow) => zw_X1_put 16 8 (F 1) (T 4) (fun (r_28 : zRow) => post (zset (zset F 0 r_27) 1 r_28)))) ∧ (¬ en = (1 : Int32) → ((¬ en = (2 : Int32) → zw_X1_put 16 8 (F 1) (T 4) (fun (r_30 : zRow) => post (zset (zset F 0 r_25) 1 r_30))) ∧ (en = (2 : Int32) → zw_X1_scale 16 r_25 (Int32.toInt64 (T 9 0)) (fun (r_31 : zRow) => zw_X1_put 16 8 (F 1) (T 4) (fun (r_32 : zRow) => post (zset (zset F 0 r_31) 1 r_32)))))))))
/-! X4_squareLine_ad -/
def zd_X4_squareLine_ad (cI : ClassId) (adT qT0 qT1 qT2 qT3 qT4 qT5 qT6 qT7 qr : Nat) (T : zMem) (r : zRow) : va_W := [(adT, .inr (3, [.ref qT0, .ref qT1, .ref qT2, .ref qT3, .ref qT4, .ref qT5, .ref qT6, .ref qT7, .int (T 8 0), .int (T 9 0), .int (T 10 0)])), (qT0, .inl (cI, 8, .inl (T 0))), (qT1, .inl (cI, 8, .inl (T 1))), (qT2, .inl (cI, 8, .inl (T 2))), (qT3, .inl (cI, 8, .inl (T 3))), (qT4, .inl (cI, 8, .inl (T 4))), (qT5, .inl (cI, 8, .inl (T 5))), (qT6, .inl (cI, 8, .inl (T 6))), (qT7, .inl (cI, 16, .inl (T 7))), (qr, .inl (cI, 16, .inl r))]
abbrev rmX4_squareLine_ad : Room := { frames := 2, cells := 0, slots := 0, locals := 51 }
def zw_X4_squareLine_ad (T : zMem) (r : zRow) (x : Int32) (y : Int32) (post : zMem → zRow → Prop) : Prop := zw_X1_set 8 (T 6) (0 : Int32) (fun (r_1 : zRow) => zw_X1_gain 8 8 r_1 (T 0) (Int32.toInt64 x) (fun (r_2 : zRow) => zw_X1_gain 8 8 r_2 (T 3) (Int32.toInt64 y) (fun (r_3 : zRow) => zw_X1_putSize 8 8 (T 5) r_3 (fun (r_4 : zRow) => zw_X1_multiply_sq 16 8 r r_4 (fun (r_5 : zRow) => post (zset (zset T 5 r_4) 6 r_3) r_5)))))
/-! X4_squareLine_bg -/
def zd_X4_squareLine_bg (cI : ClassId) (adT qT0 qT1 qT2 qT3 qT4 qT5 qT6 qT7 : Nat) (T : zMem) : va_W := [(adT, .inr (3, [.ref qT0, .ref qT1, .ref qT2, .ref qT3, .ref qT4, .ref qT5, .ref qT6, .ref qT7, .int (T 8 0), .int (T 9 0), .int (T 10 0)])), (qT0, .inl (cI, 8, .inl (T 0))), (qT1, .inl (cI, 8, .inl (T 1))), (qT2, .inl (cI, 8, .inl (T 2))), (qT3, .inl (cI, 8, .inl (T 3))), (qT4, .inl (cI, 8, .inl (T 4))), (qT5, .inl (cI, 8, .inl (T 5))), (qT6, .inl (cI, 8, .inl (T 6))), (qT7, .inl (cI, 16, .inl (T 7)))]
abbrev rmX4_squareLine_bg : Room := { frames := 2, cells := 0, slots := 0, locals := 51 }
def zw_X4_squareLine_bg (T : zMem) (x : Int32) (y : Int32) (post : zMem → Prop) : Prop := zw_X1_set 8 (T 6) (0 : Int32) (fun (r_1 : zRow) => zw_X1_gain 8 8 r_1 (T 1) (Int32.toInt64 x) (fun (r_2 : zRow) => zw_X1_gain 8 8 r_2 (T 2) (Int32.toInt64 y) (fun (r_3 : zRow) => zw_X1_putSize 8 8 (T 5) r_3 (fun (r_4 : zRow) => zw_X1_multiply_sq 16 8 (T 7) r_4 (fun (r_5 : zRow) => post (zset (zset (zset T 5 r_4) 6 r_3) 7 r_5))))))
/-! X4_tellSquares -/
def zd_X4_tellSquares (cI : ClassId) (adT qT0 qT1 qT2 qT3 qT4 qT5 qT6 qT7 adP qP0 qP1 qP2 qP3 qP4 qr : Nat) (T : zMem) (P : zMem) (r : zRow) : va_W := [(adT, .inr (3, [.ref qT0, .ref qT1, .ref qT2, .ref qT3, .ref qT4, .ref qT5, .ref qT6, .ref qT7, .int (T 8 0), .int (T 9 0), .int (T 10 0)])), (qT0, .inl (cI, 8, .inl (T 0))), (qT1, .inl (cI, 8, .inl (T 1))), (qT2, .inl (cI, 8, .inl (T 2))), (qT3, .inl (cI, 8, .inl (T 3))), (qT4, .inl (cI, 8, .inl (T 4))), (qT5, .inl (cI, 8, .inl (T 5))), (qT6, .inl (cI, 8, .inl (T 6))), (qT7, .inl (cI, 16, .inl (T 7))), (adP, .inr (2, [.ref qP0, .ref qP1, .ref qP2, .ref qP3, .ref qP4, .int (P 5 0)])), (qP0, .inl (cI, 2, .inl (P 0))), (qP1, .inl (cI, 2, .inl (P 1))), (qP2, .inl (cI, 6, .inl (P 2))), (qP3, .inl (cI, 6, .inl (P 3))), (qP4, .inl (cI, 6, .inl (P 4))), (qr, .inl (cI, 16, .inl r))]
abbrev rmX4_tellSquares : Room := { frames := 3, cells := 0, slots := 0, locals := 76 }
def zw_X4_tellSquares (T : zMem) (P : zMem) (r : zRow) (way : Int32) (post : zMem → zRow → Prop) : Prop := (vp_in (0 : Int32) 2 ∧ ∀ x4_2 : Int32, x4_2 = ((P 0) (Int32.toNatClampNeg (0 : Int32))) → ((vp_in (0 : Int32) 2 ∧ ∀ x5_4 : Int32, x5_4 = ((P 1) (Int32.toNatClampNeg (0 : Int32))) → ((vp_in (1 : Int32) 2 ∧ ∀ x6_6 : Int32, x6_6 = ((P 0) (Int32.toNatClampNeg (1 : Int32))) → ((vp_in (1 : Int32) 2 ∧ ∀ x7_8 : Int32, x7_8 = ((P 1) (Int32.toNatClampNeg (1 : Int32))) → (zw_X4_squareLine_ad T r (x4_2 * x7_8) ((way * x6_6) * x5_4) (fun (T_9 : zMem) (r_10 : zRow) => zw_X4_squareLine_bg T_9 (x4_2 * x6_6) ((way * x5_4) * x7_8) (fun (T_11 : zMem) => zw_X1_gain 16 16 r_10 (T_11 7) (Int32.toInt64 (T_11 10 0)) (fun (r_12 : zRow) => post T_11 r_12)))))))))))
/-! X4_tellBack -/
def zd_X4_tellBack (cI : ClassId) (adT qT0 qT1 qT2 qT3 qT4 qT5 qT6 qT7 adF qF0 qF1 qF2 qF3 adP qP0 qP1 qP2 qP3 qP4 : Nat) (T : zMem) (F : zMem) (P : zMem) : va_W := [(adT, .inr (3, [.ref qT0, .ref qT1, .ref qT2, .ref qT3, .ref qT4, .ref qT5, .ref qT6, .ref qT7, .int (T 8 0), .int (T 9 0), .int (T 10 0)])), (qT0, .inl (cI, 8, .inl (T 0))), (qT1, .inl (cI, 8, .inl (T 1))), (qT2, .inl (cI, 8, .inl (T 2))), (qT3, .inl (cI, 8, .inl (T 3))), (qT4, .inl (cI, 8, .inl (T 4))), (qT5, .inl (cI, 8, .inl (T 5))), (qT6, .inl (cI, 8, .inl (T 6))), (qT7, .inl (cI, 16, .inl (T 7))), (adF, .inr (0, [.ref qF0, .ref qF1, .ref qF2, .ref qF3])), (qF0, .inl (cI, 16, .inl (F 0))), (qF1, .inl (cI, 16, .inl (F 1))), (qF2, .inl (cI, 32, .inl (F 2))), (qF3, .inl (cI, 32, .inl (F 3))), (adP, .inr (2, [.ref qP0, .ref qP1, .ref qP2, .ref qP3, .ref qP4, .int (P 5 0)])), (qP0, .inl (cI, 2, .inl (P 0))), (qP1, .inl (cI, 2, .inl (P 1))), (qP2, .inl (cI, 6, .inl (P 2))), (qP3, .inl (cI, 6, .inl (P 3))), (qP4, .inl (cI, 6, .inl (P 4)))]
abbrev rmX4_tellBack : Room := { frames := 4, cells := 0, slots := 0, locals := 118 }
def zw_X4_tellBack (T : zMem) (F : zMem) (P : zMem) (uv : Int32) (v : Int32) (post : zMem → zMem → Prop) : Prop := zw_X4_reckon T P uv v (fun (T_1 : zMem) => zw_X4_tellSquares T_1 P (F 0) (-1 : Int32) (fun (T_2 : zMem) (r_3 : zRow) => zw_X4_tellSquares T_2 P (F 1) (1 : Int32) (fun (T_4 : zMem) (r_5 : zRow) => post T_4 (zset (zset F 0 r_3) 1 r_5))))
/-! X4_isStopping -/
def zd_X4_isStopping (cI : ClassId) (adT qT0 qT1 qT2 qT3 qT4 qT5 qT6 qT7 : Nat) (T : zMem) : va_W := [(adT, .inr (3, [.ref qT0, .ref qT1, .ref qT2, .ref qT3, .ref qT4, .ref qT5, .ref qT6, .ref qT7, .int (T 8 0), .int (T 9 0), .int (T 10 0)])), (qT0, .inl (cI, 8, .inl (T 0))), (qT1, .inl (cI, 8, .inl (T 1))), (qT2, .inl (cI, 8, .inl (T 2))), (qT3, .inl (cI, 8, .inl (T 3))), (qT4, .inl (cI, 8, .inl (T 4))), (qT5, .inl (cI, 8, .inl (T 5))), (qT6, .inl (cI, 8, .inl (T 6))), (qT7, .inl (cI, 16, .inl (T 7)))]
abbrev rmX4_isStopping : Room := { frames := 2, cells := 0, slots := 0, locals := 45 }
def zw_X4_isStopping (T : zMem) (post : Int32 → zMem → Prop) : Prop := zw_X1_put 8 8 (T 6) (T 0) (fun (r_1 : zRow) => zw_X1_gain 8 8 r_1 (T 3) (1 : Int64) (fun (r_2 : zRow) => zw_X1_putSize 8 8 (T 5) r_2 (fun (r_3 : zRow) => zw_X1_gain 8 8 r_3 (T 4) (-2 : Int64) (fun (r_4 : zRow) => zw_X1_signOf 8 r_4 (fun (v_5 : Int32) => ((v_5 ≤ 0 → (narrow .boolean (.int (0 : Int32)) = .int (0 : Int32) ∧ post (0 : Int32) (zset (zset T 5 r_4) 6 r_2))) ∧ (¬ v_5 ≤ 0 → (narrow .boolean (.int (1 : Int32)) = .int (1 : Int32) ∧ post (1 : Int32) (zset (zset T 5 r_4) 6 r_2)))))))))
theorem zf_X4_rowOf_15 : Cond.fieldLink RX4 15 "GlassStack$Table" "b" "[I" ∈ wsX4_rowOf := (List.mem_of_getElem? (i := 2) rfl)
theorem zf_X4_rowOf_18 : Cond.fieldLink RX4 18 "GlassStack$Table" "g" "[I" ∈ wsX4_rowOf := (List.mem_of_getElem? (i := 3) rfl)
theorem zf_X4_rowOf_21 : Cond.fieldLink RX4 21 "GlassStack$Table" "d" "[I" ∈ wsX4_rowOf := (List.mem_of_getElem? (i := 4) rfl)
theorem zf_X4_rowOf_9 : Cond.fieldLink RX4 9 "GlassStack$Table" "a" "[I" ∈ wsX4_rowOf := (List.mem_of_getElem? (i := 1) rfl)
theorem zi_X4_rowOf_X4 : ∀ w ∈ wsX40, w ∈ wsX4_rowOf := fun w h => List.mem_cons_of_mem _ (List.mem_append_right _ h)
theorem zy_X4_rowOf : yX4_rowOf.cls = RX4 ∧ yX4_rowOf.cls ≠ "java/lang/invoke/MethodHandle" ∧ yX4_rowOf.cls ≠ "java/lang/invoke/VarHandle" ∧ (parseMethodDescriptor yX4_rowOf.desc).map (fun d => d.parameters.length) = some 1 := by decide +kernel
set_option maxHeartbeats 4000000 in
set_option maxRecDepth 100000 in
theorem zc_X4_rowOf (l : Launch) (G : va_G) (cI : ClassId) (adT qT0 qT1 qT2 qT3 qT4 qT5 qT6 qT7 : Nat) (T : zMem) (en : Int32) (P0 P1 P2 P3 : Prop) (hF : zw_X4_rowOf T en P0 P1 P2 P3) (sz : Nat) : Met l yX4_rowOf wsX4_rowOf rmX4_rowOf (va_Pc [.ref adT, .int en] (zv_in G cI (zd_X4_rowOf cI adT qT0 qT1 qT2 qT3 qT4 qT5 qT6 qT7 T) sz)) (va_Qr (fun u : Nat => (u = 0 ∧ P0) ∨ (u = 1 ∧ P1) ∨ (u = 2 ∧ P2) ∨ (u = 3 ∧ P3)) (fun (u : Nat) (ra : Nat) t => ra = (fun u : Nat => [qT0, qT1, qT2, qT3].getD u 0) u ∧ zv_out G cI (va_A (zd_X4_rowOf cI adT qT0 qT1 qT2 qT3 qT4 qT5 qT6 qT7 T) sz) ((fun _ : Nat => (zd_X4_rowOf cI adT qT0 qT1 qT2 qT3 qT4 qT5 qT6 qT7 T)) u) t) (va_A (zd_X4_rowOf cI adT qT0 qT1 qT2 qT3 qT4 qT5 qT6 qT7 T) sz)) 0 0 (va_A (zd_X4_rowOf cI adT qT0 qT1 qT2 qT3 qT4 qT5 qT6 qT7 T) sz) := by
  refine zv_met (cc := cX4_rowOf) (maxL := 2) (ret := (some (.array .int))) (lv0 := [(0, .ref adT), (1, .int en)]) (Qc := fun A => va_Qr (fun u : Nat => (u = 0 ∧ P0) ∨ (u = 1 ∧ P1) ∨ (u = 2 ∧ P2) ∨ (u = 3 ∧ P3)) (fun (u : Nat) (ra : Nat) t => ra = (fun u : Nat => [qT0, qT1, qT2, qT3].getD u 0) u ∧ zv_out G cI A ((fun _ : Nat => (zd_X4_rowOf cI adT qT0 qT1 qT2 qT3 qT4 qT5 qT6 qT7 T)) u) t) A) (by decide) rfl (Nat.le_of_ble_eq_true rfl) rfl ?_ sz
  intro p e s m below meth c A C hr hlk
  clear sz
  refine zv_iload_n (pc := 0) C rfl 1 rfl dX4_rowOf_0 ?_
  refine zv_if_ne (pc := 1) (tgt := 9) C dX4_rowOf_1 (by decide) (fun c_1 => ?_) (fun c_1 => ?_)
  · replace hF := And.left hF c_1
    refine zv_iload_n (pc := 9) C rfl 1 rfl dX4_rowOf_9 ?_
    refine zv_iconst (pc := 10) (v := 1) C (by decide) dX4_rowOf_10 ?_
    refine zv_icmp_ne (pc := 11) (tgt := 19) C dX4_rowOf_11 (by decide) (fun c_2 => ?_) (fun c_2 => ?_)
    · replace hF := And.left hF c_2
      refine zv_iload_n (pc := 19) C rfl 1 rfl dX4_rowOf_19 ?_
      refine zv_iconst (pc := 20) (v := 2) C (by decide) dX4_rowOf_20 ?_
      refine zv_icmp_ne (pc := 21) (tgt := 31) C dX4_rowOf_21 (by decide) (fun c_3 => ?_) (fun c_3 => ?_)
      · replace hF := And.left hF c_3
        refine zv_aload_n (pc := 31) C rfl 0 rfl dX4_rowOf_31 ?_
        refine zv_get (pc := 32) (CC := RX4) (T := TX4) (N := 11) (ci := 3) (v := .ref qT3) C zi_X4_rowOf_X4 0 rfl 3 (by decide) zf_X4_rowOf_21 rfl rfl dX4_rowOf_32 ?_
        exact zv_aret (pc := 35) C hr (by first | exact Or.inl ⟨_, rfl⟩ | exact Or.inr ⟨_, rfl⟩) hlk 3 rfl (Or.inr (Or.inr (Or.inr (⟨rfl, hF⟩)))) rfl dX4_rowOf_35
      · replace hF := And.right hF c_3
        refine zv_aload_n (pc := 24) C rfl 0 rfl dX4_rowOf_24 ?_
        refine zv_get (pc := 25) (CC := RX4) (T := TX4) (N := 11) (ci := 3) (v := .ref qT2) C zi_X4_rowOf_X4 0 rfl 2 (by decide) zf_X4_rowOf_18 rfl rfl dX4_rowOf_25 ?_
        refine zv_goto (pc := 28) (tgt := 35) C dX4_rowOf_28 (by decide) ?_
        exact zv_aret (pc := 35) C hr (by first | exact Or.inl ⟨_, rfl⟩ | exact Or.inr ⟨_, rfl⟩) hlk 2 rfl (Or.inr (Or.inr (Or.inl ⟨rfl, hF⟩))) rfl dX4_rowOf_35
    · replace hF := And.right hF c_2
      refine zv_aload_n (pc := 14) C rfl 0 rfl dX4_rowOf_14 ?_
      refine zv_get (pc := 15) (CC := RX4) (T := TX4) (N := 11) (ci := 3) (v := .ref qT1) C zi_X4_rowOf_X4 0 rfl 1 (by decide) zf_X4_rowOf_15 rfl rfl dX4_rowOf_15 ?_
      exact zv_aret (pc := 18) C hr (by first | exact Or.inl ⟨_, rfl⟩ | exact Or.inr ⟨_, rfl⟩) hlk 1 rfl (Or.inr (Or.inl ⟨rfl, hF⟩)) rfl dX4_rowOf_18
  · replace hF := And.right hF c_1
    refine zv_aload_n (pc := 4) C rfl 0 rfl dX4_rowOf_4 ?_
    refine zv_get (pc := 5) (CC := RX4) (T := TX4) (N := 11) (ci := 3) (v := .ref qT0) C zi_X4_rowOf_X4 0 rfl 0 (by decide) zf_X4_rowOf_9 rfl rfl dX4_rowOf_5 ?_
    exact zv_aret (pc := 8) C hr (by first | exact Or.inl ⟨_, rfl⟩ | exact Or.inr ⟨_, rfl⟩) hlk 0 rfl (Or.inl ⟨rfl, hF⟩) rfl dX4_rowOf_8
theorem zf_X4_passPair_ab_27 : Cond.fieldLink RX4 27 "GlassStack$Table" "next" "[I" ∈ wsX4_passPair := (List.mem_of_getElem? (i := 1) rfl)
theorem zf_X4_passPair_ab_30 : Cond.fieldLink RX4 30 "GlassStack$Table" "line" "[I" ∈ wsX4_passPair := (List.mem_of_getElem? (i := 2) rfl)
theorem zf_X4_passPair_ab_43 : Cond.fieldLink RX4 43 "GlassStack$Table" "sineSquare" "I" ∈ wsX4_passPair := (List.mem_of_getElem? (i := 3) rfl)
theorem zi_X4_passPair_ab_X4 : ∀ w ∈ wsX40, w ∈ wsX4_passPair := fun w h => List.mem_cons_of_mem _ (List.mem_append_right _ h)
theorem zy_X4_passPair : yX4_passPair.cls = RX4 ∧ yX4_passPair.cls ≠ "java/lang/invoke/MethodHandle" ∧ yX4_passPair.cls ≠ "java/lang/invoke/VarHandle" ∧ (parseMethodDescriptor yX4_passPair.desc).map (fun d => d.parameters.length) = some 5 := by decide +kernel
set_option maxHeartbeats 4000000 in
set_option maxRecDepth 100000 in
theorem zc_X4_passPair_ab (l : Launch) (G : va_G) (cI : ClassId) (adT qT0 qT1 qT2 qT3 qT4 qT5 qT6 qT7 : Nat) (T : zMem) (st : Int64) (ts : Int64) (tl : Int64) (post : zMem → Prop) (hF : zw_X4_passPair_ab T st ts tl post) (sz : Nat) : Met l yX4_passPair wsX4_passPair rmX4_passPair_ab (va_Pc [.ref adT, .ref qT0, .ref qT1, .long st, .long ts, .long tl] (zv_in G cI (zd_X4_passPair_ab cI adT qT0 qT1 qT2 qT3 qT4 qT5 qT6 qT7 T) sz)) (va_Qv (fun uz : zMem => post uz) (fun (uz : zMem) t => zv_out G cI (va_A (zd_X4_passPair_ab cI adT qT0 qT1 qT2 qT3 qT4 qT5 qT6 qT7 T) sz) (zd_X4_passPair_ab cI adT qT0 qT1 qT2 qT3 qT4 qT5 qT6 qT7 uz) t) (va_A (zd_X4_passPair_ab cI adT qT0 qT1 qT2 qT3 qT4 qT5 qT6 qT7 T) sz)) 0 0 (va_A (zd_X4_passPair_ab cI adT qT0 qT1 qT2 qT3 qT4 qT5 qT6 qT7 T) sz) := by
  refine zv_met (cc := cX4_passPair) (maxL := 9) (ret := none) (lv0 := [(0, .ref adT), (1, .ref qT0), (2, .ref qT1), (3, .long st), (5, .long ts), (7, .long tl)]) (Qc := fun A => va_Qv (fun uz : zMem => post uz) (fun (uz : zMem) t => zv_out G cI A (zd_X4_passPair_ab cI adT qT0 qT1 qT2 qT3 qT4 qT5 qT6 qT7 uz) t) A) (by decide) rfl (Nat.le_of_ble_eq_true rfl) rfl ?_ sz
  intro p e s m below meth c A C hr hlk
  clear sz
  refine zv_aload_n (pc := 0) C rfl 0 rfl dX4_passPair_0 ?_
  refine zv_get (pc := 1) (CC := RX4) (T := TX4) (N := 11) (ci := 3) (v := .ref qT5) C zi_X4_passPair_ab_X4 0 rfl 5 (by decide) zf_X4_passPair_ab_27 rfl rfl dX4_passPair_1 ?_
  refine zv_aload_n (pc := 4) C rfl 1 rfl dX4_passPair_4 ?_
  refine zv_cv0 (pc := 5) (ws' := (fun uz : zRow => (zd_X4_passPair_ab cI adT qT0 qT1 qT2 qT3 qT4 qT5 qT6 qT7 (zset T 5 uz)))) C (zv_runS (As := [.ref qT5, .ref qT0]) (rest := []) C (zc_X1_put l G cI qT5 qT0 8 8 (T 5) (T 0) _ hF) (va_cwS 2 C.2.2.2.2.1 gX4_passPair_X1_put rfl rfl rfl zy_X1_put ⟨Nat.le_of_ble_eq_true rfl, Nat.le_of_ble_eq_true rfl⟩) rfl rfl (Nat.le_of_ble_eq_true rfl) ⟨Nat.zero_le _, Nat.zero_le _⟩ dX4_passPair_5) [6, 1] [0, 2, 3, 4, 5, 7, 8] rfl rfl rfl rfl rfl (fun _ => rfl) (fun _ => rfl) (fun _ => rfl) (fun uz hF => ?_)
  obtain ⟨r_1, hE⟩ : ∃ z, z = uz := ⟨_, rfl⟩; subst hE
  refine zv_aload_n (pc := 8) C rfl 0 rfl dX4_passPair_8 ?_
  refine zv_get (pc := 9) (CC := RX4) (T := TX4) (N := 11) (ci := 3) (v := .ref qT5) C zi_X4_passPair_ab_X4 0 rfl 5 (by decide) zf_X4_passPair_ab_27 rfl rfl dX4_passPair_9 ?_
  refine zv_lload_n (pc := 12) C rfl 3 rfl dX4_passPair_12 ?_
  refine zv_cv0 (pc := 13) (ws' := (fun uz : zRow => (zd_X4_passPair_ab cI adT qT0 qT1 qT2 qT3 qT4 qT5 qT6 qT7 (zset T 5 uz)))) C (zv_runS (As := [.ref qT5, .long st]) (rest := []) C (zc_X1_scale l G cI qT5 8 r_1 st _ hF) (va_cwS 2 C.2.2.2.2.1 gX4_passPair_X1_scale rfl rfl rfl zy_X1_scale ⟨Nat.le_of_ble_eq_true rfl, Nat.le_of_ble_eq_true rfl⟩) rfl rfl (Nat.le_of_ble_eq_true rfl) ⟨Nat.zero_le _, Nat.zero_le _⟩ dX4_passPair_13) [6] [0, 1, 2, 3, 4, 5, 7, 8] rfl rfl rfl rfl rfl (fun _ => rfl) (fun _ => rfl) (fun _ => rfl) (fun uz hF => ?_)
  obtain ⟨r_2, hE⟩ : ∃ z, z = uz := ⟨_, rfl⟩; subst hE
  refine zv_aload_n (pc := 16) C rfl 0 rfl dX4_passPair_16 ?_
  refine zv_get (pc := 17) (CC := RX4) (T := TX4) (N := 11) (ci := 3) (v := .ref qT6) C zi_X4_passPair_ab_X4 0 rfl 6 (by decide) zf_X4_passPair_ab_30 rfl rfl dX4_passPair_17 ?_
  refine zv_aload_n (pc := 20) C rfl 2 rfl dX4_passPair_20 ?_
  refine zv_cv0 (pc := 21) (ws' := (fun uz : zRow => (zd_X4_passPair_ab cI adT qT0 qT1 qT2 qT3 qT4 qT5 qT6 qT7 (zset (zset T 5 r_2) 6 uz)))) C (zv_runS (As := [.ref qT6, .ref qT1]) (rest := []) C (zc_X1_put l G cI qT6 qT1 8 8 (T 6) (T 1) _ hF) (va_cwS 2 C.2.2.2.2.1 gX4_passPair_X1_put rfl rfl rfl zy_X1_put ⟨Nat.le_of_ble_eq_true rfl, Nat.le_of_ble_eq_true rfl⟩) rfl rfl (Nat.le_of_ble_eq_true rfl) ⟨Nat.zero_le _, Nat.zero_le _⟩ dX4_passPair_21) [7, 2] [0, 1, 3, 4, 5, 6, 8] rfl rfl rfl rfl rfl (fun _ => rfl) (fun _ => rfl) (fun _ => rfl) (fun uz hF => ?_)
  obtain ⟨r_3, hE⟩ : ∃ z, z = uz := ⟨_, rfl⟩; subst hE
  refine zv_aload_n (pc := 24) C rfl 0 rfl dX4_passPair_24 ?_
  refine zv_get (pc := 25) (CC := RX4) (T := TX4) (N := 11) (ci := 3) (v := .ref qT6) C zi_X4_passPair_ab_X4 0 rfl 6 (by decide) zf_X4_passPair_ab_30 rfl rfl dX4_passPair_25 ?_
  refine zv_lload (pc := 28) C 5 rfl dX4_passPair_28 ?_
  refine zv_cv0 (pc := 30) (ws' := (fun uz : zRow => (zd_X4_passPair_ab cI adT qT0 qT1 qT2 qT3 qT4 qT5 qT6 qT7 (zset (zset T 5 r_2) 6 uz)))) C (zv_runS (As := [.ref qT6, .long tl]) (rest := []) C (zc_X1_scale l G cI qT6 8 r_3 tl _ hF) (va_cwS 2 C.2.2.2.2.1 gX4_passPair_X1_scale rfl rfl rfl zy_X1_scale ⟨Nat.le_of_ble_eq_true rfl, Nat.le_of_ble_eq_true rfl⟩) rfl rfl (Nat.le_of_ble_eq_true rfl) ⟨Nat.zero_le _, Nat.zero_le _⟩ dX4_passPair_30) [7] [0, 1, 2, 3, 4, 5, 6, 8] rfl rfl rfl rfl rfl (fun _ => rfl) (fun _ => rfl) (fun _ => rfl) (fun uz hF => ?_)
  obtain ⟨r_4, hE⟩ : ∃ z, z = uz := ⟨_, rfl⟩; subst hE
  refine zv_aload_n (pc := 33) C rfl 0 rfl dX4_passPair_33 ?_
  refine zv_get (pc := 34) (CC := RX4) (T := TX4) (N := 11) (ci := 3) (v := .ref qT5) C zi_X4_passPair_ab_X4 0 rfl 5 (by decide) zf_X4_passPair_ab_27 rfl rfl dX4_passPair_34 ?_
  refine zv_aload_n (pc := 37) C rfl 0 rfl dX4_passPair_37 ?_
  refine zv_get (pc := 38) (CC := RX4) (T := TX4) (N := 11) (ci := 3) (v := .ref qT6) C zi_X4_passPair_ab_X4 0 rfl 6 (by decide) zf_X4_passPair_ab_30 rfl rfl dX4_passPair_38 ?_
  refine zv_aload_n (pc := 41) C rfl 0 rfl dX4_passPair_41 ?_
  refine zv_get (pc := 42) (CC := RX4) (T := TX4) (N := 11) (ci := 3) (v := .int (T 10 0)) C zi_X4_passPair_ab_X4 0 rfl 10 (by decide) zf_X4_passPair_ab_43 rfl rfl dX4_passPair_42 ?_
  refine zv_ineg (pc := 45) C  dX4_passPair_45 ?_
  refine zv_i2l (pc := 46) C  dX4_passPair_46 ?_
  refine zv_cv0 (pc := 47) (ws' := (fun uz : zRow => (zd_X4_passPair_ab cI adT qT0 qT1 qT2 qT3 qT4 qT5 qT6 qT7 (zset (zset T 5 uz) 6 r_4)))) C (zv_runS (As := [.ref qT5, .ref qT6, .long (Int32.toInt64 (-(T 10 0)))]) (rest := []) C (zc_X1_gain l G cI qT5 qT6 8 8 r_2 r_4 (Int32.toInt64 (-(T 10 0))) _ hF) (va_cwS 3 C.2.2.2.2.1 gX4_passPair_X1_gain rfl rfl rfl zy_X1_gain ⟨Nat.le_of_ble_eq_true rfl, Nat.le_of_ble_eq_true rfl⟩) rfl rfl (Nat.le_of_ble_eq_true rfl) ⟨Nat.zero_le _, Nat.zero_le _⟩ dX4_passPair_47) [6, 7] [0, 1, 2, 3, 4, 5, 8] rfl rfl rfl rfl rfl (fun _ => rfl) (fun _ => rfl) (fun _ => rfl) (fun uz hF => ?_)
  obtain ⟨r_5, hE⟩ : ∃ z, z = uz := ⟨_, rfl⟩; subst hE
  refine zv_aload_n (pc := 50) C rfl 2 rfl dX4_passPair_50 ?_
  refine zv_lload_n (pc := 51) C rfl 3 rfl dX4_passPair_51 ?_
  refine zv_cv0 (pc := 52) (ws' := (fun uz : zRow => (zd_X4_passPair_ab cI adT qT0 qT1 qT2 qT3 qT4 qT5 qT6 qT7 (zset (zset (zset T 1 uz) 5 r_5) 6 r_4)))) C (zv_runS (As := [.ref qT1, .long st]) (rest := []) C (zc_X1_scale l G cI qT1 8 (T 1) st _ hF) (va_cwS 2 C.2.2.2.2.1 gX4_passPair_X1_scale rfl rfl rfl zy_X1_scale ⟨Nat.le_of_ble_eq_true rfl, Nat.le_of_ble_eq_true rfl⟩) rfl rfl (Nat.le_of_ble_eq_true rfl) ⟨Nat.zero_le _, Nat.zero_le _⟩ dX4_passPair_52) [2] [0, 1, 3, 4, 5, 6, 7, 8] rfl rfl rfl rfl rfl (fun _ => rfl) (fun _ => rfl) (fun _ => rfl) (fun uz hF => ?_)
  obtain ⟨r_6, hE⟩ : ∃ z, z = uz := ⟨_, rfl⟩; subst hE
  refine zv_aload_n (pc := 55) C rfl 2 rfl dX4_passPair_55 ?_
  refine zv_aload_n (pc := 56) C rfl 1 rfl dX4_passPair_56 ?_
  refine zv_lload (pc := 57) C 4 rfl dX4_passPair_57 ?_
  refine zv_cv0 (pc := 59) (ws' := (fun uz : zRow => (zd_X4_passPair_ab cI adT qT0 qT1 qT2 qT3 qT4 qT5 qT6 qT7 (zset (zset (zset T 1 uz) 5 r_5) 6 r_4)))) C (zv_runS (As := [.ref qT1, .ref qT0, .long ts]) (rest := []) C (zc_X1_gain l G cI qT1 qT0 8 8 r_6 (T 0) ts _ hF) (va_cwS 3 C.2.2.2.2.1 gX4_passPair_X1_gain rfl rfl rfl zy_X1_gain ⟨Nat.le_of_ble_eq_true rfl, Nat.le_of_ble_eq_true rfl⟩) rfl rfl (Nat.le_of_ble_eq_true rfl) ⟨Nat.zero_le _, Nat.zero_le _⟩ dX4_passPair_59) [2, 1] [0, 3, 4, 5, 6, 7, 8] rfl rfl rfl rfl rfl (fun _ => rfl) (fun _ => rfl) (fun _ => rfl) (fun uz hF => ?_)
  obtain ⟨r_7, hE⟩ : ∃ z, z = uz := ⟨_, rfl⟩; subst hE
  refine zv_aload_n (pc := 62) C rfl 1 rfl dX4_passPair_62 ?_
  refine zv_aload_n (pc := 63) C rfl 0 rfl dX4_passPair_63 ?_
  refine zv_get (pc := 64) (CC := RX4) (T := TX4) (N := 11) (ci := 3) (v := .ref qT5) C zi_X4_passPair_ab_X4 0 rfl 5 (by decide) zf_X4_passPair_ab_27 rfl rfl dX4_passPair_64 ?_
  refine zv_cv0 (pc := 67) (ws' := (fun uz : zRow => (zd_X4_passPair_ab cI adT qT0 qT1 qT2 qT3 qT4 qT5 qT6 qT7 (zset (zset (zset (zset T 0 uz) 1 r_7) 5 r_5) 6 r_4)))) C (zv_runS (As := [.ref qT0, .ref qT5]) (rest := []) C (zc_X1_put l G cI qT0 qT5 8 8 (T 0) r_5 _ hF) (va_cwS 2 C.2.2.2.2.1 gX4_passPair_X1_put rfl rfl rfl zy_X1_put ⟨Nat.le_of_ble_eq_true rfl, Nat.le_of_ble_eq_true rfl⟩) rfl rfl (Nat.le_of_ble_eq_true rfl) ⟨Nat.zero_le _, Nat.zero_le _⟩ dX4_passPair_67) [1, 6] [0, 2, 3, 4, 5, 7, 8] rfl rfl rfl rfl rfl (fun _ => rfl) (fun _ => rfl) (fun _ => rfl) (fun uz hF => ?_)
  obtain ⟨r_8, hE⟩ : ∃ z, z = uz := ⟨_, rfl⟩; subst hE
  exact zv_vret (pc := 70) C hr hlk (zset (zset (zset (zset T 0 r_8) 1 r_7) 5 r_5) 6 r_4) hF rfl dX4_passPair_70
theorem zf_X4_passPair_dg_27 : Cond.fieldLink RX4 27 "GlassStack$Table" "next" "[I" ∈ wsX4_passPair := (List.mem_of_getElem? (i := 1) rfl)
theorem zf_X4_passPair_dg_30 : Cond.fieldLink RX4 30 "GlassStack$Table" "line" "[I" ∈ wsX4_passPair := (List.mem_of_getElem? (i := 2) rfl)
theorem zf_X4_passPair_dg_43 : Cond.fieldLink RX4 43 "GlassStack$Table" "sineSquare" "I" ∈ wsX4_passPair := (List.mem_of_getElem? (i := 3) rfl)
theorem zi_X4_passPair_dg_X4 : ∀ w ∈ wsX40, w ∈ wsX4_passPair := fun w h => List.mem_cons_of_mem _ (List.mem_append_right _ h)
set_option maxHeartbeats 4000000 in
set_option maxRecDepth 100000 in
theorem zc_X4_passPair_dg (l : Launch) (G : va_G) (cI : ClassId) (adT qT0 qT1 qT2 qT3 qT4 qT5 qT6 qT7 : Nat) (T : zMem) (st : Int64) (ts : Int64) (tl : Int64) (post : zMem → Prop) (hF : zw_X4_passPair_dg T st ts tl post) (sz : Nat) : Met l yX4_passPair wsX4_passPair rmX4_passPair_dg (va_Pc [.ref adT, .ref qT3, .ref qT2, .long st, .long ts, .long tl] (zv_in G cI (zd_X4_passPair_dg cI adT qT0 qT1 qT2 qT3 qT4 qT5 qT6 qT7 T) sz)) (va_Qv (fun uz : zMem => post uz) (fun (uz : zMem) t => zv_out G cI (va_A (zd_X4_passPair_dg cI adT qT0 qT1 qT2 qT3 qT4 qT5 qT6 qT7 T) sz) (zd_X4_passPair_dg cI adT qT0 qT1 qT2 qT3 qT4 qT5 qT6 qT7 uz) t) (va_A (zd_X4_passPair_dg cI adT qT0 qT1 qT2 qT3 qT4 qT5 qT6 qT7 T) sz)) 0 0 (va_A (zd_X4_passPair_dg cI adT qT0 qT1 qT2 qT3 qT4 qT5 qT6 qT7 T) sz) := by
  refine zv_met (cc := cX4_passPair) (maxL := 9) (ret := none) (lv0 := [(0, .ref adT), (1, .ref qT3), (2, .ref qT2), (3, .long st), (5, .long ts), (7, .long tl)]) (Qc := fun A => va_Qv (fun uz : zMem => post uz) (fun (uz : zMem) t => zv_out G cI A (zd_X4_passPair_dg cI adT qT0 qT1 qT2 qT3 qT4 qT5 qT6 qT7 uz) t) A) (by decide) rfl (Nat.le_of_ble_eq_true rfl) rfl ?_ sz
  intro p e s m below meth c A C hr hlk
  clear sz
  refine zv_aload_n (pc := 0) C rfl 0 rfl dX4_passPair_0 ?_
  refine zv_get (pc := 1) (CC := RX4) (T := TX4) (N := 11) (ci := 3) (v := .ref qT5) C zi_X4_passPair_dg_X4 0 rfl 5 (by decide) zf_X4_passPair_dg_27 rfl rfl dX4_passPair_1 ?_
  refine zv_aload_n (pc := 4) C rfl 1 rfl dX4_passPair_4 ?_
  refine zv_cv0 (pc := 5) (ws' := (fun uz : zRow => (zd_X4_passPair_dg cI adT qT0 qT1 qT2 qT3 qT4 qT5 qT6 qT7 (zset T 5 uz)))) C (zv_runS (As := [.ref qT5, .ref qT3]) (rest := []) C (zc_X1_put l G cI qT5 qT3 8 8 (T 5) (T 3) _ hF) (va_cwS 2 C.2.2.2.2.1 gX4_passPair_X1_put rfl rfl rfl zy_X1_put ⟨Nat.le_of_ble_eq_true rfl, Nat.le_of_ble_eq_true rfl⟩) rfl rfl (Nat.le_of_ble_eq_true rfl) ⟨Nat.zero_le _, Nat.zero_le _⟩ dX4_passPair_5) [6, 4] [0, 1, 2, 3, 5, 7, 8] rfl rfl rfl rfl rfl (fun _ => rfl) (fun _ => rfl) (fun _ => rfl) (fun uz hF => ?_)
  obtain ⟨r_1, hE⟩ : ∃ z, z = uz := ⟨_, rfl⟩; subst hE
  refine zv_aload_n (pc := 8) C rfl 0 rfl dX4_passPair_8 ?_
  refine zv_get (pc := 9) (CC := RX4) (T := TX4) (N := 11) (ci := 3) (v := .ref qT5) C zi_X4_passPair_dg_X4 0 rfl 5 (by decide) zf_X4_passPair_dg_27 rfl rfl dX4_passPair_9 ?_
  refine zv_lload_n (pc := 12) C rfl 3 rfl dX4_passPair_12 ?_
  refine zv_cv0 (pc := 13) (ws' := (fun uz : zRow => (zd_X4_passPair_dg cI adT qT0 qT1 qT2 qT3 qT4 qT5 qT6 qT7 (zset T 5 uz)))) C (zv_runS (As := [.ref qT5, .long st]) (rest := []) C (zc_X1_scale l G cI qT5 8 r_1 st _ hF) (va_cwS 2 C.2.2.2.2.1 gX4_passPair_X1_scale rfl rfl rfl zy_X1_scale ⟨Nat.le_of_ble_eq_true rfl, Nat.le_of_ble_eq_true rfl⟩) rfl rfl (Nat.le_of_ble_eq_true rfl) ⟨Nat.zero_le _, Nat.zero_le _⟩ dX4_passPair_13) [6] [0, 1, 2, 3, 4, 5, 7, 8] rfl rfl rfl rfl rfl (fun _ => rfl) (fun _ => rfl) (fun _ => rfl) (fun uz hF => ?_)
  obtain ⟨r_2, hE⟩ : ∃ z, z = uz := ⟨_, rfl⟩; subst hE
  refine zv_aload_n (pc := 16) C rfl 0 rfl dX4_passPair_16 ?_
  refine zv_get (pc := 17) (CC := RX4) (T := TX4) (N := 11) (ci := 3) (v := .ref qT6) C zi_X4_passPair_dg_X4 0 rfl 6 (by decide) zf_X4_passPair_dg_30 rfl rfl dX4_passPair_17 ?_
  refine zv_aload_n (pc := 20) C rfl 2 rfl dX4_passPair_20 ?_
  refine zv_cv0 (pc := 21) (ws' := (fun uz : zRow => (zd_X4_passPair_dg cI adT qT0 qT1 qT2 qT3 qT4 qT5 qT6 qT7 (zset (zset T 5 r_2) 6 uz)))) C (zv_runS (As := [.ref qT6, .ref qT2]) (rest := []) C (zc_X1_put l G cI qT6 qT2 8 8 (T 6) (T 2) _ hF) (va_cwS 2 C.2.2.2.2.1 gX4_passPair_X1_put rfl rfl rfl zy_X1_put ⟨Nat.le_of_ble_eq_true rfl, Nat.le_of_ble_eq_true rfl⟩) rfl rfl (Nat.le_of_ble_eq_true rfl) ⟨Nat.zero_le _, Nat.zero_le _⟩ dX4_passPair_21) [7, 3] [0, 1, 2, 4, 5, 6, 8] rfl rfl rfl rfl rfl (fun _ => rfl) (fun _ => rfl) (fun _ => rfl) (fun uz hF => ?_)
  obtain ⟨r_3, hE⟩ : ∃ z, z = uz := ⟨_, rfl⟩; subst hE
  refine zv_aload_n (pc := 24) C rfl 0 rfl dX4_passPair_24 ?_
  refine zv_get (pc := 25) (CC := RX4) (T := TX4) (N := 11) (ci := 3) (v := .ref qT6) C zi_X4_passPair_dg_X4 0 rfl 6 (by decide) zf_X4_passPair_dg_30 rfl rfl dX4_passPair_25 ?_
  refine zv_lload (pc := 28) C 5 rfl dX4_passPair_28 ?_
  refine zv_cv0 (pc := 30) (ws' := (fun uz : zRow => (zd_X4_passPair_dg cI adT qT0 qT1 qT2 qT3 qT4 qT5 qT6 qT7 (zset (zset T 5 r_2) 6 uz)))) C (zv_runS (As := [.ref qT6, .long tl]) (rest := []) C (zc_X1_scale l G cI qT6 8 r_3 tl _ hF) (va_cwS 2 C.2.2.2.2.1 gX4_passPair_X1_scale rfl rfl rfl zy_X1_scale ⟨Nat.le_of_ble_eq_true rfl, Nat.le_of_ble_eq_true rfl⟩) rfl rfl (Nat.le_of_ble_eq_true rfl) ⟨Nat.zero_le _, Nat.zero_le _⟩ dX4_passPair_30) [7] [0, 1, 2, 3, 4, 5, 6, 8] rfl rfl rfl rfl rfl (fun _ => rfl) (fun _ => rfl) (fun _ => rfl) (fun uz hF => ?_)
  obtain ⟨r_4, hE⟩ : ∃ z, z = uz := ⟨_, rfl⟩; subst hE
  refine zv_aload_n (pc := 33) C rfl 0 rfl dX4_passPair_33 ?_
  refine zv_get (pc := 34) (CC := RX4) (T := TX4) (N := 11) (ci := 3) (v := .ref qT5) C zi_X4_passPair_dg_X4 0 rfl 5 (by decide) zf_X4_passPair_dg_27 rfl rfl dX4_passPair_34 ?_
  refine zv_aload_n (pc := 37) C rfl 0 rfl dX4_passPair_37 ?_
  refine zv_get (pc := 38) (CC := RX4) (T := TX4) (N := 11) (ci := 3) (v := .ref qT6) C zi_X4_passPair_dg_X4 0 rfl 6 (by decide) zf_X4_passPair_dg_30 rfl rfl dX4_passPair_38 ?_
  refine zv_aload_n (pc := 41) C rfl 0 rfl dX4_passPair_41 ?_
  refine zv_get (pc := 42) (CC := RX4) (T := TX4) (N := 11) (ci := 3) (v := .int (T 10 0)) C zi_X4_passPair_dg_X4 0 rfl 10 (by decide) zf_X4_passPair_dg_43 rfl rfl dX4_passPair_42 ?_
  refine zv_ineg (pc := 45) C  dX4_passPair_45 ?_
  refine zv_i2l (pc := 46) C  dX4_passPair_46 ?_
  refine zv_cv0 (pc := 47) (ws' := (fun uz : zRow => (zd_X4_passPair_dg cI adT qT0 qT1 qT2 qT3 qT4 qT5 qT6 qT7 (zset (zset T 5 uz) 6 r_4)))) C (zv_runS (As := [.ref qT5, .ref qT6, .long (Int32.toInt64 (-(T 10 0)))]) (rest := []) C (zc_X1_gain l G cI qT5 qT6 8 8 r_2 r_4 (Int32.toInt64 (-(T 10 0))) _ hF) (va_cwS 3 C.2.2.2.2.1 gX4_passPair_X1_gain rfl rfl rfl zy_X1_gain ⟨Nat.le_of_ble_eq_true rfl, Nat.le_of_ble_eq_true rfl⟩) rfl rfl (Nat.le_of_ble_eq_true rfl) ⟨Nat.zero_le _, Nat.zero_le _⟩ dX4_passPair_47) [6, 7] [0, 1, 2, 3, 4, 5, 8] rfl rfl rfl rfl rfl (fun _ => rfl) (fun _ => rfl) (fun _ => rfl) (fun uz hF => ?_)
  obtain ⟨r_5, hE⟩ : ∃ z, z = uz := ⟨_, rfl⟩; subst hE
  refine zv_aload_n (pc := 50) C rfl 2 rfl dX4_passPair_50 ?_
  refine zv_lload_n (pc := 51) C rfl 3 rfl dX4_passPair_51 ?_
  refine zv_cv0 (pc := 52) (ws' := (fun uz : zRow => (zd_X4_passPair_dg cI adT qT0 qT1 qT2 qT3 qT4 qT5 qT6 qT7 (zset (zset (zset T 2 uz) 5 r_5) 6 r_4)))) C (zv_runS (As := [.ref qT2, .long st]) (rest := []) C (zc_X1_scale l G cI qT2 8 (T 2) st _ hF) (va_cwS 2 C.2.2.2.2.1 gX4_passPair_X1_scale rfl rfl rfl zy_X1_scale ⟨Nat.le_of_ble_eq_true rfl, Nat.le_of_ble_eq_true rfl⟩) rfl rfl (Nat.le_of_ble_eq_true rfl) ⟨Nat.zero_le _, Nat.zero_le _⟩ dX4_passPair_52) [3] [0, 1, 2, 4, 5, 6, 7, 8] rfl rfl rfl rfl rfl (fun _ => rfl) (fun _ => rfl) (fun _ => rfl) (fun uz hF => ?_)
  obtain ⟨r_6, hE⟩ : ∃ z, z = uz := ⟨_, rfl⟩; subst hE
  refine zv_aload_n (pc := 55) C rfl 2 rfl dX4_passPair_55 ?_
  refine zv_aload_n (pc := 56) C rfl 1 rfl dX4_passPair_56 ?_
  refine zv_lload (pc := 57) C 4 rfl dX4_passPair_57 ?_
  refine zv_cv0 (pc := 59) (ws' := (fun uz : zRow => (zd_X4_passPair_dg cI adT qT0 qT1 qT2 qT3 qT4 qT5 qT6 qT7 (zset (zset (zset T 2 uz) 5 r_5) 6 r_4)))) C (zv_runS (As := [.ref qT2, .ref qT3, .long ts]) (rest := []) C (zc_X1_gain l G cI qT2 qT3 8 8 r_6 (T 3) ts _ hF) (va_cwS 3 C.2.2.2.2.1 gX4_passPair_X1_gain rfl rfl rfl zy_X1_gain ⟨Nat.le_of_ble_eq_true rfl, Nat.le_of_ble_eq_true rfl⟩) rfl rfl (Nat.le_of_ble_eq_true rfl) ⟨Nat.zero_le _, Nat.zero_le _⟩ dX4_passPair_59) [3, 4] [0, 1, 2, 5, 6, 7, 8] rfl rfl rfl rfl rfl (fun _ => rfl) (fun _ => rfl) (fun _ => rfl) (fun uz hF => ?_)
  obtain ⟨r_7, hE⟩ : ∃ z, z = uz := ⟨_, rfl⟩; subst hE
  refine zv_aload_n (pc := 62) C rfl 1 rfl dX4_passPair_62 ?_
  refine zv_aload_n (pc := 63) C rfl 0 rfl dX4_passPair_63 ?_
  refine zv_get (pc := 64) (CC := RX4) (T := TX4) (N := 11) (ci := 3) (v := .ref qT5) C zi_X4_passPair_dg_X4 0 rfl 5 (by decide) zf_X4_passPair_dg_27 rfl rfl dX4_passPair_64 ?_
  refine zv_cv0 (pc := 67) (ws' := (fun uz : zRow => (zd_X4_passPair_dg cI adT qT0 qT1 qT2 qT3 qT4 qT5 qT6 qT7 (zset (zset (zset (zset T 2 r_7) 3 uz) 5 r_5) 6 r_4)))) C (zv_runS (As := [.ref qT3, .ref qT5]) (rest := []) C (zc_X1_put l G cI qT3 qT5 8 8 (T 3) r_5 _ hF) (va_cwS 2 C.2.2.2.2.1 gX4_passPair_X1_put rfl rfl rfl zy_X1_put ⟨Nat.le_of_ble_eq_true rfl, Nat.le_of_ble_eq_true rfl⟩) rfl rfl (Nat.le_of_ble_eq_true rfl) ⟨Nat.zero_le _, Nat.zero_le _⟩ dX4_passPair_67) [4, 6] [0, 1, 2, 3, 5, 7, 8] rfl rfl rfl rfl rfl (fun _ => rfl) (fun _ => rfl) (fun _ => rfl) (fun uz hF => ?_)
  obtain ⟨r_8, hE⟩ : ∃ z, z = uz := ⟨_, rfl⟩; subst hE
  exact zv_vret (pc := 70) C hr hlk (zset (zset (zset (zset T 2 r_7) 3 r_8) 5 r_5) 6 r_4) hF rfl dX4_passPair_70
theorem zf_X4_appendLayer_15 : Cond.fieldLink RX4 15 "GlassStack$Table" "b" "[I" ∈ wsX4_appendLayer := (List.mem_of_getElem? (i := 4) rfl)
theorem zf_X4_appendLayer_18 : Cond.fieldLink RX4 18 "GlassStack$Table" "g" "[I" ∈ wsX4_appendLayer := (List.mem_of_getElem? (i := 6) rfl)
theorem zf_X4_appendLayer_21 : Cond.fieldLink RX4 21 "GlassStack$Table" "d" "[I" ∈ wsX4_appendLayer := (List.mem_of_getElem? (i := 5) rfl)
theorem zf_X4_appendLayer_24 : Cond.fieldLink RX4 24 "GlassStack$Table" "whole" "[I" ∈ wsX4_appendLayer := (List.mem_of_getElem? (i := 7) rfl)
theorem zf_X4_appendLayer_36 : Cond.fieldLink RX4 36 "GlassStack$Table" "cosineUp" "I" ∈ wsX4_appendLayer := (List.mem_of_getElem? (i := 2) rfl)
theorem zf_X4_appendLayer_40 : Cond.fieldLink RX4 40 "GlassStack$Table" "cosineBelow" "I" ∈ wsX4_appendLayer := (List.mem_of_getElem? (i := 1) rfl)
theorem zf_X4_appendLayer_9 : Cond.fieldLink RX4 9 "GlassStack$Table" "a" "[I" ∈ wsX4_appendLayer := (List.mem_of_getElem? (i := 3) rfl)
theorem zi_X4_appendLayer_X4 : ∀ w ∈ wsX40, w ∈ wsX4_appendLayer := fun w h => List.mem_cons_of_mem _ (List.mem_append_right _ h)
theorem zy_X4_appendLayer : yX4_appendLayer.cls = RX4 ∧ yX4_appendLayer.cls ≠ "java/lang/invoke/MethodHandle" ∧ yX4_appendLayer.cls ≠ "java/lang/invoke/VarHandle" ∧ (parseMethodDescriptor yX4_appendLayer.desc).map (fun d => d.parameters.length) = some 3 := by decide +kernel
set_option maxHeartbeats 4000000 in
set_option maxRecDepth 100000 in
theorem zl_X4_appendLayer_39 {p : Program} {l : Launch} {e : Env} {s : State} {m : MethodId} {args : Array Value} {below : List Frame} {meth : Method} {c : Code} {G : va_G} {cI : ClassId} {A : Nat → Prop} {Q : State → Prop} (adT qT0 qT1 qT2 qT3 qT4 qT5 qT6 qT7 : Nat) (T : zMem) (c1 : Int32) (c2 : Int32) (c3 : Int32) (c4 : Int64) (K113 : Int64 → Int64 → Int64 → Prop) (C : zv_C p s m args c cX4_appendLayer 21 RX4 wsX4_appendLayer G cI A) (hK113 : ∀ (p6 : Int64) (p10 : Int64) (p14 : Int64), K113 p6 p10 p14 → zv_V p l e (headSpec wsX4_appendLayer rmX4_appendLayer).room s m args below meth c Q G A 21 0 0 (zd_X4_appendLayer cI adT qT0 qT1 qT2 qT3 qT4 qT5 qT6 qT7 T) 113 [(0, .ref adT), (1, .int c1), (2, .int c2), (6, .long p6), (10, .long p10), (14, .long p14)] []) : ∀ (k : Nat) (p6 : Int64) (p8 : Int64) (p10 : Int64) (p12 : Int64) (p14 : Int64) (p16 : Int32), zw_X4_appendLayer_39 T c1 c2 c3 c4 K113 k p6 p8 p10 p12 p14 p16 → zv_V p l e (headSpec wsX4_appendLayer rmX4_appendLayer).room s m args below meth c Q G A 21 0 0 (zd_X4_appendLayer cI adT qT0 qT1 qT2 qT3 qT4 qT5 qT6 qT7 T) 39 [(0, .ref adT), (1, .int c1), (2, .int c2), (3, .int c3), (4, .long c4), (6, .long p6), (8, .long p8), (10, .long p10), (12, .long p12), (14, .long p14), (16, .int p16)] [] := by
  intro k
  induction k with
  | zero => intro p6 p8 p10 p12 p14 p16 hF; exact (show False from hF).elim
  | succ k ih =>
    intro p6 p8 p10 p12 p14 p16 hF
    refine zv_iload (pc := 39) C 10 rfl dX4_appendLayer_39 ?_
    refine zv_iload_n (pc := 41) C rfl 3 rfl dX4_appendLayer_41 ?_
    refine zv_icmp_ge (pc := 42) (tgt := 113) C dX4_appendLayer_42 (by decide) (fun c_4 => ?_) (fun c_4 => ?_)
    · replace hF := And.left hF c_4
      exact zv_lvs [0, 1, 2, 5, 7, 9] rfl (hK113 p6 p10 p14 hF)
    · replace hF := And.right hF c_4
      refine zv_iconst (pc := 45) (v := 2) C (by decide) dX4_appendLayer_45 ?_
      refine zv_aload_n (pc := 46) C rfl 0 rfl dX4_appendLayer_46 ?_
      refine zv_get (pc := 47) (CC := RX4) (T := TX4) (N := 11) (ci := 3) (v := .int (T 8 0)) C zi_X4_appendLayer_X4 0 rfl 8 (by decide) zf_X4_appendLayer_36 rfl rfl dX4_appendLayer_47 ?_
      refine zv_imul (pc := 50) C  dX4_appendLayer_50 ?_
      refine zv_i2l (pc := 51) C  dX4_appendLayer_51 ?_
      refine zv_lload (pc := 52) C 5 rfl dX4_appendLayer_52 ?_
      refine zv_lmul (pc := 54) C  dX4_appendLayer_54 ?_
      refine zv_lload (pc := 55) C 4 rfl dX4_appendLayer_55 ?_
      refine zv_lload (pc := 57) C 6 rfl dX4_appendLayer_57 ?_
      refine zv_lmul (pc := 59) C  dX4_appendLayer_59 ?_
      refine zv_lsub (pc := 60) C  dX4_appendLayer_60 ?_
      refine zv_topl (fun x17_5 ex17_5 => ?_)
      replace hF := hF x17_5 ex17_5
      refine zv_lstore (pc := 61) (lv' := [(17, .long x17_5), (0, .ref adT), (1, .int c1), (2, .int c2), (3, .int c3), (4, .long c4), (6, .long p6), (8, .long p8), (10, .long p10), (12, .long p12), (14, .long p14), (16, .int p16)]) C (by decide) rfl dX4_appendLayer_61 ?_
      refine zv_iconst (pc := 63) (v := 2) C (by decide) dX4_appendLayer_63 ?_
      refine zv_aload_n (pc := 64) C rfl 1 rfl dX4_appendLayer_64 ?_
      refine zv_get (pc := 65) (CC := RX4) (T := TX4) (N := 11) (ci := 3) (v := .int (T 8 0)) C zi_X4_appendLayer_X4 0 rfl 8 (by decide) zf_X4_appendLayer_36 rfl rfl dX4_appendLayer_65 ?_
      refine zv_imul (pc := 68) C  dX4_appendLayer_68 ?_
      refine zv_i2l (pc := 69) C  dX4_appendLayer_69 ?_
      refine zv_lload (pc := 70) C 8 rfl dX4_appendLayer_70 ?_
      refine zv_lmul (pc := 72) C  dX4_appendLayer_72 ?_
      refine zv_lload (pc := 73) C 5 rfl dX4_appendLayer_73 ?_
      refine zv_lload (pc := 75) C 9 rfl dX4_appendLayer_75 ?_
      refine zv_lmul (pc := 77) C  dX4_appendLayer_77 ?_
      refine zv_lsub (pc := 78) C  dX4_appendLayer_78 ?_
      refine zv_topl (fun x19_6 ex19_6 => ?_)
      replace hF := hF x19_6 ex19_6
      refine zv_lstore (pc := 79) (lv' := [(19, .long x19_6), (17, .long x17_5), (0, .ref adT), (1, .int c1), (2, .int c2), (3, .int c3), (4, .long c4), (6, .long p6), (8, .long p8), (10, .long p10), (12, .long p12), (14, .long p14), (16, .int p16)]) C (by decide) rfl dX4_appendLayer_79 ?_
      refine zv_lload (pc := 81) C 7 rfl dX4_appendLayer_81 ?_
      refine zv_lstore (pc := 83) (lv' := [(8, .long p6), (19, .long x19_6), (17, .long x17_5), (0, .ref adT), (1, .int c1), (2, .int c2), (3, .int c3), (4, .long c4), (6, .long p6), (10, .long p10), (12, .long p12), (14, .long p14), (16, .int p16)]) C (by decide) rfl dX4_appendLayer_83 ?_
      refine zv_lload (pc := 85) C 2 rfl dX4_appendLayer_85 ?_
      refine zv_lstore (pc := 87) (lv' := [(6, .long x17_5), (8, .long p6), (19, .long x19_6), (17, .long x17_5), (0, .ref adT), (1, .int c1), (2, .int c2), (3, .int c3), (4, .long c4), (10, .long p10), (12, .long p12), (14, .long p14), (16, .int p16)]) C (by decide) rfl dX4_appendLayer_87 ?_
      refine zv_lload (pc := 89) C 9 rfl dX4_appendLayer_89 ?_
      refine zv_lstore (pc := 91) (lv' := [(12, .long p10), (6, .long x17_5), (8, .long p6), (19, .long x19_6), (17, .long x17_5), (0, .ref adT), (1, .int c1), (2, .int c2), (3, .int c3), (4, .long c4), (10, .long p10), (14, .long p14), (16, .int p16)]) C (by decide) rfl dX4_appendLayer_91 ?_
      refine zv_lload (pc := 93) C 3 rfl dX4_appendLayer_93 ?_
      refine zv_lstore (pc := 95) (lv' := [(10, .long x19_6), (12, .long p10), (6, .long x17_5), (8, .long p6), (19, .long x19_6), (17, .long x17_5), (0, .ref adT), (1, .int c1), (2, .int c2), (3, .int c3), (4, .long c4), (14, .long p14), (16, .int p16)]) C (by decide) rfl dX4_appendLayer_95 ?_
      refine zv_lload (pc := 97) C 11 rfl dX4_appendLayer_97 ?_
      refine zv_aload_n (pc := 99) C rfl 6 rfl dX4_appendLayer_99 ?_
      refine zv_get (pc := 100) (CC := RX4) (T := TX4) (N := 11) (ci := 3) (v := .int (T 9 0)) C zi_X4_appendLayer_X4 0 rfl 9 (by decide) zf_X4_appendLayer_40 rfl rfl dX4_appendLayer_100 ?_
      refine zv_i2l (pc := 103) C  dX4_appendLayer_103 ?_
      refine zv_lmul (pc := 104) C  dX4_appendLayer_104 ?_
      refine zv_topl (fun x14_7 ex14_7 => ?_)
      replace hF := hF x14_7 ex14_7
      refine zv_lstore (pc := 105) (lv' := [(14, .long x14_7), (10, .long x19_6), (12, .long p10), (6, .long x17_5), (8, .long p6), (19, .long x19_6), (17, .long x17_5), (0, .ref adT), (1, .int c1), (2, .int c2), (3, .int c3), (4, .long c4), (16, .int p16)]) C (by decide) rfl dX4_appendLayer_105 ?_
      obtain ⟨x16_8, ex16_8⟩ : ∃ y : Int32, y = p16 + (1 : Int32) := ⟨_, rfl⟩
      replace hF := hF x16_8 ex16_8
      refine zv_iinc (pc := 107) (v := x16_8) (lv' := [(16, .int x16_8), (14, .long x14_7), (10, .long x19_6), (12, .long p10), (6, .long x17_5), (8, .long p6), (19, .long x19_6), (17, .long x17_5), (0, .ref adT), (1, .int c1), (2, .int c2), (3, .int c3), (4, .long c4)]) C 12 rfl (by rw [ex16_8]; rfl) (by decide) rfl dX4_appendLayer_107 ?_
      refine zv_goto (pc := 110) (tgt := 39) C dX4_appendLayer_110 (by decide) ?_
      exact zv_lvs [8, 9, 10, 11, 12, 4, 5, 2, 3, 1, 0] rfl (ih x17_5 p6 x19_6 p10 x14_7 x16_8 hF)
set_option maxHeartbeats 4000000 in
set_option maxRecDepth 100000 in
theorem zc_X4_appendLayer (l : Launch) (G : va_G) (cI : ClassId) (adT qT0 qT1 qT2 qT3 qT4 qT5 qT6 qT7 : Nat) (T : zMem) (up : Int32) (lo : Int32) (wi : Int32) (post : zMem → Prop) (hF : zw_X4_appendLayer T up lo wi post) (sz : Nat) : Met l yX4_appendLayer wsX4_appendLayer rmX4_appendLayer (va_Pc [.ref adT, .int up, .int lo, .int wi] (zv_in G cI (zd_X4_appendLayer cI adT qT0 qT1 qT2 qT3 qT4 qT5 qT6 qT7 T) sz)) (va_Qv (fun uz : zMem => post uz) (fun (uz : zMem) t => zv_out G cI (va_A (zd_X4_appendLayer cI adT qT0 qT1 qT2 qT3 qT4 qT5 qT6 qT7 T) sz) (zd_X4_appendLayer cI adT qT0 qT1 qT2 qT3 qT4 qT5 qT6 qT7 uz) t) (va_A (zd_X4_appendLayer cI adT qT0 qT1 qT2 qT3 qT4 qT5 qT6 qT7 T) sz)) 0 0 (va_A (zd_X4_appendLayer cI adT qT0 qT1 qT2 qT3 qT4 qT5 qT6 qT7 T) sz) := by
  refine zv_met (cc := cX4_appendLayer) (maxL := 21) (ret := none) (lv0 := [(0, .ref adT), (1, .int up), (2, .int lo), (3, .int wi)]) (Qc := fun A => va_Qv (fun uz : zMem => post uz) (fun (uz : zMem) t => zv_out G cI A (zd_X4_appendLayer cI adT qT0 qT1 qT2 qT3 qT4 qT5 qT6 qT7 uz) t) A) (by decide) rfl (Nat.le_of_ble_eq_true rfl) rfl ?_ sz
  intro p e s m below meth c A C hr hlk
  clear sz
  refine zv_aload_n (pc := 0) C rfl 0 rfl dX4_appendLayer_0 ?_
  refine zv_get (pc := 1) (CC := RX4) (T := TX4) (N := 11) (ci := 3) (v := .int (T 9 0)) C zi_X4_appendLayer_X4 0 rfl 9 (by decide) zf_X4_appendLayer_40 rfl rfl dX4_appendLayer_1 ?_
  refine zv_i2l (pc := 4) C  dX4_appendLayer_4 ?_
  refine zv_aload_n (pc := 5) C rfl 0 rfl dX4_appendLayer_5 ?_
  refine zv_get (pc := 6) (CC := RX4) (T := TX4) (N := 11) (ci := 3) (v := .int (T 9 0)) C zi_X4_appendLayer_X4 0 rfl 9 (by decide) zf_X4_appendLayer_40 rfl rfl dX4_appendLayer_6 ?_
  refine zv_i2l (pc := 9) C  dX4_appendLayer_9 ?_
  refine zv_lmul (pc := 10) C  dX4_appendLayer_10 ?_
  refine zv_topl (fun x4_1 ex4_1 => ?_)
  replace hF := hF x4_1 ex4_1
  refine zv_lstore (pc := 11) (lv' := [(4, .long x4_1), (0, .ref adT), (1, .int up), (2, .int lo), (3, .int wi)]) C (by decide) rfl dX4_appendLayer_11 ?_
  refine zv_aload_n (pc := 13) C rfl 1 rfl dX4_appendLayer_13 ?_
  refine zv_get (pc := 14) (CC := RX4) (T := TX4) (N := 11) (ci := 3) (v := .int (T 8 0)) C zi_X4_appendLayer_X4 0 rfl 8 (by decide) zf_X4_appendLayer_36 rfl rfl dX4_appendLayer_14 ?_
  refine zv_i2l (pc := 17) C  dX4_appendLayer_17 ?_
  refine zv_topl (fun x6_2 ex6_2 => ?_)
  replace hF := hF x6_2 ex6_2
  refine zv_lstore (pc := 18) (lv' := [(6, .long x6_2), (4, .long x4_1), (0, .ref adT), (1, .int up), (2, .int lo), (3, .int wi)]) C (by decide) rfl dX4_appendLayer_18 ?_
  refine zv_lconst (pc := 20) (v := 1) C (by decide) dX4_appendLayer_20 ?_
  refine zv_lstore (pc := 21) (lv' := [(8, .long (1 : Int64)), (6, .long x6_2), (4, .long x4_1), (0, .ref adT), (1, .int up), (2, .int lo), (3, .int wi)]) C (by decide) rfl dX4_appendLayer_21 ?_
  refine zv_lconst (pc := 23) (v := 1) C (by decide) dX4_appendLayer_23 ?_
  refine zv_lstore (pc := 24) (lv' := [(10, .long (1 : Int64)), (8, .long (1 : Int64)), (6, .long x6_2), (4, .long x4_1), (0, .ref adT), (1, .int up), (2, .int lo), (3, .int wi)]) C (by decide) rfl dX4_appendLayer_24 ?_
  refine zv_lconst (pc := 26) (v := 0) C (by decide) dX4_appendLayer_26 ?_
  refine zv_lstore (pc := 27) (lv' := [(12, .long (0 : Int64)), (10, .long (1 : Int64)), (8, .long (1 : Int64)), (6, .long x6_2), (4, .long x4_1), (0, .ref adT), (1, .int up), (2, .int lo), (3, .int wi)]) C (by decide) rfl dX4_appendLayer_27 ?_
  refine zv_aload_n (pc := 29) C rfl 5 rfl dX4_appendLayer_29 ?_
  refine zv_get (pc := 30) (CC := RX4) (T := TX4) (N := 11) (ci := 3) (v := .int (T 9 0)) C zi_X4_appendLayer_X4 0 rfl 9 (by decide) zf_X4_appendLayer_40 rfl rfl dX4_appendLayer_30 ?_
  refine zv_i2l (pc := 33) C  dX4_appendLayer_33 ?_
  refine zv_topl (fun x14_3 ex14_3 => ?_)
  replace hF := hF x14_3 ex14_3
  refine zv_lstore (pc := 34) (lv' := [(14, .long x14_3), (12, .long (0 : Int64)), (10, .long (1 : Int64)), (8, .long (1 : Int64)), (6, .long x6_2), (4, .long x4_1), (0, .ref adT), (1, .int up), (2, .int lo), (3, .int wi)]) C (by decide) rfl dX4_appendLayer_34 ?_
  refine zv_iconst (pc := 36) (v := 1) C (by decide) dX4_appendLayer_36 ?_
  refine zv_istore (pc := 37) (lv' := [(16, .int (1 : Int32)), (14, .long x14_3), (12, .long (0 : Int64)), (10, .long (1 : Int64)), (8, .long (1 : Int64)), (6, .long x6_2), (4, .long x4_1), (0, .ref adT), (1, .int up), (2, .int lo), (3, .int wi)]) C (by decide) rfl dX4_appendLayer_37 ?_
  obtain ⟨kf, hF⟩ := hF
  refine zv_lvs [7, 8, 9, 10, 6, 5, 4, 3, 2, 1, 0] rfl (zl_X4_appendLayer_39 adT qT0 qT1 qT2 qT3 qT4 qT5 qT6 qT7 T up lo wi x4_1 _ C ?_ kf x6_2 (1 : Int64) (1 : Int64) (0 : Int64) x14_3 (1 : Int32) hF)
  · intro x6_9 x10_10 x14_11 hF
    refine zv_iload_n (pc := 113) C rfl 1 rfl dX4_appendLayer_113 ?_
    refine zv_iload_n (pc := 114) C rfl 2 rfl dX4_appendLayer_114 ?_
    refine zv_imul (pc := 115) C  dX4_appendLayer_115 ?_
    refine zv_topi (fun x16_12 ex16_12 => ?_)
    replace hF := hF x16_12 ex16_12
    refine zv_istore (pc := 116) (lv' := [(16, .int x16_12), (0, .ref adT), (1, .int up), (2, .int lo), (6, .long x6_9), (10, .long x10_10), (14, .long x14_11)]) C (by decide) rfl dX4_appendLayer_116 ?_
    refine zv_aload_n (pc := 118) C rfl 1 rfl dX4_appendLayer_118 ?_
    refine zv_aload_n (pc := 119) C rfl 1 rfl dX4_appendLayer_119 ?_
    refine zv_get (pc := 120) (CC := RX4) (T := TX4) (N := 11) (ci := 3) (v := .ref qT0) C zi_X4_appendLayer_X4 0 rfl 0 (by decide) zf_X4_appendLayer_9 rfl rfl dX4_appendLayer_120 ?_
    refine zv_aload_n (pc := 123) C rfl 1 rfl dX4_appendLayer_123 ?_
    refine zv_get (pc := 124) (CC := RX4) (T := TX4) (N := 11) (ci := 3) (v := .ref qT1) C zi_X4_appendLayer_X4 0 rfl 1 (by decide) zf_X4_appendLayer_15 rfl rfl dX4_appendLayer_124 ?_
    refine zv_lload (pc := 127) C 4 rfl dX4_appendLayer_127 ?_
    refine zv_iload (pc := 129) C 0 rfl dX4_appendLayer_129 ?_
    refine zv_i2l (pc := 131) C  dX4_appendLayer_131 ?_
    refine zv_lmul (pc := 132) C  dX4_appendLayer_132 ?_
    refine zv_lload (pc := 133) C 5 rfl dX4_appendLayer_133 ?_
    refine zv_iload_n (pc := 135) C rfl 3 rfl dX4_appendLayer_135 ?_
    refine zv_i2l (pc := 136) C  dX4_appendLayer_136 ?_
    refine zv_lmul (pc := 137) C  dX4_appendLayer_137 ?_
    refine zv_iload_n (pc := 138) C rfl 3 rfl dX4_appendLayer_138 ?_
    refine zv_i2l (pc := 139) C  dX4_appendLayer_139 ?_
    refine zv_lmul (pc := 140) C  dX4_appendLayer_140 ?_
    refine zv_lload (pc := 141) C 5 rfl dX4_appendLayer_141 ?_
    refine zv_iload_n (pc := 143) C rfl 2 rfl dX4_appendLayer_143 ?_
    refine zv_i2l (pc := 144) C  dX4_appendLayer_144 ?_
    refine zv_lmul (pc := 145) C  dX4_appendLayer_145 ?_
    refine zv_iload_n (pc := 146) C rfl 2 rfl dX4_appendLayer_146 ?_
    refine zv_i2l (pc := 147) C  dX4_appendLayer_147 ?_
    refine zv_lmul (pc := 148) C  dX4_appendLayer_148 ?_
    refine zv_cv0 (pc := 149) (ws' := (fun uz : zMem => (zd_X4_appendLayer cI adT qT0 qT1 qT2 qT3 qT4 qT5 qT6 qT7 uz))) C (zv_runV (As := [.ref qT0, .ref qT1, .long (x6_9 * (Int32.toInt64 x16_12)), .long ((x10_10 * (Int32.toInt64 lo)) * (Int32.toInt64 lo)), .long ((x10_10 * (Int32.toInt64 up)) * (Int32.toInt64 up))]) (b := adT) (rest := []) (ci := 3) (q0 := 0) C (zc_X4_passPair_ab l G cI adT qT0 qT1 qT2 qT3 qT4 qT5 qT6 qT7 T (x6_9 * (Int32.toInt64 x16_12)) ((x10_10 * (Int32.toInt64 lo)) * (Int32.toInt64 lo)) ((x10_10 * (Int32.toInt64 up)) * (Int32.toInt64 up)) _ hF) (cwV 5 C.2.2.2.2.1 gX4_appendLayer_X4_passPair rfl rfl rfl zy_X4_passPair ⟨Nat.le_of_ble_eq_true rfl, Nat.le_of_ble_eq_true rfl⟩) rfl rfl rfl rfl rfl (Nat.le_of_ble_eq_true rfl) ⟨Nat.zero_le _, Nat.zero_le _⟩ dX4_appendLayer_149) [0, 1, 2, 3, 4, 5, 6, 7, 8] [] rfl rfl rfl rfl rfl (fun _ => rfl) (fun _ => rfl) (fun _ => rfl) (fun uz hF => ?_)
    obtain ⟨T_13, hE⟩ : ∃ z, z = uz := ⟨_, rfl⟩; subst hE
    refine zv_aload_n (pc := 152) C rfl 1 rfl dX4_appendLayer_152 ?_
    refine zv_aload_n (pc := 153) C rfl 1 rfl dX4_appendLayer_153 ?_
    refine zv_get (pc := 154) (CC := RX4) (T := TX4) (N := 11) (ci := 3) (v := .ref qT3) C zi_X4_appendLayer_X4 0 rfl 3 (by decide) zf_X4_appendLayer_21 rfl rfl dX4_appendLayer_154 ?_
    refine zv_aload_n (pc := 157) C rfl 1 rfl dX4_appendLayer_157 ?_
    refine zv_get (pc := 158) (CC := RX4) (T := TX4) (N := 11) (ci := 3) (v := .ref qT2) C zi_X4_appendLayer_X4 0 rfl 2 (by decide) zf_X4_appendLayer_18 rfl rfl dX4_appendLayer_158 ?_
    refine zv_lload (pc := 161) C 4 rfl dX4_appendLayer_161 ?_
    refine zv_iload (pc := 163) C 0 rfl dX4_appendLayer_163 ?_
    refine zv_i2l (pc := 165) C  dX4_appendLayer_165 ?_
    refine zv_lmul (pc := 166) C  dX4_appendLayer_166 ?_
    refine zv_lload (pc := 167) C 5 rfl dX4_appendLayer_167 ?_
    refine zv_iload_n (pc := 169) C rfl 2 rfl dX4_appendLayer_169 ?_
    refine zv_i2l (pc := 170) C  dX4_appendLayer_170 ?_
    refine zv_lmul (pc := 171) C  dX4_appendLayer_171 ?_
    refine zv_iload_n (pc := 172) C rfl 2 rfl dX4_appendLayer_172 ?_
    refine zv_i2l (pc := 173) C  dX4_appendLayer_173 ?_
    refine zv_lmul (pc := 174) C  dX4_appendLayer_174 ?_
    refine zv_lload (pc := 175) C 5 rfl dX4_appendLayer_175 ?_
    refine zv_iload_n (pc := 177) C rfl 3 rfl dX4_appendLayer_177 ?_
    refine zv_i2l (pc := 178) C  dX4_appendLayer_178 ?_
    refine zv_lmul (pc := 179) C  dX4_appendLayer_179 ?_
    refine zv_iload_n (pc := 180) C rfl 3 rfl dX4_appendLayer_180 ?_
    refine zv_i2l (pc := 181) C  dX4_appendLayer_181 ?_
    refine zv_lmul (pc := 182) C  dX4_appendLayer_182 ?_
    refine zv_cv0 (pc := 183) (ws' := (fun uz : zMem => (zd_X4_appendLayer cI adT qT0 qT1 qT2 qT3 qT4 qT5 qT6 qT7 uz))) C (zv_runV (As := [.ref qT3, .ref qT2, .long (x6_9 * (Int32.toInt64 x16_12)), .long ((x10_10 * (Int32.toInt64 up)) * (Int32.toInt64 up)), .long ((x10_10 * (Int32.toInt64 lo)) * (Int32.toInt64 lo))]) (b := adT) (rest := []) (ci := 3) (q0 := 0) C (zc_X4_passPair_dg l G cI adT qT0 qT1 qT2 qT3 qT4 qT5 qT6 qT7 T_13 (x6_9 * (Int32.toInt64 x16_12)) ((x10_10 * (Int32.toInt64 up)) * (Int32.toInt64 up)) ((x10_10 * (Int32.toInt64 lo)) * (Int32.toInt64 lo)) _ hF) (cwV 5 C.2.2.2.2.1 gX4_appendLayer_X4_passPair rfl rfl rfl zy_X4_passPair ⟨Nat.le_of_ble_eq_true rfl, Nat.le_of_ble_eq_true rfl⟩) rfl rfl rfl rfl rfl (Nat.le_of_ble_eq_true rfl) ⟨Nat.zero_le _, Nat.zero_le _⟩ dX4_appendLayer_183) [0, 1, 2, 3, 4, 5, 6, 7, 8] [] rfl rfl rfl rfl rfl (fun _ => rfl) (fun _ => rfl) (fun _ => rfl) (fun uz hF => ?_)
    obtain ⟨T_14, hE⟩ : ∃ z, z = uz := ⟨_, rfl⟩; subst hE
    refine zv_aload_n (pc := 186) C rfl 1 rfl dX4_appendLayer_186 ?_
    refine zv_get (pc := 187) (CC := RX4) (T := TX4) (N := 11) (ci := 3) (v := .ref qT4) C zi_X4_appendLayer_X4 0 rfl 4 (by decide) zf_X4_appendLayer_24 rfl rfl dX4_appendLayer_187 ?_
    refine zv_lload (pc := 190) C 6 rfl dX4_appendLayer_190 ?_
    refine zv_iload (pc := 192) C 0 rfl dX4_appendLayer_192 ?_
    refine zv_i2l (pc := 194) C  dX4_appendLayer_194 ?_
    refine zv_lmul (pc := 195) C  dX4_appendLayer_195 ?_
    refine zv_cv0 (pc := 196) (ws' := (fun uz : zRow => (zd_X4_appendLayer cI adT qT0 qT1 qT2 qT3 qT4 qT5 qT6 qT7 (zset T_14 4 uz)))) C (zv_runS (As := [.ref qT4, .long (x14_11 * (Int32.toInt64 x16_12))]) (rest := []) C (zc_X1_scale l G cI qT4 8 (T_14 4) (x14_11 * (Int32.toInt64 x16_12)) _ hF) (va_cwS 2 C.2.2.2.2.1 gX4_appendLayer_X1_scale rfl rfl rfl zy_X1_scale ⟨Nat.le_of_ble_eq_true rfl, Nat.le_of_ble_eq_true rfl⟩) rfl rfl (Nat.le_of_ble_eq_true rfl) ⟨Nat.zero_le _, Nat.zero_le _⟩ dX4_appendLayer_196) [5] [0, 1, 2, 3, 4, 6, 7, 8] rfl rfl rfl rfl rfl (fun _ => rfl) (fun _ => rfl) (fun _ => rfl) (fun uz hF => ?_)
    obtain ⟨r_15, hE⟩ : ∃ z, z = uz := ⟨_, rfl⟩; subst hE
    exact zv_vret (pc := 199) C hr hlk (zset T_14 4 r_15) hF rfl dX4_appendLayer_199
theorem zf_X4_reckon_15 : Cond.fieldLink RX4 15 "GlassStack$Table" "b" "[I" ∈ wsX4_reckon := (List.mem_of_getElem? (i := 5) rfl)
theorem zf_X4_reckon_18 : Cond.fieldLink RX4 18 "GlassStack$Table" "g" "[I" ∈ wsX4_reckon := (List.mem_of_getElem? (i := 6) rfl)
theorem zf_X4_reckon_21 : Cond.fieldLink RX4 21 "GlassStack$Table" "d" "[I" ∈ wsX4_reckon := (List.mem_of_getElem? (i := 7) rfl)
theorem zf_X4_reckon_24 : Cond.fieldLink RX4 24 "GlassStack$Table" "whole" "[I" ∈ wsX4_reckon := (List.mem_of_getElem? (i := 8) rfl)
theorem zf_X4_reckon_36 : Cond.fieldLink RX4 36 "GlassStack$Table" "cosineUp" "I" ∈ wsX4_reckon := (List.mem_of_getElem? (i := 1) rfl)
theorem zf_X4_reckon_40 : Cond.fieldLink RX4 40 "GlassStack$Table" "cosineBelow" "I" ∈ wsX4_reckon := (List.mem_of_getElem? (i := 2) rfl)
theorem zf_X4_reckon_43 : Cond.fieldLink RX4 43 "GlassStack$Table" "sineSquare" "I" ∈ wsX4_reckon := (List.mem_of_getElem? (i := 3) rfl)
theorem zf_X4_reckon_50 : Cond.fieldLink RX4 50 "GlassStack$Pile" "count" "I" ∈ wsX4_reckon := (List.mem_of_getElem? (i := 9) rfl)
theorem zf_X4_reckon_55 : Cond.fieldLink RX4 55 "GlassStack$Pile" "up" "[I" ∈ wsX4_reckon := (List.mem_of_getElem? (i := 10) rfl)
theorem zf_X4_reckon_58 : Cond.fieldLink RX4 58 "GlassStack$Pile" "below" "[I" ∈ wsX4_reckon := (List.mem_of_getElem? (i := 11) rfl)
theorem zf_X4_reckon_61 : Cond.fieldLink RX4 61 "GlassStack$Pile" "width" "[I" ∈ wsX4_reckon := (List.mem_of_getElem? (i := 12) rfl)
theorem zf_X4_reckon_9 : Cond.fieldLink RX4 9 "GlassStack$Table" "a" "[I" ∈ wsX4_reckon := (List.mem_of_getElem? (i := 4) rfl)
theorem zi_X4_reckon_X3 : ∀ w ∈ wsX30, w ∈ wsX4_reckon := fun w h => List.mem_cons_of_mem _ (List.mem_append_right _ h)
theorem zi_X4_reckon_X4 : ∀ w ∈ wsX40, w ∈ wsX4_reckon := fun w h => List.mem_cons_of_mem _ (List.mem_append_left _ (List.mem_append_right _ h))
theorem zy_X4_reckon : yX4_reckon.cls = RX4 ∧ yX4_reckon.cls ≠ "java/lang/invoke/MethodHandle" ∧ yX4_reckon.cls ≠ "java/lang/invoke/VarHandle" ∧ (parseMethodDescriptor yX4_reckon.desc).map (fun d => d.parameters.length) = some 3 := by decide +kernel
set_option maxHeartbeats 4000000 in
set_option maxRecDepth 100000 in
theorem zl_X4_reckon_64 {p : Program} {l : Launch} {e : Env} {s : State} {m : MethodId} {args : Array Value} {below : List Frame} {meth : Method} {c : Code} {G : va_G} {cI : ClassId} {A : Nat → Prop} {Q : State → Prop} (adT qT0 qT1 qT2 qT3 qT4 qT5 qT6 qT7 adP qP0 qP1 qP2 qP3 qP4 : Nat) (P : zMem) (K111 : zMem → Prop) (C : zv_C p s m args c cX4_reckon 5 RX4 wsX4_reckon G cI A) (hK111 : ∀ (T : zMem), K111 T → zv_V p l e (headSpec wsX4_reckon rmX4_reckon).room s m args below meth c Q G A 5 0 0 (zd_X4_reckon cI adT qT0 qT1 qT2 qT3 qT4 qT5 qT6 qT7 adP qP0 qP1 qP2 qP3 qP4 T P) 111 [] []) : ∀ (k : Nat) (p4 : Int32) (T : zMem), zw_X4_reckon_64 P K111 k p4 T → zv_V p l e (headSpec wsX4_reckon rmX4_reckon).room s m args below meth c Q G A 5 0 0 (zd_X4_reckon cI adT qT0 qT1 qT2 qT3 qT4 qT5 qT6 qT7 adP qP0 qP1 qP2 qP3 qP4 T P) 64 [(0, .ref adT), (1, .ref adP), (4, .int p4)] [] := by
  intro k
  induction k with
  | zero => intro p4 T hF; exact (show False from hF).elim
  | succ k ih =>
    intro p4 T hF
    refine zv_iload (pc := 64) C 2 rfl dX4_reckon_64 ?_
    refine zv_aload_n (pc := 66) C rfl 1 rfl dX4_reckon_66 ?_
    refine zv_get (pc := 67) (CC := RX3) (T := TX3) (N := 6) (ci := 2) (v := .int (P 5 0)) C zi_X4_reckon_X3 9 rfl 5 (by decide) zf_X4_reckon_50 rfl rfl dX4_reckon_67 ?_
    refine zv_icmp_ge (pc := 70) (tgt := 111) C dX4_reckon_70 (by decide) (fun c_7 => ?_) (fun c_7 => ?_)
    · replace hF := And.left hF c_7
      exact zv_lvs [] rfl (hK111 T hF)
    · replace hF := And.right hF c_7
      refine zv_iload (pc := 73) C 2 rfl dX4_reckon_73 ?_
      refine zv_bipush (pc := 75) (v := 6) C (by decide) dX4_reckon_75 ?_
      refine zv_icmp_ge (pc := 77) (tgt := 111) C dX4_reckon_77 (by decide) (fun c_8 => ?_) (fun c_8 => ?_)
      · replace hF := And.left hF c_8
        exact zv_lvs [] rfl (hK111 T hF)
      · replace hF := And.right hF c_8
        refine zv_aload_n (pc := 80) C rfl 0 rfl dX4_reckon_80 ?_
        refine zv_aload_n (pc := 81) C rfl 1 rfl dX4_reckon_81 ?_
        refine zv_get (pc := 82) (CC := RX3) (T := TX3) (N := 6) (ci := 2) (v := .ref qP2) C zi_X4_reckon_X3 9 rfl 2 (by decide) zf_X4_reckon_55 rfl rfl dX4_reckon_82 ?_
        refine zv_iload (pc := 85) C 2 rfl dX4_reckon_85 ?_
        obtain ⟨h_9, hF⟩ := hF
        refine zv_iald (pc := 87) (n := 6) (f := (P 2)) C 12 h_9 rfl dX4_reckon_87 ?_
        refine zv_aload_n (pc := 88) C rfl 1 rfl dX4_reckon_88 ?_
        refine zv_get (pc := 89) (CC := RX3) (T := TX3) (N := 6) (ci := 2) (v := .ref qP3) C zi_X4_reckon_X3 9 rfl 3 (by decide) zf_X4_reckon_58 rfl rfl dX4_reckon_89 ?_
        refine zv_iload (pc := 92) C 2 rfl dX4_reckon_92 ?_
        obtain ⟨h_10, hF⟩ := hF
        refine zv_iald (pc := 94) (n := 6) (f := (P 3)) C 13 h_10 rfl dX4_reckon_94 ?_
        refine zv_aload_n (pc := 95) C rfl 1 rfl dX4_reckon_95 ?_
        refine zv_get (pc := 96) (CC := RX3) (T := TX3) (N := 6) (ci := 2) (v := .ref qP4) C zi_X4_reckon_X3 9 rfl 4 (by decide) zf_X4_reckon_61 rfl rfl dX4_reckon_96 ?_
        refine zv_iload (pc := 99) C 2 rfl dX4_reckon_99 ?_
        obtain ⟨h_11, hF⟩ := hF
        refine zv_iald (pc := 101) (n := 6) (f := (P 4)) C 14 h_11 rfl dX4_reckon_101 ?_
        refine zv_cv0 (pc := 102) (ws' := (fun uz : zMem => (zd_X4_reckon cI adT qT0 qT1 qT2 qT3 qT4 qT5 qT6 qT7 adP qP0 qP1 qP2 qP3 qP4 uz P))) C (zv_runV (As := [.int ((P 2) (Int32.toNatClampNeg p4)), .int ((P 3) (Int32.toNatClampNeg p4)), .int ((P 4) (Int32.toNatClampNeg p4))]) (b := adT) (rest := []) (ci := 3) (q0 := 0) C (zc_X4_appendLayer l G cI adT qT0 qT1 qT2 qT3 qT4 qT5 qT6 qT7 T ((P 2) (Int32.toNatClampNeg p4)) ((P 3) (Int32.toNatClampNeg p4)) ((P 4) (Int32.toNatClampNeg p4)) _ hF) (cwV 3 C.2.2.2.2.1 gX4_reckon_X4_appendLayer rfl rfl rfl zy_X4_appendLayer ⟨Nat.le_of_ble_eq_true rfl, Nat.le_of_ble_eq_true rfl⟩) rfl rfl rfl rfl rfl (Nat.le_of_ble_eq_true rfl) ⟨Nat.zero_le _, Nat.zero_le _⟩ dX4_reckon_102) [0, 1, 2, 3, 4, 5, 6, 7, 8] [9, 10, 11, 12, 13, 14] rfl rfl rfl rfl rfl (fun _ => rfl) (fun _ => rfl) (fun _ => rfl) (fun uz hF => ?_)
        obtain ⟨T_12, hE⟩ : ∃ z, z = uz := ⟨_, rfl⟩; subst hE
        obtain ⟨x4_13, ex4_13⟩ : ∃ y : Int32, y = p4 + (1 : Int32) := ⟨_, rfl⟩
        replace hF := hF x4_13 ex4_13
        refine zv_iinc (pc := 105) (v := x4_13) (lv' := [(4, .int x4_13), (0, .ref adT), (1, .ref adP)]) C 2 rfl (by rw [ex4_13]; rfl) (by decide) rfl dX4_reckon_105 ?_
        refine zv_goto (pc := 108) (tgt := 64) C dX4_reckon_108 (by decide) ?_
        exact zv_lvs [1, 2, 0] rfl (ih x4_13 T_12 hF)
set_option maxHeartbeats 4000000 in
set_option maxRecDepth 100000 in
theorem zc_X4_reckon (l : Launch) (G : va_G) (cI : ClassId) (adT qT0 qT1 qT2 qT3 qT4 qT5 qT6 qT7 adP qP0 qP1 qP2 qP3 qP4 : Nat) (T : zMem) (P : zMem) (uv : Int32) (v : Int32) (post : zMem → Prop) (hF : zw_X4_reckon T P uv v post) (sz : Nat) : Met l yX4_reckon wsX4_reckon rmX4_reckon (va_Pc [.ref adT, .ref adP, .int uv, .int v] (zv_in G cI (zd_X4_reckon cI adT qT0 qT1 qT2 qT3 qT4 qT5 qT6 qT7 adP qP0 qP1 qP2 qP3 qP4 T P) sz)) (va_Qv (fun uz : zMem => post uz) (fun (uz : zMem) t => zv_out G cI (va_A (zd_X4_reckon cI adT qT0 qT1 qT2 qT3 qT4 qT5 qT6 qT7 adP qP0 qP1 qP2 qP3 qP4 T P) sz) (zd_X4_reckon cI adT qT0 qT1 qT2 qT3 qT4 qT5 qT6 qT7 adP qP0 qP1 qP2 qP3 qP4 uz P) t) (va_A (zd_X4_reckon cI adT qT0 qT1 qT2 qT3 qT4 qT5 qT6 qT7 adP qP0 qP1 qP2 qP3 qP4 T P) sz)) 0 0 (va_A (zd_X4_reckon cI adT qT0 qT1 qT2 qT3 qT4 qT5 qT6 qT7 adP qP0 qP1 qP2 qP3 qP4 T P) sz) := by
  refine zv_met (cc := cX4_reckon) (maxL := 5) (ret := none) (lv0 := [(0, .ref adT), (1, .ref adP), (2, .int uv), (3, .int v)]) (Qc := fun A => va_Qv (fun uz : zMem => post uz) (fun (uz : zMem) t => zv_out G cI A (zd_X4_reckon cI adT qT0 qT1 qT2 qT3 qT4 qT5 qT6 qT7 adP qP0 qP1 qP2 qP3 qP4 uz P) t) A) (by decide) rfl (Nat.le_of_ble_eq_true rfl) rfl ?_ sz
  intro p e s m below meth c A C hr hlk
  clear sz
  refine zv_aload_n (pc := 0) C rfl 0 rfl dX4_reckon_0 ?_
  refine zv_iload_n (pc := 1) C rfl 2 rfl dX4_reckon_1 ?_
  refine zv_put (pc := 2) (CC := RX4) (T := TX4) (N := 11) (ci := 3) (v := .int uv) (ty := .int) (ws' := (zd_X4_reckon cI adT qT0 qT1 qT2 qT3 qT4 qT5 qT6 qT7 adP qP0 qP1 qP2 qP3 qP4 (zset T 8 (fun _ => uv)) P)) C zi_X4_reckon_X4 tyX4 tyX4_ok nmX4 0 rfl 8 (by decide) zf_X4_reckon_36 rfl (by decide +kernel) rfl rfl rfl (Nat.le_of_ble_eq_true rfl) rfl dX4_reckon_2 ?_
  refine zv_aload_n (pc := 5) C rfl 0 rfl dX4_reckon_5 ?_
  refine zv_iload_n (pc := 6) C rfl 3 rfl dX4_reckon_6 ?_
  refine zv_put (pc := 7) (CC := RX4) (T := TX4) (N := 11) (ci := 3) (v := .int v) (ty := .int) (ws' := (zd_X4_reckon cI adT qT0 qT1 qT2 qT3 qT4 qT5 qT6 qT7 adP qP0 qP1 qP2 qP3 qP4 (zset (zset T 8 (fun _ => uv)) 9 (fun _ => v)) P)) C zi_X4_reckon_X4 tyX4 tyX4_ok nmX4 0 rfl 9 (by decide) zf_X4_reckon_40 rfl (by decide +kernel) rfl rfl rfl (Nat.le_of_ble_eq_true rfl) rfl dX4_reckon_7 ?_
  refine zv_aload_n (pc := 10) C rfl 0 rfl dX4_reckon_10 ?_
  refine zv_iload_n (pc := 11) C rfl 3 rfl dX4_reckon_11 ?_
  refine zv_iload_n (pc := 12) C rfl 3 rfl dX4_reckon_12 ?_
  refine zv_imul (pc := 13) C  dX4_reckon_13 ?_
  refine zv_iload_n (pc := 14) C rfl 2 rfl dX4_reckon_14 ?_
  refine zv_iload_n (pc := 15) C rfl 2 rfl dX4_reckon_15 ?_
  refine zv_imul (pc := 16) C  dX4_reckon_16 ?_
  refine zv_isub (pc := 17) C  dX4_reckon_17 ?_
  refine zv_topi (fun y_1 ey_1 => ?_)
  replace hF := hF y_1 ey_1
  refine zv_put (pc := 18) (CC := RX4) (T := TX4) (N := 11) (ci := 3) (v := .int y_1) (ty := .int) (ws' := (zd_X4_reckon cI adT qT0 qT1 qT2 qT3 qT4 qT5 qT6 qT7 adP qP0 qP1 qP2 qP3 qP4 (zset (zset (zset T 8 (fun _ => uv)) 9 (fun _ => v)) 10 (fun _ => y_1)) P)) C zi_X4_reckon_X4 tyX4 tyX4_ok nmX4 0 rfl 10 (by decide) zf_X4_reckon_43 rfl (by decide +kernel) rfl rfl rfl (Nat.le_of_ble_eq_true rfl) rfl dX4_reckon_18 ?_
  refine zv_aload_n (pc := 21) C rfl 0 rfl dX4_reckon_21 ?_
  refine zv_get (pc := 22) (CC := RX4) (T := TX4) (N := 11) (ci := 3) (v := .ref qT0) C zi_X4_reckon_X4 0 rfl 0 (by decide) zf_X4_reckon_9 rfl rfl dX4_reckon_22 ?_
  refine zv_iconst (pc := 25) (v := 1) C (by decide) dX4_reckon_25 ?_
  refine zv_cv0 (pc := 26) (ws' := (fun uz : zRow => (zd_X4_reckon cI adT qT0 qT1 qT2 qT3 qT4 qT5 qT6 qT7 adP qP0 qP1 qP2 qP3 qP4 (zset (zset (zset (zset T 0 uz) 8 (fun _ => uv)) 9 (fun _ => v)) 10 (fun _ => y_1)) P))) C (zv_runS (As := [.ref qT0, .int (1 : Int32)]) (rest := []) C (zc_X1_set l G cI qT0 8 (T 0) (1 : Int32) _ hF) (va_cwS 2 C.2.2.2.2.1 gX4_reckon_X1_set rfl rfl rfl zy_X1_set ⟨Nat.le_of_ble_eq_true rfl, Nat.le_of_ble_eq_true rfl⟩) rfl rfl (Nat.le_of_ble_eq_true rfl) ⟨Nat.zero_le _, Nat.zero_le _⟩ dX4_reckon_26) [1] [0, 2, 3, 4, 5, 6, 7, 8, 9, 10, 11, 12, 13, 14] rfl rfl rfl rfl rfl (fun _ => rfl) (fun _ => rfl) (fun _ => rfl) (fun uz hF => ?_)
  obtain ⟨r_2, hE⟩ : ∃ z, z = uz := ⟨_, rfl⟩; subst hE
  refine zv_aload_n (pc := 29) C rfl 0 rfl dX4_reckon_29 ?_
  refine zv_get (pc := 30) (CC := RX4) (T := TX4) (N := 11) (ci := 3) (v := .ref qT1) C zi_X4_reckon_X4 0 rfl 1 (by decide) zf_X4_reckon_15 rfl rfl dX4_reckon_30 ?_
  refine zv_iconst (pc := 33) (v := 0) C (by decide) dX4_reckon_33 ?_
  refine zv_cv0 (pc := 34) (ws' := (fun uz : zRow => (zd_X4_reckon cI adT qT0 qT1 qT2 qT3 qT4 qT5 qT6 qT7 adP qP0 qP1 qP2 qP3 qP4 (zset (zset (zset (zset (zset T 0 r_2) 1 uz) 8 (fun _ => uv)) 9 (fun _ => v)) 10 (fun _ => y_1)) P))) C (zv_runS (As := [.ref qT1, .int (0 : Int32)]) (rest := []) C (zc_X1_set l G cI qT1 8 (T 1) (0 : Int32) _ hF) (va_cwS 2 C.2.2.2.2.1 gX4_reckon_X1_set rfl rfl rfl zy_X1_set ⟨Nat.le_of_ble_eq_true rfl, Nat.le_of_ble_eq_true rfl⟩) rfl rfl (Nat.le_of_ble_eq_true rfl) ⟨Nat.zero_le _, Nat.zero_le _⟩ dX4_reckon_34) [2] [0, 1, 3, 4, 5, 6, 7, 8, 9, 10, 11, 12, 13, 14] rfl rfl rfl rfl rfl (fun _ => rfl) (fun _ => rfl) (fun _ => rfl) (fun uz hF => ?_)
  obtain ⟨r_3, hE⟩ : ∃ z, z = uz := ⟨_, rfl⟩; subst hE
  refine zv_aload_n (pc := 37) C rfl 0 rfl dX4_reckon_37 ?_
  refine zv_get (pc := 38) (CC := RX4) (T := TX4) (N := 11) (ci := 3) (v := .ref qT2) C zi_X4_reckon_X4 0 rfl 2 (by decide) zf_X4_reckon_18 rfl rfl dX4_reckon_38 ?_
  refine zv_iconst (pc := 41) (v := 0) C (by decide) dX4_reckon_41 ?_
  refine zv_cv0 (pc := 42) (ws' := (fun uz : zRow => (zd_X4_reckon cI adT qT0 qT1 qT2 qT3 qT4 qT5 qT6 qT7 adP qP0 qP1 qP2 qP3 qP4 (zset (zset (zset (zset (zset (zset T 0 r_2) 1 r_3) 2 uz) 8 (fun _ => uv)) 9 (fun _ => v)) 10 (fun _ => y_1)) P))) C (zv_runS (As := [.ref qT2, .int (0 : Int32)]) (rest := []) C (zc_X1_set l G cI qT2 8 (T 2) (0 : Int32) _ hF) (va_cwS 2 C.2.2.2.2.1 gX4_reckon_X1_set rfl rfl rfl zy_X1_set ⟨Nat.le_of_ble_eq_true rfl, Nat.le_of_ble_eq_true rfl⟩) rfl rfl (Nat.le_of_ble_eq_true rfl) ⟨Nat.zero_le _, Nat.zero_le _⟩ dX4_reckon_42) [3] [0, 1, 2, 4, 5, 6, 7, 8, 9, 10, 11, 12, 13, 14] rfl rfl rfl rfl rfl (fun _ => rfl) (fun _ => rfl) (fun _ => rfl) (fun uz hF => ?_)
  obtain ⟨r_4, hE⟩ : ∃ z, z = uz := ⟨_, rfl⟩; subst hE
  refine zv_aload_n (pc := 45) C rfl 0 rfl dX4_reckon_45 ?_
  refine zv_get (pc := 46) (CC := RX4) (T := TX4) (N := 11) (ci := 3) (v := .ref qT3) C zi_X4_reckon_X4 0 rfl 3 (by decide) zf_X4_reckon_21 rfl rfl dX4_reckon_46 ?_
  refine zv_iconst (pc := 49) (v := 1) C (by decide) dX4_reckon_49 ?_
  refine zv_cv0 (pc := 50) (ws' := (fun uz : zRow => (zd_X4_reckon cI adT qT0 qT1 qT2 qT3 qT4 qT5 qT6 qT7 adP qP0 qP1 qP2 qP3 qP4 (zset (zset (zset (zset (zset (zset (zset T 0 r_2) 1 r_3) 2 r_4) 3 uz) 8 (fun _ => uv)) 9 (fun _ => v)) 10 (fun _ => y_1)) P))) C (zv_runS (As := [.ref qT3, .int (1 : Int32)]) (rest := []) C (zc_X1_set l G cI qT3 8 (T 3) (1 : Int32) _ hF) (va_cwS 2 C.2.2.2.2.1 gX4_reckon_X1_set rfl rfl rfl zy_X1_set ⟨Nat.le_of_ble_eq_true rfl, Nat.le_of_ble_eq_true rfl⟩) rfl rfl (Nat.le_of_ble_eq_true rfl) ⟨Nat.zero_le _, Nat.zero_le _⟩ dX4_reckon_50) [4] [0, 1, 2, 3, 5, 6, 7, 8, 9, 10, 11, 12, 13, 14] rfl rfl rfl rfl rfl (fun _ => rfl) (fun _ => rfl) (fun _ => rfl) (fun uz hF => ?_)
  obtain ⟨r_5, hE⟩ : ∃ z, z = uz := ⟨_, rfl⟩; subst hE
  refine zv_aload_n (pc := 53) C rfl 0 rfl dX4_reckon_53 ?_
  refine zv_get (pc := 54) (CC := RX4) (T := TX4) (N := 11) (ci := 3) (v := .ref qT4) C zi_X4_reckon_X4 0 rfl 4 (by decide) zf_X4_reckon_24 rfl rfl dX4_reckon_54 ?_
  refine zv_iconst (pc := 57) (v := 1) C (by decide) dX4_reckon_57 ?_
  refine zv_cv0 (pc := 58) (ws' := (fun uz : zRow => (zd_X4_reckon cI adT qT0 qT1 qT2 qT3 qT4 qT5 qT6 qT7 adP qP0 qP1 qP2 qP3 qP4 (zset (zset (zset (zset (zset (zset (zset (zset T 0 r_2) 1 r_3) 2 r_4) 3 r_5) 4 uz) 8 (fun _ => uv)) 9 (fun _ => v)) 10 (fun _ => y_1)) P))) C (zv_runS (As := [.ref qT4, .int (1 : Int32)]) (rest := []) C (zc_X1_set l G cI qT4 8 (T 4) (1 : Int32) _ hF) (va_cwS 2 C.2.2.2.2.1 gX4_reckon_X1_set rfl rfl rfl zy_X1_set ⟨Nat.le_of_ble_eq_true rfl, Nat.le_of_ble_eq_true rfl⟩) rfl rfl (Nat.le_of_ble_eq_true rfl) ⟨Nat.zero_le _, Nat.zero_le _⟩ dX4_reckon_58) [5] [0, 1, 2, 3, 4, 6, 7, 8, 9, 10, 11, 12, 13, 14] rfl rfl rfl rfl rfl (fun _ => rfl) (fun _ => rfl) (fun _ => rfl) (fun uz hF => ?_)
  obtain ⟨r_6, hE⟩ : ∃ z, z = uz := ⟨_, rfl⟩; subst hE
  refine zv_iconst (pc := 61) (v := 0) C (by decide) dX4_reckon_61 ?_
  refine zv_istore (pc := 62) (lv' := [(4, .int (0 : Int32)), (0, .ref adT), (1, .ref adP), (2, .int uv), (3, .int v)]) C (by decide) rfl dX4_reckon_62 ?_
  obtain ⟨kf, hF⟩ := hF
  refine zv_lvs [1, 2, 0] rfl (zl_X4_reckon_64 adT qT0 qT1 qT2 qT3 qT4 qT5 qT6 qT7 adP qP0 qP1 qP2 qP3 qP4 P _ C ?_ kf (0 : Int32) (zset (zset (zset (zset (zset (zset (zset (zset T 0 r_2) 1 r_3) 2 r_4) 3 r_5) 4 r_6) 8 (fun _ => uv)) 9 (fun _ => v)) 10 (fun _ => y_1)) hF)
  · intro T_14 hF
    exact zv_vret (pc := 111) C hr hlk T_14 hF rfl dX4_reckon_111
theorem zf_X4_tellSize_24 : Cond.fieldLink RX4 24 "GlassStack$Table" "whole" "[I" ∈ wsX4_tellSize := (List.mem_of_getElem? (i := 4) rfl)
theorem zf_X4_tellSize_40 : Cond.fieldLink RX4 40 "GlassStack$Table" "cosineBelow" "I" ∈ wsX4_tellSize := (List.mem_of_getElem? (i := 2) rfl)
theorem zf_X4_tellSize_68 : Cond.fieldLink RX4 68 "GlassStack$Fraction" "upper" "[I" ∈ wsX4_tellSize := (List.mem_of_getElem? (i := 1) rfl)
theorem zf_X4_tellSize_85 : Cond.fieldLink RX4 85 "GlassStack$Fraction" "lower" "[I" ∈ wsX4_tellSize := (List.mem_of_getElem? (i := 3) rfl)
theorem zi_X4_tellSize_X0 : ∀ w ∈ wsX00, w ∈ wsX4_tellSize := fun w h => List.mem_cons_of_mem _ (List.mem_append_left _ (List.mem_append_right _ h))
theorem zi_X4_tellSize_X4 : ∀ w ∈ wsX40, w ∈ wsX4_tellSize := fun w h => List.mem_cons_of_mem _ (List.mem_append_right _ h)
theorem zy_X4_tellSize : yX4_tellSize.cls = RX4 ∧ yX4_tellSize.cls ≠ "java/lang/invoke/MethodHandle" ∧ yX4_tellSize.cls ≠ "java/lang/invoke/VarHandle" ∧ (parseMethodDescriptor yX4_tellSize.desc).map (fun d => d.parameters.length) = some 2 := by decide +kernel
set_option maxHeartbeats 4000000 in
set_option maxRecDepth 100000 in
theorem zc_X4_tellSize (l : Launch) (G : va_G) (cI : ClassId) (adT qT0 qT1 qT2 qT3 qT4 qT5 qT6 qT7 adF qF0 qF1 qF2 qF3 : Nat) (T : zMem) (F : zMem) (en : Int32) (post : zMem → Prop) (hF : zw_X4_tellSize T F en post) (sz : Nat) : Met l yX4_tellSize wsX4_tellSize rmX4_tellSize (va_Pc [.ref adT, .ref adF, .int en] (zv_in G cI (zd_X4_tellSize cI adT qT0 qT1 qT2 qT3 qT4 qT5 qT6 qT7 adF qF0 qF1 qF2 qF3 T F) sz)) (va_Qv (fun uz : zMem => post uz) (fun (uz : zMem) t => zv_out G cI (va_A (zd_X4_tellSize cI adT qT0 qT1 qT2 qT3 qT4 qT5 qT6 qT7 adF qF0 qF1 qF2 qF3 T F) sz) (zd_X4_tellSize cI adT qT0 qT1 qT2 qT3 qT4 qT5 qT6 qT7 adF qF0 qF1 qF2 qF3 T uz) t) (va_A (zd_X4_tellSize cI adT qT0 qT1 qT2 qT3 qT4 qT5 qT6 qT7 adF qF0 qF1 qF2 qF3 T F) sz)) 0 0 (va_A (zd_X4_tellSize cI adT qT0 qT1 qT2 qT3 qT4 qT5 qT6 qT7 adF qF0 qF1 qF2 qF3 T F) sz) := by
  refine zv_met (cc := cX4_tellSize) (maxL := 3) (ret := none) (lv0 := [(0, .ref adT), (1, .ref adF), (2, .int en)]) (Qc := fun A => va_Qv (fun uz : zMem => post uz) (fun (uz : zMem) t => zv_out G cI A (zd_X4_tellSize cI adT qT0 qT1 qT2 qT3 qT4 qT5 qT6 qT7 adF qF0 qF1 qF2 qF3 T uz) t) A) (by decide) rfl (Nat.le_of_ble_eq_true rfl) rfl ?_ sz
  intro p e s m below meth c A C hr hlk
  clear sz
  refine zv_aload_n (pc := 0) C rfl 1 rfl dX4_tellSize_0 ?_
  refine zv_get (pc := 1) (CC := RX0) (T := TX0) (N := 4) (ci := 0) (v := .ref qF0) C zi_X4_tellSize_X0 9 rfl 0 (by decide) zf_X4_tellSize_68 rfl rfl dX4_tellSize_1 ?_
  refine zv_aload_n (pc := 4) C rfl 0 rfl dX4_tellSize_4 ?_
  refine zv_iload_n (pc := 5) C rfl 2 rfl dX4_tellSize_5 ?_
  refine zv_cr0 (pc := 6) (ws' := (fun uz : Nat => (zd_X4_tellSize cI adT qT0 qT1 qT2 qT3 qT4 qT5 qT6 qT7 adF qF0 qF1 qF2 qF3 T F))) C (zv_runV (As := [.int en]) (b := adT) (rest := [.ref qF0]) (ci := 3) (q0 := 0) C (zc_X4_rowOf l G cI adT qT0 qT1 qT2 qT3 qT4 qT5 qT6 qT7 T en _ _ _ _ hF) (cwV 1 C.2.2.2.2.1 gX4_tellSize_X4_rowOf rfl rfl rfl zy_X4_rowOf ⟨Nat.le_of_ble_eq_true rfl, Nat.le_of_ble_eq_true rfl⟩) rfl rfl rfl rfl rfl (Nat.le_of_ble_eq_true rfl) ⟨Nat.zero_le _, Nat.zero_le _⟩ dX4_tellSize_6) [0, 1, 2, 3, 4, 5, 6, 7, 8] [9, 10, 11, 12, 13] rfl rfl rfl rfl rfl (fun _ => rfl) (fun _ => rfl) (fun _ => rfl) (fun u ra hF hra => ?_)
  rcases hF with ⟨rfl, hF⟩ | ⟨rfl, hF⟩ | ⟨rfl, hF⟩ | ⟨rfl, hF⟩
  · have hra2 : qT0 = ra := hra.symm
    subst hra2
    refine zv_cv0 (pc := 9) (ws' := (fun uz : zRow => (zd_X4_tellSize cI adT qT0 qT1 qT2 qT3 qT4 qT5 qT6 qT7 adF qF0 qF1 qF2 qF3 T (zset F 0 uz)))) C (zv_runS (As := [.ref qF0, .ref qT0]) (rest := []) C (zc_X1_putSize l G cI qF0 qT0 16 8 (F 0) (T 0) _ hF) (va_cwS 2 C.2.2.2.2.1 gX4_tellSize_X1_putSize rfl rfl rfl zy_X1_putSize ⟨Nat.le_of_ble_eq_true rfl, Nat.le_of_ble_eq_true rfl⟩) rfl rfl (Nat.le_of_ble_eq_true rfl) ⟨Nat.zero_le _, Nat.zero_le _⟩ dX4_tellSize_9) [10, 1] [0, 2, 3, 4, 5, 6, 7, 8, 9, 11, 12, 13] rfl rfl rfl rfl rfl (fun _ => rfl) (fun _ => rfl) (fun _ => rfl) (fun uz hF => ?_)
    obtain ⟨r_1, hE⟩ : ∃ z, z = uz := ⟨_, rfl⟩; subst hE
    refine zv_iload_n (pc := 12) C rfl 2 rfl dX4_tellSize_12 ?_
    refine zv_iconst (pc := 13) (v := 1) C (by decide) dX4_tellSize_13 ?_
    refine zv_icmp_eq (pc := 14) (tgt := 22) C dX4_tellSize_14 (by decide) (fun c_2 => ?_) (fun c_2 => ?_)
    · replace hF := And.left hF c_2
      refine zv_aload_n (pc := 22) C rfl 1 rfl dX4_tellSize_22 ?_
      refine zv_get (pc := 23) (CC := RX0) (T := TX0) (N := 4) (ci := 0) (v := .ref qF0) C zi_X4_tellSize_X0 9 rfl 0 (by decide) zf_X4_tellSize_68 rfl rfl dX4_tellSize_23 ?_
      refine zv_aload_n (pc := 26) C rfl 0 rfl dX4_tellSize_26 ?_
      refine zv_get (pc := 27) (CC := RX4) (T := TX4) (N := 11) (ci := 3) (v := .int (T 9 0)) C zi_X4_tellSize_X4 0 rfl 9 (by decide) zf_X4_tellSize_40 rfl rfl dX4_tellSize_27 ?_
      refine zv_i2l (pc := 30) C  dX4_tellSize_30 ?_
      refine zv_cv0 (pc := 31) (ws' := (fun uz : zRow => (zd_X4_tellSize cI adT qT0 qT1 qT2 qT3 qT4 qT5 qT6 qT7 adF qF0 qF1 qF2 qF3 T (zset F 0 uz)))) C (zv_runS (As := [.ref qF0, .long (Int32.toInt64 (T 9 0))]) (rest := []) C (zc_X1_scale l G cI qF0 16 r_1 (Int32.toInt64 (T 9 0)) _ hF) (va_cwS 2 C.2.2.2.2.1 gX4_tellSize_X1_scale rfl rfl rfl zy_X1_scale ⟨Nat.le_of_ble_eq_true rfl, Nat.le_of_ble_eq_true rfl⟩) rfl rfl (Nat.le_of_ble_eq_true rfl) ⟨Nat.zero_le _, Nat.zero_le _⟩ dX4_tellSize_31) [10] [0, 1, 2, 3, 4, 5, 6, 7, 8, 9, 11, 12, 13] rfl rfl rfl rfl rfl (fun _ => rfl) (fun _ => rfl) (fun _ => rfl) (fun uz hF => ?_)
      obtain ⟨r_3, hE⟩ : ∃ z, z = uz := ⟨_, rfl⟩; subst hE
      refine zv_aload_n (pc := 34) C rfl 1 rfl dX4_tellSize_34 ?_
      refine zv_get (pc := 35) (CC := RX0) (T := TX0) (N := 4) (ci := 0) (v := .ref qF1) C zi_X4_tellSize_X0 9 rfl 1 (by decide) zf_X4_tellSize_85 rfl rfl dX4_tellSize_35 ?_
      refine zv_aload_n (pc := 38) C rfl 0 rfl dX4_tellSize_38 ?_
      refine zv_get (pc := 39) (CC := RX4) (T := TX4) (N := 11) (ci := 3) (v := .ref qT4) C zi_X4_tellSize_X4 0 rfl 4 (by decide) zf_X4_tellSize_24 rfl rfl dX4_tellSize_39 ?_
      refine zv_cv0 (pc := 42) (ws' := (fun uz : zRow => (zd_X4_tellSize cI adT qT0 qT1 qT2 qT3 qT4 qT5 qT6 qT7 adF qF0 qF1 qF2 qF3 T (zset (zset F 0 r_3) 1 uz)))) C (zv_runS (As := [.ref qF1, .ref qT4]) (rest := []) C (zc_X1_put l G cI qF1 qT4 16 8 (F 1) (T 4) _ hF) (va_cwS 2 C.2.2.2.2.1 gX4_tellSize_X1_put rfl rfl rfl zy_X1_put ⟨Nat.le_of_ble_eq_true rfl, Nat.le_of_ble_eq_true rfl⟩) rfl rfl (Nat.le_of_ble_eq_true rfl) ⟨Nat.zero_le _, Nat.zero_le _⟩ dX4_tellSize_42) [11, 5] [0, 1, 2, 3, 4, 6, 7, 8, 9, 10, 12, 13] rfl rfl rfl rfl rfl (fun _ => rfl) (fun _ => rfl) (fun _ => rfl) (fun uz hF => ?_)
      obtain ⟨r_4, hE⟩ : ∃ z, z = uz := ⟨_, rfl⟩; subst hE
      exact zv_vret (pc := 45) C hr hlk (zset (zset F 0 r_3) 1 r_4) hF rfl dX4_tellSize_45
    · replace hF := And.right hF c_2
      refine zv_iload_n (pc := 17) C rfl 2 rfl dX4_tellSize_17 ?_
      refine zv_iconst (pc := 18) (v := 2) C (by decide) dX4_tellSize_18 ?_
      refine zv_icmp_ne (pc := 19) (tgt := 34) C dX4_tellSize_19 (by decide) (fun c_5 => ?_) (fun c_5 => ?_)
      · replace hF := And.left hF c_5
        refine zv_aload_n (pc := 34) C rfl 1 rfl dX4_tellSize_34 ?_
        refine zv_get (pc := 35) (CC := RX0) (T := TX0) (N := 4) (ci := 0) (v := .ref qF1) C zi_X4_tellSize_X0 9 rfl 1 (by decide) zf_X4_tellSize_85 rfl rfl dX4_tellSize_35 ?_
        refine zv_aload_n (pc := 38) C rfl 0 rfl dX4_tellSize_38 ?_
        refine zv_get (pc := 39) (CC := RX4) (T := TX4) (N := 11) (ci := 3) (v := .ref qT4) C zi_X4_tellSize_X4 0 rfl 4 (by decide) zf_X4_tellSize_24 rfl rfl dX4_tellSize_39 ?_
        refine zv_cv0 (pc := 42) (ws' := (fun uz : zRow => (zd_X4_tellSize cI adT qT0 qT1 qT2 qT3 qT4 qT5 qT6 qT7 adF qF0 qF1 qF2 qF3 T (zset (zset F 0 r_1) 1 uz)))) C (zv_runS (As := [.ref qF1, .ref qT4]) (rest := []) C (zc_X1_put l G cI qF1 qT4 16 8 (F 1) (T 4) _ hF) (va_cwS 2 C.2.2.2.2.1 gX4_tellSize_X1_put rfl rfl rfl zy_X1_put ⟨Nat.le_of_ble_eq_true rfl, Nat.le_of_ble_eq_true rfl⟩) rfl rfl (Nat.le_of_ble_eq_true rfl) ⟨Nat.zero_le _, Nat.zero_le _⟩ dX4_tellSize_42) [11, 5] [0, 1, 2, 3, 4, 6, 7, 8, 9, 10, 12, 13] rfl rfl rfl rfl rfl (fun _ => rfl) (fun _ => rfl) (fun _ => rfl) (fun uz hF => ?_)
        obtain ⟨r_6, hE⟩ : ∃ z, z = uz := ⟨_, rfl⟩; subst hE
        exact zv_vret (pc := 45) C hr hlk (zset (zset F 0 r_1) 1 r_6) hF rfl dX4_tellSize_45
      · replace hF := And.right hF c_5
        refine zv_aload_n (pc := 22) C rfl 1 rfl dX4_tellSize_22 ?_
        refine zv_get (pc := 23) (CC := RX0) (T := TX0) (N := 4) (ci := 0) (v := .ref qF0) C zi_X4_tellSize_X0 9 rfl 0 (by decide) zf_X4_tellSize_68 rfl rfl dX4_tellSize_23 ?_
        refine zv_aload_n (pc := 26) C rfl 0 rfl dX4_tellSize_26 ?_
        refine zv_get (pc := 27) (CC := RX4) (T := TX4) (N := 11) (ci := 3) (v := .int (T 9 0)) C zi_X4_tellSize_X4 0 rfl 9 (by decide) zf_X4_tellSize_40 rfl rfl dX4_tellSize_27 ?_
        refine zv_i2l (pc := 30) C  dX4_tellSize_30 ?_
        refine zv_cv0 (pc := 31) (ws' := (fun uz : zRow => (zd_X4_tellSize cI adT qT0 qT1 qT2 qT3 qT4 qT5 qT6 qT7 adF qF0 qF1 qF2 qF3 T (zset F 0 uz)))) C (zv_runS (As := [.ref qF0, .long (Int32.toInt64 (T 9 0))]) (rest := []) C (zc_X1_scale l G cI qF0 16 r_1 (Int32.toInt64 (T 9 0)) _ hF) (va_cwS 2 C.2.2.2.2.1 gX4_tellSize_X1_scale rfl rfl rfl zy_X1_scale ⟨Nat.le_of_ble_eq_true rfl, Nat.le_of_ble_eq_true rfl⟩) rfl rfl (Nat.le_of_ble_eq_true rfl) ⟨Nat.zero_le _, Nat.zero_le _⟩ dX4_tellSize_31) [10] [0, 1, 2, 3, 4, 5, 6, 7, 8, 9, 11, 12, 13] rfl rfl rfl rfl rfl (fun _ => rfl) (fun _ => rfl) (fun _ => rfl) (fun uz hF => ?_)
        obtain ⟨r_7, hE⟩ : ∃ z, z = uz := ⟨_, rfl⟩; subst hE
        refine zv_aload_n (pc := 34) C rfl 1 rfl dX4_tellSize_34 ?_
        refine zv_get (pc := 35) (CC := RX0) (T := TX0) (N := 4) (ci := 0) (v := .ref qF1) C zi_X4_tellSize_X0 9 rfl 1 (by decide) zf_X4_tellSize_85 rfl rfl dX4_tellSize_35 ?_
        refine zv_aload_n (pc := 38) C rfl 0 rfl dX4_tellSize_38 ?_
        refine zv_get (pc := 39) (CC := RX4) (T := TX4) (N := 11) (ci := 3) (v := .ref qT4) C zi_X4_tellSize_X4 0 rfl 4 (by decide) zf_X4_tellSize_24 rfl rfl dX4_tellSize_39 ?_
        refine zv_cv0 (pc := 42) (ws' := (fun uz : zRow => (zd_X4_tellSize cI adT qT0 qT1 qT2 qT3 qT4 qT5 qT6 qT7 adF qF0 qF1 qF2 qF3 T (zset (zset F 0 r_7) 1 uz)))) C (zv_runS (As := [.ref qF1, .ref qT4]) (rest := []) C (zc_X1_put l G cI qF1 qT4 16 8 (F 1) (T 4) _ hF) (va_cwS 2 C.2.2.2.2.1 gX4_tellSize_X1_put rfl rfl rfl zy_X1_put ⟨Nat.le_of_ble_eq_true rfl, Nat.le_of_ble_eq_true rfl⟩) rfl rfl (Nat.le_of_ble_eq_true rfl) ⟨Nat.zero_le _, Nat.zero_le _⟩ dX4_tellSize_42) [11, 5] [0, 1, 2, 3, 4, 6, 7, 8, 9, 10, 12, 13] rfl rfl rfl rfl rfl (fun _ => rfl) (fun _ => rfl) (fun _ => rfl) (fun uz hF => ?_)
        obtain ⟨r_8, hE⟩ : ∃ z, z = uz := ⟨_, rfl⟩; subst hE
        exact zv_vret (pc := 45) C hr hlk (zset (zset F 0 r_7) 1 r_8) hF rfl dX4_tellSize_45
  · have hra2 : qT1 = ra := hra.symm
    subst hra2
    refine zv_cv0 (pc := 9) (ws' := (fun uz : zRow => (zd_X4_tellSize cI adT qT0 qT1 qT2 qT3 qT4 qT5 qT6 qT7 adF qF0 qF1 qF2 qF3 T (zset F 0 uz)))) C (zv_runS (As := [.ref qF0, .ref qT1]) (rest := []) C (zc_X1_putSize l G cI qF0 qT1 16 8 (F 0) (T 1) _ hF) (va_cwS 2 C.2.2.2.2.1 gX4_tellSize_X1_putSize rfl rfl rfl zy_X1_putSize ⟨Nat.le_of_ble_eq_true rfl, Nat.le_of_ble_eq_true rfl⟩) rfl rfl (Nat.le_of_ble_eq_true rfl) ⟨Nat.zero_le _, Nat.zero_le _⟩ dX4_tellSize_9) [10, 2] [0, 1, 3, 4, 5, 6, 7, 8, 9, 11, 12, 13] rfl rfl rfl rfl rfl (fun _ => rfl) (fun _ => rfl) (fun _ => rfl) (fun uz hF => ?_)
    obtain ⟨r_9, hE⟩ : ∃ z, z = uz := ⟨_, rfl⟩; subst hE
    refine zv_iload_n (pc := 12) C rfl 2 rfl dX4_tellSize_12 ?_
    refine zv_iconst (pc := 13) (v := 1) C (by decide) dX4_tellSize_13 ?_
    refine zv_icmp_eq (pc := 14) (tgt := 22) C dX4_tellSize_14 (by decide) (fun c_10 => ?_) (fun c_10 => ?_)
    · replace hF := And.left hF c_10
      refine zv_aload_n (pc := 22) C rfl 1 rfl dX4_tellSize_22 ?_
      refine zv_get (pc := 23) (CC := RX0) (T := TX0) (N := 4) (ci := 0) (v := .ref qF0) C zi_X4_tellSize_X0 9 rfl 0 (by decide) zf_X4_tellSize_68 rfl rfl dX4_tellSize_23 ?_
      refine zv_aload_n (pc := 26) C rfl 0 rfl dX4_tellSize_26 ?_
      refine zv_get (pc := 27) (CC := RX4) (T := TX4) (N := 11) (ci := 3) (v := .int (T 9 0)) C zi_X4_tellSize_X4 0 rfl 9 (by decide) zf_X4_tellSize_40 rfl rfl dX4_tellSize_27 ?_
      refine zv_i2l (pc := 30) C  dX4_tellSize_30 ?_
      refine zv_cv0 (pc := 31) (ws' := (fun uz : zRow => (zd_X4_tellSize cI adT qT0 qT1 qT2 qT3 qT4 qT5 qT6 qT7 adF qF0 qF1 qF2 qF3 T (zset F 0 uz)))) C (zv_runS (As := [.ref qF0, .long (Int32.toInt64 (T 9 0))]) (rest := []) C (zc_X1_scale l G cI qF0 16 r_9 (Int32.toInt64 (T 9 0)) _ hF) (va_cwS 2 C.2.2.2.2.1 gX4_tellSize_X1_scale rfl rfl rfl zy_X1_scale ⟨Nat.le_of_ble_eq_true rfl, Nat.le_of_ble_eq_true rfl⟩) rfl rfl (Nat.le_of_ble_eq_true rfl) ⟨Nat.zero_le _, Nat.zero_le _⟩ dX4_tellSize_31) [10] [0, 1, 2, 3, 4, 5, 6, 7, 8, 9, 11, 12, 13] rfl rfl rfl rfl rfl (fun _ => rfl) (fun _ => rfl) (fun _ => rfl) (fun uz hF => ?_)
      obtain ⟨r_11, hE⟩ : ∃ z, z = uz := ⟨_, rfl⟩; subst hE
      refine zv_aload_n (pc := 34) C rfl 1 rfl dX4_tellSize_34 ?_
      refine zv_get (pc := 35) (CC := RX0) (T := TX0) (N := 4) (ci := 0) (v := .ref qF1) C zi_X4_tellSize_X0 9 rfl 1 (by decide) zf_X4_tellSize_85 rfl rfl dX4_tellSize_35 ?_
      refine zv_aload_n (pc := 38) C rfl 0 rfl dX4_tellSize_38 ?_
      refine zv_get (pc := 39) (CC := RX4) (T := TX4) (N := 11) (ci := 3) (v := .ref qT4) C zi_X4_tellSize_X4 0 rfl 4 (by decide) zf_X4_tellSize_24 rfl rfl dX4_tellSize_39 ?_
      refine zv_cv0 (pc := 42) (ws' := (fun uz : zRow => (zd_X4_tellSize cI adT qT0 qT1 qT2 qT3 qT4 qT5 qT6 qT7 adF qF0 qF1 qF2 qF3 T (zset (zset F 0 r_11) 1 uz)))) C (zv_runS (As := [.ref qF1, .ref qT4]) (rest := []) C (zc_X1_put l G cI qF1 qT4 16 8 (F 1) (T 4) _ hF) (va_cwS 2 C.2.2.2.2.1 gX4_tellSize_X1_put rfl rfl rfl zy_X1_put ⟨Nat.le_of_ble_eq_true rfl, Nat.le_of_ble_eq_true rfl⟩) rfl rfl (Nat.le_of_ble_eq_true rfl) ⟨Nat.zero_le _, Nat.zero_le _⟩ dX4_tellSize_42) [11, 5] [0, 1, 2, 3, 4, 6, 7, 8, 9, 10, 12, 13] rfl rfl rfl rfl rfl (fun _ => rfl) (fun _ => rfl) (fun _ => rfl) (fun uz hF => ?_)
      obtain ⟨r_12, hE⟩ : ∃ z, z = uz := ⟨_, rfl⟩; subst hE
      exact zv_vret (pc := 45) C hr hlk (zset (zset F 0 r_11) 1 r_12) hF rfl dX4_tellSize_45
    · replace hF := And.right hF c_10
      refine zv_iload_n (pc := 17) C rfl 2 rfl dX4_tellSize_17 ?_
      refine zv_iconst (pc := 18) (v := 2) C (by decide) dX4_tellSize_18 ?_
      refine zv_icmp_ne (pc := 19) (tgt := 34) C dX4_tellSize_19 (by decide) (fun c_13 => ?_) (fun c_13 => ?_)
      · replace hF := And.left hF c_13
        refine zv_aload_n (pc := 34) C rfl 1 rfl dX4_tellSize_34 ?_
        refine zv_get (pc := 35) (CC := RX0) (T := TX0) (N := 4) (ci := 0) (v := .ref qF1) C zi_X4_tellSize_X0 9 rfl 1 (by decide) zf_X4_tellSize_85 rfl rfl dX4_tellSize_35 ?_
        refine zv_aload_n (pc := 38) C rfl 0 rfl dX4_tellSize_38 ?_
        refine zv_get (pc := 39) (CC := RX4) (T := TX4) (N := 11) (ci := 3) (v := .ref qT4) C zi_X4_tellSize_X4 0 rfl 4 (by decide) zf_X4_tellSize_24 rfl rfl dX4_tellSize_39 ?_
        refine zv_cv0 (pc := 42) (ws' := (fun uz : zRow => (zd_X4_tellSize cI adT qT0 qT1 qT2 qT3 qT4 qT5 qT6 qT7 adF qF0 qF1 qF2 qF3 T (zset (zset F 0 r_9) 1 uz)))) C (zv_runS (As := [.ref qF1, .ref qT4]) (rest := []) C (zc_X1_put l G cI qF1 qT4 16 8 (F 1) (T 4) _ hF) (va_cwS 2 C.2.2.2.2.1 gX4_tellSize_X1_put rfl rfl rfl zy_X1_put ⟨Nat.le_of_ble_eq_true rfl, Nat.le_of_ble_eq_true rfl⟩) rfl rfl (Nat.le_of_ble_eq_true rfl) ⟨Nat.zero_le _, Nat.zero_le _⟩ dX4_tellSize_42) [11, 5] [0, 1, 2, 3, 4, 6, 7, 8, 9, 10, 12, 13] rfl rfl rfl rfl rfl (fun _ => rfl) (fun _ => rfl) (fun _ => rfl) (fun uz hF => ?_)
        obtain ⟨r_14, hE⟩ : ∃ z, z = uz := ⟨_, rfl⟩; subst hE
        exact zv_vret (pc := 45) C hr hlk (zset (zset F 0 r_9) 1 r_14) hF rfl dX4_tellSize_45
      · replace hF := And.right hF c_13
        refine zv_aload_n (pc := 22) C rfl 1 rfl dX4_tellSize_22 ?_
        refine zv_get (pc := 23) (CC := RX0) (T := TX0) (N := 4) (ci := 0) (v := .ref qF0) C zi_X4_tellSize_X0 9 rfl 0 (by decide) zf_X4_tellSize_68 rfl rfl dX4_tellSize_23 ?_
        refine zv_aload_n (pc := 26) C rfl 0 rfl dX4_tellSize_26 ?_
        refine zv_get (pc := 27) (CC := RX4) (T := TX4) (N := 11) (ci := 3) (v := .int (T 9 0)) C zi_X4_tellSize_X4 0 rfl 9 (by decide) zf_X4_tellSize_40 rfl rfl dX4_tellSize_27 ?_
        refine zv_i2l (pc := 30) C  dX4_tellSize_30 ?_
        refine zv_cv0 (pc := 31) (ws' := (fun uz : zRow => (zd_X4_tellSize cI adT qT0 qT1 qT2 qT3 qT4 qT5 qT6 qT7 adF qF0 qF1 qF2 qF3 T (zset F 0 uz)))) C (zv_runS (As := [.ref qF0, .long (Int32.toInt64 (T 9 0))]) (rest := []) C (zc_X1_scale l G cI qF0 16 r_9 (Int32.toInt64 (T 9 0)) _ hF) (va_cwS 2 C.2.2.2.2.1 gX4_tellSize_X1_scale rfl rfl rfl zy_X1_scale ⟨Nat.le_of_ble_eq_true rfl, Nat.le_of_ble_eq_true rfl⟩) rfl rfl (Nat.le_of_ble_eq_true rfl) ⟨Nat.zero_le _, Nat.zero_le _⟩ dX4_tellSize_31) [10] [0, 1, 2, 3, 4, 5, 6, 7, 8, 9, 11, 12, 13] rfl rfl rfl rfl rfl (fun _ => rfl) (fun _ => rfl) (fun _ => rfl) (fun uz hF => ?_)
        obtain ⟨r_15, hE⟩ : ∃ z, z = uz := ⟨_, rfl⟩; subst hE
        refine zv_aload_n (pc := 34) C rfl 1 rfl dX4_tellSize_34 ?_
        refine zv_get (pc := 35) (CC := RX0) (T := TX0) (N := 4) (ci := 0) (v := .ref qF1) C zi_X4_tellSize_X0 9 rfl 1 (by decide) zf_X4_tellSize_85 rfl rfl dX4_tellSize_35 ?_
        refine zv_aload_n (pc := 38) C rfl 0 rfl dX4_tellSize_38 ?_
        refine zv_get (pc := 39) (CC := RX4) (T := TX4) (N := 11) (ci := 3) (v := .ref qT4) C zi_X4_tellSize_X4 0 rfl 4 (by decide) zf_X4_tellSize_24 rfl rfl dX4_tellSize_39 ?_
        refine zv_cv0 (pc := 42) (ws' := (fun uz : zRow => (zd_X4_tellSize cI adT qT0 qT1 qT2 qT3 qT4 qT5 qT6 qT7 adF qF0 qF1 qF2 qF3 T (zset (zset F 0 r_15) 1 uz)))) C (zv_runS (As := [.ref qF1, .ref qT4]) (rest := []) C (zc_X1_put l G cI qF1 qT4 16 8 (F 1) (T 4) _ hF) (va_cwS 2 C.2.2.2.2.1 gX4_tellSize_X1_put rfl rfl rfl zy_X1_put ⟨Nat.le_of_ble_eq_true rfl, Nat.le_of_ble_eq_true rfl⟩) rfl rfl (Nat.le_of_ble_eq_true rfl) ⟨Nat.zero_le _, Nat.zero_le _⟩ dX4_tellSize_42) [11, 5] [0, 1, 2, 3, 4, 6, 7, 8, 9, 10, 12, 13] rfl rfl rfl rfl rfl (fun _ => rfl) (fun _ => rfl) (fun _ => rfl) (fun uz hF => ?_)
        obtain ⟨r_16, hE⟩ : ∃ z, z = uz := ⟨_, rfl⟩; subst hE
        exact zv_vret (pc := 45) C hr hlk (zset (zset F 0 r_15) 1 r_16) hF rfl dX4_tellSize_45
  · have hra2 : qT2 = ra := hra.symm
    subst hra2
    refine zv_cv0 (pc := 9) (ws' := (fun uz : zRow => (zd_X4_tellSize cI adT qT0 qT1 qT2 qT3 qT4 qT5 qT6 qT7 adF qF0 qF1 qF2 qF3 T (zset F 0 uz)))) C (zv_runS (As := [.ref qF0, .ref qT2]) (rest := []) C (zc_X1_putSize l G cI qF0 qT2 16 8 (F 0) (T 2) _ hF) (va_cwS 2 C.2.2.2.2.1 gX4_tellSize_X1_putSize rfl rfl rfl zy_X1_putSize ⟨Nat.le_of_ble_eq_true rfl, Nat.le_of_ble_eq_true rfl⟩) rfl rfl (Nat.le_of_ble_eq_true rfl) ⟨Nat.zero_le _, Nat.zero_le _⟩ dX4_tellSize_9) [10, 3] [0, 1, 2, 4, 5, 6, 7, 8, 9, 11, 12, 13] rfl rfl rfl rfl rfl (fun _ => rfl) (fun _ => rfl) (fun _ => rfl) (fun uz hF => ?_)
    obtain ⟨r_17, hE⟩ : ∃ z, z = uz := ⟨_, rfl⟩; subst hE
    refine zv_iload_n (pc := 12) C rfl 2 rfl dX4_tellSize_12 ?_
    refine zv_iconst (pc := 13) (v := 1) C (by decide) dX4_tellSize_13 ?_
    refine zv_icmp_eq (pc := 14) (tgt := 22) C dX4_tellSize_14 (by decide) (fun c_18 => ?_) (fun c_18 => ?_)
    · replace hF := And.left hF c_18
      refine zv_aload_n (pc := 22) C rfl 1 rfl dX4_tellSize_22 ?_
      refine zv_get (pc := 23) (CC := RX0) (T := TX0) (N := 4) (ci := 0) (v := .ref qF0) C zi_X4_tellSize_X0 9 rfl 0 (by decide) zf_X4_tellSize_68 rfl rfl dX4_tellSize_23 ?_
      refine zv_aload_n (pc := 26) C rfl 0 rfl dX4_tellSize_26 ?_
      refine zv_get (pc := 27) (CC := RX4) (T := TX4) (N := 11) (ci := 3) (v := .int (T 9 0)) C zi_X4_tellSize_X4 0 rfl 9 (by decide) zf_X4_tellSize_40 rfl rfl dX4_tellSize_27 ?_
      refine zv_i2l (pc := 30) C  dX4_tellSize_30 ?_
      refine zv_cv0 (pc := 31) (ws' := (fun uz : zRow => (zd_X4_tellSize cI adT qT0 qT1 qT2 qT3 qT4 qT5 qT6 qT7 adF qF0 qF1 qF2 qF3 T (zset F 0 uz)))) C (zv_runS (As := [.ref qF0, .long (Int32.toInt64 (T 9 0))]) (rest := []) C (zc_X1_scale l G cI qF0 16 r_17 (Int32.toInt64 (T 9 0)) _ hF) (va_cwS 2 C.2.2.2.2.1 gX4_tellSize_X1_scale rfl rfl rfl zy_X1_scale ⟨Nat.le_of_ble_eq_true rfl, Nat.le_of_ble_eq_true rfl⟩) rfl rfl (Nat.le_of_ble_eq_true rfl) ⟨Nat.zero_le _, Nat.zero_le _⟩ dX4_tellSize_31) [10] [0, 1, 2, 3, 4, 5, 6, 7, 8, 9, 11, 12, 13] rfl rfl rfl rfl rfl (fun _ => rfl) (fun _ => rfl) (fun _ => rfl) (fun uz hF => ?_)
      obtain ⟨r_19, hE⟩ : ∃ z, z = uz := ⟨_, rfl⟩; subst hE
      refine zv_aload_n (pc := 34) C rfl 1 rfl dX4_tellSize_34 ?_
      refine zv_get (pc := 35) (CC := RX0) (T := TX0) (N := 4) (ci := 0) (v := .ref qF1) C zi_X4_tellSize_X0 9 rfl 1 (by decide) zf_X4_tellSize_85 rfl rfl dX4_tellSize_35 ?_
      refine zv_aload_n (pc := 38) C rfl 0 rfl dX4_tellSize_38 ?_
      refine zv_get (pc := 39) (CC := RX4) (T := TX4) (N := 11) (ci := 3) (v := .ref qT4) C zi_X4_tellSize_X4 0 rfl 4 (by decide) zf_X4_tellSize_24 rfl rfl dX4_tellSize_39 ?_
      refine zv_cv0 (pc := 42) (ws' := (fun uz : zRow => (zd_X4_tellSize cI adT qT0 qT1 qT2 qT3 qT4 qT5 qT6 qT7 adF qF0 qF1 qF2 qF3 T (zset (zset F 0 r_19) 1 uz)))) C (zv_runS (As := [.ref qF1, .ref qT4]) (rest := []) C (zc_X1_put l G cI qF1 qT4 16 8 (F 1) (T 4) _ hF) (va_cwS 2 C.2.2.2.2.1 gX4_tellSize_X1_put rfl rfl rfl zy_X1_put ⟨Nat.le_of_ble_eq_true rfl, Nat.le_of_ble_eq_true rfl⟩) rfl rfl (Nat.le_of_ble_eq_true rfl) ⟨Nat.zero_le _, Nat.zero_le _⟩ dX4_tellSize_42) [11, 5] [0, 1, 2, 3, 4, 6, 7, 8, 9, 10, 12, 13] rfl rfl rfl rfl rfl (fun _ => rfl) (fun _ => rfl) (fun _ => rfl) (fun uz hF => ?_)
      obtain ⟨r_20, hE⟩ : ∃ z, z = uz := ⟨_, rfl⟩; subst hE
      exact zv_vret (pc := 45) C hr hlk (zset (zset F 0 r_19) 1 r_20) hF rfl dX4_tellSize_45
    · replace hF := And.right hF c_18
      refine zv_iload_n (pc := 17) C rfl 2 rfl dX4_tellSize_17 ?_
      refine zv_iconst (pc := 18) (v := 2) C (by decide) dX4_tellSize_18 ?_
      refine zv_icmp_ne (pc := 19) (tgt := 34) C dX4_tellSize_19 (by decide) (fun c_21 => ?_) (fun c_21 => ?_)
      · replace hF := And.left hF c_21
        refine zv_aload_n (pc := 34) C rfl 1 rfl dX4_tellSize_34 ?_
        refine zv_get (pc := 35) (CC := RX0) (T := TX0) (N := 4) (ci := 0) (v := .ref qF1) C zi_X4_tellSize_X0 9 rfl 1 (by decide) zf_X4_tellSize_85 rfl rfl dX4_tellSize_35 ?_
        refine zv_aload_n (pc := 38) C rfl 0 rfl dX4_tellSize_38 ?_
        refine zv_get (pc := 39) (CC := RX4) (T := TX4) (N := 11) (ci := 3) (v := .ref qT4) C zi_X4_tellSize_X4 0 rfl 4 (by decide) zf_X4_tellSize_24 rfl rfl dX4_tellSize_39 ?_
        refine zv_cv0 (pc := 42) (ws' := (fun uz : zRow => (zd_X4_tellSize cI adT qT0 qT1 qT2 qT3 qT4 qT5 qT6 qT7 adF qF0 qF1 qF2 qF3 T (zset (zset F 0 r_17) 1 uz)))) C (zv_runS (As := [.ref qF1, .ref qT4]) (rest := []) C (zc_X1_put l G cI qF1 qT4 16 8 (F 1) (T 4) _ hF) (va_cwS 2 C.2.2.2.2.1 gX4_tellSize_X1_put rfl rfl rfl zy_X1_put ⟨Nat.le_of_ble_eq_true rfl, Nat.le_of_ble_eq_true rfl⟩) rfl rfl (Nat.le_of_ble_eq_true rfl) ⟨Nat.zero_le _, Nat.zero_le _⟩ dX4_tellSize_42) [11, 5] [0, 1, 2, 3, 4, 6, 7, 8, 9, 10, 12, 13] rfl rfl rfl rfl rfl (fun _ => rfl) (fun _ => rfl) (fun _ => rfl) (fun uz hF => ?_)
        obtain ⟨r_22, hE⟩ : ∃ z, z = uz := ⟨_, rfl⟩; subst hE
        exact zv_vret (pc := 45) C hr hlk (zset (zset F 0 r_17) 1 r_22) hF rfl dX4_tellSize_45
      · replace hF := And.right hF c_21
        refine zv_aload_n (pc := 22) C rfl 1 rfl dX4_tellSize_22 ?_
        refine zv_get (pc := 23) (CC := RX0) (T := TX0) (N := 4) (ci := 0) (v := .ref qF0) C zi_X4_tellSize_X0 9 rfl 0 (by decide) zf_X4_tellSize_68 rfl rfl dX4_tellSize_23 ?_
        refine zv_aload_n (pc := 26) C rfl 0 rfl dX4_tellSize_26 ?_
        refine zv_get (pc := 27) (CC := RX4) (T := TX4) (N := 11) (ci := 3) (v := .int (T 9 0)) C zi_X4_tellSize_X4 0 rfl 9 (by decide) zf_X4_tellSize_40 rfl rfl dX4_tellSize_27 ?_
        refine zv_i2l (pc := 30) C  dX4_tellSize_30 ?_
        refine zv_cv0 (pc := 31) (ws' := (fun uz : zRow => (zd_X4_tellSize cI adT qT0 qT1 qT2 qT3 qT4 qT5 qT6 qT7 adF qF0 qF1 qF2 qF3 T (zset F 0 uz)))) C (zv_runS (As := [.ref qF0, .long (Int32.toInt64 (T 9 0))]) (rest := []) C (zc_X1_scale l G cI qF0 16 r_17 (Int32.toInt64 (T 9 0)) _ hF) (va_cwS 2 C.2.2.2.2.1 gX4_tellSize_X1_scale rfl rfl rfl zy_X1_scale ⟨Nat.le_of_ble_eq_true rfl, Nat.le_of_ble_eq_true rfl⟩) rfl rfl (Nat.le_of_ble_eq_true rfl) ⟨Nat.zero_le _, Nat.zero_le _⟩ dX4_tellSize_31) [10] [0, 1, 2, 3, 4, 5, 6, 7, 8, 9, 11, 12, 13] rfl rfl rfl rfl rfl (fun _ => rfl) (fun _ => rfl) (fun _ => rfl) (fun uz hF => ?_)
        obtain ⟨r_23, hE⟩ : ∃ z, z = uz := ⟨_, rfl⟩; subst hE
        refine zv_aload_n (pc := 34) C rfl 1 rfl dX4_tellSize_34 ?_
        refine zv_get (pc := 35) (CC := RX0) (T := TX0) (N := 4) (ci := 0) (v := .ref qF1) C zi_X4_tellSize_X0 9 rfl 1 (by decide) zf_X4_tellSize_85 rfl rfl dX4_tellSize_35 ?_
        refine zv_aload_n (pc := 38) C rfl 0 rfl dX4_tellSize_38 ?_
        refine zv_get (pc := 39) (CC := RX4) (T := TX4) (N := 11) (ci := 3) (v := .ref qT4) C zi_X4_tellSize_X4 0 rfl 4 (by decide) zf_X4_tellSize_24 rfl rfl dX4_tellSize_39 ?_
        refine zv_cv0 (pc := 42) (ws' := (fun uz : zRow => (zd_X4_tellSize cI adT qT0 qT1 qT2 qT3 qT4 qT5 qT6 qT7 adF qF0 qF1 qF2 qF3 T (zset (zset F 0 r_23) 1 uz)))) C (zv_runS (As := [.ref qF1, .ref qT4]) (rest := []) C (zc_X1_put l G cI qF1 qT4 16 8 (F 1) (T 4) _ hF) (va_cwS 2 C.2.2.2.2.1 gX4_tellSize_X1_put rfl rfl rfl zy_X1_put ⟨Nat.le_of_ble_eq_true rfl, Nat.le_of_ble_eq_true rfl⟩) rfl rfl (Nat.le_of_ble_eq_true rfl) ⟨Nat.zero_le _, Nat.zero_le _⟩ dX4_tellSize_42) [11, 5] [0, 1, 2, 3, 4, 6, 7, 8, 9, 10, 12, 13] rfl rfl rfl rfl rfl (fun _ => rfl) (fun _ => rfl) (fun _ => rfl) (fun uz hF => ?_)
        obtain ⟨r_24, hE⟩ : ∃ z, z = uz := ⟨_, rfl⟩; subst hE
        exact zv_vret (pc := 45) C hr hlk (zset (zset F 0 r_23) 1 r_24) hF rfl dX4_tellSize_45
  · have hra2 : qT3 = ra := hra.symm
    subst hra2
    refine zv_cv0 (pc := 9) (ws' := (fun uz : zRow => (zd_X4_tellSize cI adT qT0 qT1 qT2 qT3 qT4 qT5 qT6 qT7 adF qF0 qF1 qF2 qF3 T (zset F 0 uz)))) C (zv_runS (As := [.ref qF0, .ref qT3]) (rest := []) C (zc_X1_putSize l G cI qF0 qT3 16 8 (F 0) (T 3) _ hF) (va_cwS 2 C.2.2.2.2.1 gX4_tellSize_X1_putSize rfl rfl rfl zy_X1_putSize ⟨Nat.le_of_ble_eq_true rfl, Nat.le_of_ble_eq_true rfl⟩) rfl rfl (Nat.le_of_ble_eq_true rfl) ⟨Nat.zero_le _, Nat.zero_le _⟩ dX4_tellSize_9) [10, 4] [0, 1, 2, 3, 5, 6, 7, 8, 9, 11, 12, 13] rfl rfl rfl rfl rfl (fun _ => rfl) (fun _ => rfl) (fun _ => rfl) (fun uz hF => ?_)
    obtain ⟨r_25, hE⟩ : ∃ z, z = uz := ⟨_, rfl⟩; subst hE
    refine zv_iload_n (pc := 12) C rfl 2 rfl dX4_tellSize_12 ?_
    refine zv_iconst (pc := 13) (v := 1) C (by decide) dX4_tellSize_13 ?_
    refine zv_icmp_eq (pc := 14) (tgt := 22) C dX4_tellSize_14 (by decide) (fun c_26 => ?_) (fun c_26 => ?_)
    · replace hF := And.left hF c_26
      refine zv_aload_n (pc := 22) C rfl 1 rfl dX4_tellSize_22 ?_
      refine zv_get (pc := 23) (CC := RX0) (T := TX0) (N := 4) (ci := 0) (v := .ref qF0) C zi_X4_tellSize_X0 9 rfl 0 (by decide) zf_X4_tellSize_68 rfl rfl dX4_tellSize_23 ?_
      refine zv_aload_n (pc := 26) C rfl 0 rfl dX4_tellSize_26 ?_
      refine zv_get (pc := 27) (CC := RX4) (T := TX4) (N := 11) (ci := 3) (v := .int (T 9 0)) C zi_X4_tellSize_X4 0 rfl 9 (by decide) zf_X4_tellSize_40 rfl rfl dX4_tellSize_27 ?_
      refine zv_i2l (pc := 30) C  dX4_tellSize_30 ?_
      refine zv_cv0 (pc := 31) (ws' := (fun uz : zRow => (zd_X4_tellSize cI adT qT0 qT1 qT2 qT3 qT4 qT5 qT6 qT7 adF qF0 qF1 qF2 qF3 T (zset F 0 uz)))) C (zv_runS (As := [.ref qF0, .long (Int32.toInt64 (T 9 0))]) (rest := []) C (zc_X1_scale l G cI qF0 16 r_25 (Int32.toInt64 (T 9 0)) _ hF) (va_cwS 2 C.2.2.2.2.1 gX4_tellSize_X1_scale rfl rfl rfl zy_X1_scale ⟨Nat.le_of_ble_eq_true rfl, Nat.le_of_ble_eq_true rfl⟩) rfl rfl (Nat.le_of_ble_eq_true rfl) ⟨Nat.zero_le _, Nat.zero_le _⟩ dX4_tellSize_31) [10] [0, 1, 2, 3, 4, 5, 6, 7, 8, 9, 11, 12, 13] rfl rfl rfl rfl rfl (fun _ => rfl) (fun _ => rfl) (fun _ => rfl) (fun uz hF => ?_)
      obtain ⟨r_27, hE⟩ : ∃ z, z = uz := ⟨_, rfl⟩; subst hE
      refine zv_aload_n (pc := 34) C rfl 1 rfl dX4_tellSize_34 ?_
      refine zv_get (pc := 35) (CC := RX0) (T := TX0) (N := 4) (ci := 0) (v := .ref qF1) C zi_X4_tellSize_X0 9 rfl 1 (by decide) zf_X4_tellSize_85 rfl rfl dX4_tellSize_35 ?_
      refine zv_aload_n (pc := 38) C rfl 0 rfl dX4_tellSize_38 ?_
      refine zv_get (pc := 39) (CC := RX4) (T := TX4) (N := 11) (ci := 3) (v := .ref qT4) C zi_X4_tellSize_X4 0 rfl 4 (by decide) zf_X4_tellSize_24 rfl rfl dX4_tellSize_39 ?_
      refine zv_cv0 (pc := 42) (ws' := (fun uz : zRow => (zd_X4_tellSize cI adT qT0 qT1 qT2 qT3 qT4 qT5 qT6 qT7 adF qF0 qF1 qF2 qF3 T (zset (zset F 0 r_27) 1 uz)))) C (zv_runS (As := [.ref qF1, .ref qT4]) (rest := []) C (zc_X1_put l G cI qF1 qT4 16 8 (F 1) (T 4) _ hF) (va_cwS 2 C.2.2.2.2.1 gX4_tellSize_X1_put rfl rfl rfl zy_X1_put ⟨Nat.le_of_ble_eq_true rfl, Nat.le_of_ble_eq_true rfl⟩) rfl rfl (Nat.le_of_ble_eq_true rfl) ⟨Nat.zero_le _, Nat.zero_le _⟩ dX4_tellSize_42) [11, 5] [0, 1, 2, 3, 4, 6, 7, 8, 9, 10, 12, 13] rfl rfl rfl rfl rfl (fun _ => rfl) (fun _ => rfl) (fun _ => rfl) (fun uz hF => ?_)
      obtain ⟨r_28, hE⟩ : ∃ z, z = uz := ⟨_, rfl⟩; subst hE
      exact zv_vret (pc := 45) C hr hlk (zset (zset F 0 r_27) 1 r_28) hF rfl dX4_tellSize_45
    · replace hF := And.right hF c_26
      refine zv_iload_n (pc := 17) C rfl 2 rfl dX4_tellSize_17 ?_
      refine zv_iconst (pc := 18) (v := 2) C (by decide) dX4_tellSize_18 ?_
      refine zv_icmp_ne (pc := 19) (tgt := 34) C dX4_tellSize_19 (by decide) (fun c_29 => ?_) (fun c_29 => ?_)
      · replace hF := And.left hF c_29
        refine zv_aload_n (pc := 34) C rfl 1 rfl dX4_tellSize_34 ?_
        refine zv_get (pc := 35) (CC := RX0) (T := TX0) (N := 4) (ci := 0) (v := .ref qF1) C zi_X4_tellSize_X0 9 rfl 1 (by decide) zf_X4_tellSize_85 rfl rfl dX4_tellSize_35 ?_
        refine zv_aload_n (pc := 38) C rfl 0 rfl dX4_tellSize_38 ?_
        refine zv_get (pc := 39) (CC := RX4) (T := TX4) (N := 11) (ci := 3) (v := .ref qT4) C zi_X4_tellSize_X4 0 rfl 4 (by decide) zf_X4_tellSize_24 rfl rfl dX4_tellSize_39 ?_
        refine zv_cv0 (pc := 42) (ws' := (fun uz : zRow => (zd_X4_tellSize cI adT qT0 qT1 qT2 qT3 qT4 qT5 qT6 qT7 adF qF0 qF1 qF2 qF3 T (zset (zset F 0 r_25) 1 uz)))) C (zv_runS (As := [.ref qF1, .ref qT4]) (rest := []) C (zc_X1_put l G cI qF1 qT4 16 8 (F 1) (T 4) _ hF) (va_cwS 2 C.2.2.2.2.1 gX4_tellSize_X1_put rfl rfl rfl zy_X1_put ⟨Nat.le_of_ble_eq_true rfl, Nat.le_of_ble_eq_true rfl⟩) rfl rfl (Nat.le_of_ble_eq_true rfl) ⟨Nat.zero_le _, Nat.zero_le _⟩ dX4_tellSize_42) [11, 5] [0, 1, 2, 3, 4, 6, 7, 8, 9, 10, 12, 13] rfl rfl rfl rfl rfl (fun _ => rfl) (fun _ => rfl) (fun _ => rfl) (fun uz hF => ?_)
        obtain ⟨r_30, hE⟩ : ∃ z, z = uz := ⟨_, rfl⟩; subst hE
        exact zv_vret (pc := 45) C hr hlk (zset (zset F 0 r_25) 1 r_30) hF rfl dX4_tellSize_45
      · replace hF := And.right hF c_29
        refine zv_aload_n (pc := 22) C rfl 1 rfl dX4_tellSize_22 ?_
        refine zv_get (pc := 23) (CC := RX0) (T := TX0) (N := 4) (ci := 0) (v := .ref qF0) C zi_X4_tellSize_X0 9 rfl 0 (by decide) zf_X4_tellSize_68 rfl rfl dX4_tellSize_23 ?_
        refine zv_aload_n (pc := 26) C rfl 0 rfl dX4_tellSize_26 ?_
        refine zv_get (pc := 27) (CC := RX4) (T := TX4) (N := 11) (ci := 3) (v := .int (T 9 0)) C zi_X4_tellSize_X4 0 rfl 9 (by decide) zf_X4_tellSize_40 rfl rfl dX4_tellSize_27 ?_
        refine zv_i2l (pc := 30) C  dX4_tellSize_30 ?_
        refine zv_cv0 (pc := 31) (ws' := (fun uz : zRow => (zd_X4_tellSize cI adT qT0 qT1 qT2 qT3 qT4 qT5 qT6 qT7 adF qF0 qF1 qF2 qF3 T (zset F 0 uz)))) C (zv_runS (As := [.ref qF0, .long (Int32.toInt64 (T 9 0))]) (rest := []) C (zc_X1_scale l G cI qF0 16 r_25 (Int32.toInt64 (T 9 0)) _ hF) (va_cwS 2 C.2.2.2.2.1 gX4_tellSize_X1_scale rfl rfl rfl zy_X1_scale ⟨Nat.le_of_ble_eq_true rfl, Nat.le_of_ble_eq_true rfl⟩) rfl rfl (Nat.le_of_ble_eq_true rfl) ⟨Nat.zero_le _, Nat.zero_le _⟩ dX4_tellSize_31) [10] [0, 1, 2, 3, 4, 5, 6, 7, 8, 9, 11, 12, 13] rfl rfl rfl rfl rfl (fun _ => rfl) (fun _ => rfl) (fun _ => rfl) (fun uz hF => ?_)
        obtain ⟨r_31, hE⟩ : ∃ z, z = uz := ⟨_, rfl⟩; subst hE
        refine zv_aload_n (pc := 34) C rfl 1 rfl dX4_tellSize_34 ?_
        refine zv_get (pc := 35) (CC := RX0) (T := TX0) (N := 4) (ci := 0) (v := .ref qF1) C zi_X4_tellSize_X0 9 rfl 1 (by decide) zf_X4_tellSize_85 rfl rfl dX4_tellSize_35 ?_
        refine zv_aload_n (pc := 38) C rfl 0 rfl dX4_tellSize_38 ?_
        refine zv_get (pc := 39) (CC := RX4) (T := TX4) (N := 11) (ci := 3) (v := .ref qT4) C zi_X4_tellSize_X4 0 rfl 4 (by decide) zf_X4_tellSize_24 rfl rfl dX4_tellSize_39 ?_
        refine zv_cv0 (pc := 42) (ws' := (fun uz : zRow => (zd_X4_tellSize cI adT qT0 qT1 qT2 qT3 qT4 qT5 qT6 qT7 adF qF0 qF1 qF2 qF3 T (zset (zset F 0 r_31) 1 uz)))) C (zv_runS (As := [.ref qF1, .ref qT4]) (rest := []) C (zc_X1_put l G cI qF1 qT4 16 8 (F 1) (T 4) _ hF) (va_cwS 2 C.2.2.2.2.1 gX4_tellSize_X1_put rfl rfl rfl zy_X1_put ⟨Nat.le_of_ble_eq_true rfl, Nat.le_of_ble_eq_true rfl⟩) rfl rfl (Nat.le_of_ble_eq_true rfl) ⟨Nat.zero_le _, Nat.zero_le _⟩ dX4_tellSize_42) [11, 5] [0, 1, 2, 3, 4, 6, 7, 8, 9, 10, 12, 13] rfl rfl rfl rfl rfl (fun _ => rfl) (fun _ => rfl) (fun _ => rfl) (fun uz hF => ?_)
        obtain ⟨r_32, hE⟩ : ∃ z, z = uz := ⟨_, rfl⟩; subst hE
        exact zv_vret (pc := 45) C hr hlk (zset (zset F 0 r_31) 1 r_32) hF rfl dX4_tellSize_45
theorem zf_X4_squareLine_ad_27 : Cond.fieldLink RX4 27 "GlassStack$Table" "next" "[I" ∈ wsX4_squareLine := (List.mem_of_getElem? (i := 2) rfl)
theorem zf_X4_squareLine_ad_30 : Cond.fieldLink RX4 30 "GlassStack$Table" "line" "[I" ∈ wsX4_squareLine := (List.mem_of_getElem? (i := 1) rfl)
theorem zi_X4_squareLine_ad_X4 : ∀ w ∈ wsX40, w ∈ wsX4_squareLine := fun w h => List.mem_cons_of_mem _ (List.mem_append_right _ h)
theorem zy_X4_squareLine : yX4_squareLine.cls = RX4 ∧ yX4_squareLine.cls ≠ "java/lang/invoke/MethodHandle" ∧ yX4_squareLine.cls ≠ "java/lang/invoke/VarHandle" ∧ (parseMethodDescriptor yX4_squareLine.desc).map (fun d => d.parameters.length) = some 5 := by decide +kernel
set_option maxHeartbeats 4000000 in
set_option maxRecDepth 100000 in
theorem zc_X4_squareLine_ad (l : Launch) (G : va_G) (cI : ClassId) (adT qT0 qT1 qT2 qT3 qT4 qT5 qT6 qT7 qr : Nat) (T : zMem) (r : zRow) (x : Int32) (y : Int32) (post : zMem → zRow → Prop) (hF : zw_X4_squareLine_ad T r x y post) (sz : Nat) : Met l yX4_squareLine wsX4_squareLine rmX4_squareLine_ad (va_Pc [.ref adT, .ref qr, .ref qT0, .int x, .ref qT3, .int y] (zv_in G cI (zd_X4_squareLine_ad cI adT qT0 qT1 qT2 qT3 qT4 qT5 qT6 qT7 qr T r) sz)) (va_Qv (fun uz : zMem × zRow => post uz.1 uz.2) (fun (uz : zMem × zRow) t => zv_out G cI (va_A (zd_X4_squareLine_ad cI adT qT0 qT1 qT2 qT3 qT4 qT5 qT6 qT7 qr T r) sz) (zd_X4_squareLine_ad cI adT qT0 qT1 qT2 qT3 qT4 qT5 qT6 qT7 qr uz.1 uz.2) t) (va_A (zd_X4_squareLine_ad cI adT qT0 qT1 qT2 qT3 qT4 qT5 qT6 qT7 qr T r) sz)) 0 0 (va_A (zd_X4_squareLine_ad cI adT qT0 qT1 qT2 qT3 qT4 qT5 qT6 qT7 qr T r) sz) := by
  refine zv_met (cc := cX4_squareLine) (maxL := 6) (ret := none) (lv0 := [(0, .ref adT), (1, .ref qr), (2, .ref qT0), (3, .int x), (4, .ref qT3), (5, .int y)]) (Qc := fun A => va_Qv (fun uz : zMem × zRow => post uz.1 uz.2) (fun (uz : zMem × zRow) t => zv_out G cI A (zd_X4_squareLine_ad cI adT qT0 qT1 qT2 qT3 qT4 qT5 qT6 qT7 qr uz.1 uz.2) t) A) (by decide) rfl (Nat.le_of_ble_eq_true rfl) rfl ?_ sz
  intro p e s m below meth c A C hr hlk
  clear sz
  refine zv_aload_n (pc := 0) C rfl 0 rfl dX4_squareLine_0 ?_
  refine zv_get (pc := 1) (CC := RX4) (T := TX4) (N := 11) (ci := 3) (v := .ref qT6) C zi_X4_squareLine_ad_X4 0 rfl 6 (by decide) zf_X4_squareLine_ad_30 rfl rfl dX4_squareLine_1 ?_
  refine zv_iconst (pc := 4) (v := 0) C (by decide) dX4_squareLine_4 ?_
  refine zv_cv0 (pc := 5) (ws' := (fun uz : zRow => (zd_X4_squareLine_ad cI adT qT0 qT1 qT2 qT3 qT4 qT5 qT6 qT7 qr (zset T 6 uz) r))) C (zv_runS (As := [.ref qT6, .int (0 : Int32)]) (rest := []) C (zc_X1_set l G cI qT6 8 (T 6) (0 : Int32) _ hF) (va_cwS 2 C.2.2.2.2.1 gX4_squareLine_X1_set rfl rfl rfl zy_X1_set ⟨Nat.le_of_ble_eq_true rfl, Nat.le_of_ble_eq_true rfl⟩) rfl rfl (Nat.le_of_ble_eq_true rfl) ⟨Nat.zero_le _, Nat.zero_le _⟩ dX4_squareLine_5) [7] [0, 1, 2, 3, 4, 5, 6, 8, 9] rfl rfl rfl rfl rfl (fun _ => rfl) (fun _ => rfl) (fun _ => rfl) (fun uz hF => ?_)
  obtain ⟨r_1, hE⟩ : ∃ z, z = uz := ⟨_, rfl⟩; subst hE
  refine zv_aload_n (pc := 8) C rfl 0 rfl dX4_squareLine_8 ?_
  refine zv_get (pc := 9) (CC := RX4) (T := TX4) (N := 11) (ci := 3) (v := .ref qT6) C zi_X4_squareLine_ad_X4 0 rfl 6 (by decide) zf_X4_squareLine_ad_30 rfl rfl dX4_squareLine_9 ?_
  refine zv_aload_n (pc := 12) C rfl 2 rfl dX4_squareLine_12 ?_
  refine zv_iload_n (pc := 13) C rfl 3 rfl dX4_squareLine_13 ?_
  refine zv_i2l (pc := 14) C  dX4_squareLine_14 ?_
  refine zv_cv0 (pc := 15) (ws' := (fun uz : zRow => (zd_X4_squareLine_ad cI adT qT0 qT1 qT2 qT3 qT4 qT5 qT6 qT7 qr (zset T 6 uz) r))) C (zv_runS (As := [.ref qT6, .ref qT0, .long (Int32.toInt64 x)]) (rest := []) C (zc_X1_gain l G cI qT6 qT0 8 8 r_1 (T 0) (Int32.toInt64 x) _ hF) (va_cwS 3 C.2.2.2.2.1 gX4_squareLine_X1_gain rfl rfl rfl zy_X1_gain ⟨Nat.le_of_ble_eq_true rfl, Nat.le_of_ble_eq_true rfl⟩) rfl rfl (Nat.le_of_ble_eq_true rfl) ⟨Nat.zero_le _, Nat.zero_le _⟩ dX4_squareLine_15) [7, 1] [0, 2, 3, 4, 5, 6, 8, 9] rfl rfl rfl rfl rfl (fun _ => rfl) (fun _ => rfl) (fun _ => rfl) (fun uz hF => ?_)
  obtain ⟨r_2, hE⟩ : ∃ z, z = uz := ⟨_, rfl⟩; subst hE
  refine zv_aload_n (pc := 18) C rfl 0 rfl dX4_squareLine_18 ?_
  refine zv_get (pc := 19) (CC := RX4) (T := TX4) (N := 11) (ci := 3) (v := .ref qT6) C zi_X4_squareLine_ad_X4 0 rfl 6 (by decide) zf_X4_squareLine_ad_30 rfl rfl dX4_squareLine_19 ?_
  refine zv_aload (pc := 22) C 4 rfl dX4_squareLine_22 ?_
  refine zv_iload (pc := 24) C 5 rfl dX4_squareLine_24 ?_
  refine zv_i2l (pc := 26) C  dX4_squareLine_26 ?_
  refine zv_cv0 (pc := 27) (ws' := (fun uz : zRow => (zd_X4_squareLine_ad cI adT qT0 qT1 qT2 qT3 qT4 qT5 qT6 qT7 qr (zset T 6 uz) r))) C (zv_runS (As := [.ref qT6, .ref qT3, .long (Int32.toInt64 y)]) (rest := []) C (zc_X1_gain l G cI qT6 qT3 8 8 r_2 (T 3) (Int32.toInt64 y) _ hF) (va_cwS 3 C.2.2.2.2.1 gX4_squareLine_X1_gain rfl rfl rfl zy_X1_gain ⟨Nat.le_of_ble_eq_true rfl, Nat.le_of_ble_eq_true rfl⟩) rfl rfl (Nat.le_of_ble_eq_true rfl) ⟨Nat.zero_le _, Nat.zero_le _⟩ dX4_squareLine_27) [7, 4] [0, 1, 2, 3, 5, 6, 8, 9] rfl rfl rfl rfl rfl (fun _ => rfl) (fun _ => rfl) (fun _ => rfl) (fun uz hF => ?_)
  obtain ⟨r_3, hE⟩ : ∃ z, z = uz := ⟨_, rfl⟩; subst hE
  refine zv_aload_n (pc := 30) C rfl 0 rfl dX4_squareLine_30 ?_
  refine zv_get (pc := 31) (CC := RX4) (T := TX4) (N := 11) (ci := 3) (v := .ref qT5) C zi_X4_squareLine_ad_X4 0 rfl 5 (by decide) zf_X4_squareLine_ad_27 rfl rfl dX4_squareLine_31 ?_
  refine zv_aload_n (pc := 34) C rfl 0 rfl dX4_squareLine_34 ?_
  refine zv_get (pc := 35) (CC := RX4) (T := TX4) (N := 11) (ci := 3) (v := .ref qT6) C zi_X4_squareLine_ad_X4 0 rfl 6 (by decide) zf_X4_squareLine_ad_30 rfl rfl dX4_squareLine_35 ?_
  refine zv_cv0 (pc := 38) (ws' := (fun uz : zRow => (zd_X4_squareLine_ad cI adT qT0 qT1 qT2 qT3 qT4 qT5 qT6 qT7 qr (zset (zset T 5 uz) 6 r_3) r))) C (zv_runS (As := [.ref qT5, .ref qT6]) (rest := []) C (zc_X1_putSize l G cI qT5 qT6 8 8 (T 5) r_3 _ hF) (va_cwS 2 C.2.2.2.2.1 gX4_squareLine_X1_putSize rfl rfl rfl zy_X1_putSize ⟨Nat.le_of_ble_eq_true rfl, Nat.le_of_ble_eq_true rfl⟩) rfl rfl (Nat.le_of_ble_eq_true rfl) ⟨Nat.zero_le _, Nat.zero_le _⟩ dX4_squareLine_38) [6, 7] [0, 1, 2, 3, 4, 5, 8, 9] rfl rfl rfl rfl rfl (fun _ => rfl) (fun _ => rfl) (fun _ => rfl) (fun uz hF => ?_)
  obtain ⟨r_4, hE⟩ : ∃ z, z = uz := ⟨_, rfl⟩; subst hE
  refine zv_aload_n (pc := 41) C rfl 1 rfl dX4_squareLine_41 ?_
  refine zv_aload_n (pc := 42) C rfl 0 rfl dX4_squareLine_42 ?_
  refine zv_get (pc := 43) (CC := RX4) (T := TX4) (N := 11) (ci := 3) (v := .ref qT5) C zi_X4_squareLine_ad_X4 0 rfl 5 (by decide) zf_X4_squareLine_ad_27 rfl rfl dX4_squareLine_43 ?_
  refine zv_aload_n (pc := 46) C rfl 0 rfl dX4_squareLine_46 ?_
  refine zv_get (pc := 47) (CC := RX4) (T := TX4) (N := 11) (ci := 3) (v := .ref qT5) C zi_X4_squareLine_ad_X4 0 rfl 5 (by decide) zf_X4_squareLine_ad_27 rfl rfl dX4_squareLine_47 ?_
  refine zv_cv0 (pc := 50) (ws' := (fun uz : zRow => (zd_X4_squareLine_ad cI adT qT0 qT1 qT2 qT3 qT4 qT5 qT6 qT7 qr (zset (zset T 5 r_4) 6 r_3) uz))) C (zv_runS (As := [.ref qr, .ref qT5, .ref qT5]) (rest := []) C (zc_X1_multiply_sq l G cI qr qT5 16 8 r r_4 _ hF) (va_cwS 3 C.2.2.2.2.1 gX4_squareLine_X1_multiply rfl rfl rfl zy_X1_multiply ⟨Nat.le_of_ble_eq_true rfl, Nat.le_of_ble_eq_true rfl⟩) rfl rfl (Nat.le_of_ble_eq_true rfl) ⟨Nat.zero_le _, Nat.zero_le _⟩ dX4_squareLine_50) [9, 6] [0, 1, 2, 3, 4, 5, 7, 8] rfl rfl rfl rfl rfl (fun _ => rfl) (fun _ => rfl) (fun _ => rfl) (fun uz hF => ?_)
  obtain ⟨r_5, hE⟩ : ∃ z, z = uz := ⟨_, rfl⟩; subst hE
  exact zv_vret (pc := 53) C hr hlk ((zset (zset T 5 r_4) 6 r_3), r_5) hF rfl dX4_squareLine_53
theorem zf_X4_squareLine_bg_27 : Cond.fieldLink RX4 27 "GlassStack$Table" "next" "[I" ∈ wsX4_squareLine := (List.mem_of_getElem? (i := 2) rfl)
theorem zf_X4_squareLine_bg_30 : Cond.fieldLink RX4 30 "GlassStack$Table" "line" "[I" ∈ wsX4_squareLine := (List.mem_of_getElem? (i := 1) rfl)
theorem zi_X4_squareLine_bg_X4 : ∀ w ∈ wsX40, w ∈ wsX4_squareLine := fun w h => List.mem_cons_of_mem _ (List.mem_append_right _ h)
set_option maxHeartbeats 4000000 in
set_option maxRecDepth 100000 in
theorem zc_X4_squareLine_bg (l : Launch) (G : va_G) (cI : ClassId) (adT qT0 qT1 qT2 qT3 qT4 qT5 qT6 qT7 : Nat) (T : zMem) (x : Int32) (y : Int32) (post : zMem → Prop) (hF : zw_X4_squareLine_bg T x y post) (sz : Nat) : Met l yX4_squareLine wsX4_squareLine rmX4_squareLine_bg (va_Pc [.ref adT, .ref qT7, .ref qT1, .int x, .ref qT2, .int y] (zv_in G cI (zd_X4_squareLine_bg cI adT qT0 qT1 qT2 qT3 qT4 qT5 qT6 qT7 T) sz)) (va_Qv (fun uz : zMem => post uz) (fun (uz : zMem) t => zv_out G cI (va_A (zd_X4_squareLine_bg cI adT qT0 qT1 qT2 qT3 qT4 qT5 qT6 qT7 T) sz) (zd_X4_squareLine_bg cI adT qT0 qT1 qT2 qT3 qT4 qT5 qT6 qT7 uz) t) (va_A (zd_X4_squareLine_bg cI adT qT0 qT1 qT2 qT3 qT4 qT5 qT6 qT7 T) sz)) 0 0 (va_A (zd_X4_squareLine_bg cI adT qT0 qT1 qT2 qT3 qT4 qT5 qT6 qT7 T) sz) := by
  refine zv_met (cc := cX4_squareLine) (maxL := 6) (ret := none) (lv0 := [(0, .ref adT), (1, .ref qT7), (2, .ref qT1), (3, .int x), (4, .ref qT2), (5, .int y)]) (Qc := fun A => va_Qv (fun uz : zMem => post uz) (fun (uz : zMem) t => zv_out G cI A (zd_X4_squareLine_bg cI adT qT0 qT1 qT2 qT3 qT4 qT5 qT6 qT7 uz) t) A) (by decide) rfl (Nat.le_of_ble_eq_true rfl) rfl ?_ sz
  intro p e s m below meth c A C hr hlk
  clear sz
  refine zv_aload_n (pc := 0) C rfl 0 rfl dX4_squareLine_0 ?_
  refine zv_get (pc := 1) (CC := RX4) (T := TX4) (N := 11) (ci := 3) (v := .ref qT6) C zi_X4_squareLine_bg_X4 0 rfl 6 (by decide) zf_X4_squareLine_bg_30 rfl rfl dX4_squareLine_1 ?_
  refine zv_iconst (pc := 4) (v := 0) C (by decide) dX4_squareLine_4 ?_
  refine zv_cv0 (pc := 5) (ws' := (fun uz : zRow => (zd_X4_squareLine_bg cI adT qT0 qT1 qT2 qT3 qT4 qT5 qT6 qT7 (zset T 6 uz)))) C (zv_runS (As := [.ref qT6, .int (0 : Int32)]) (rest := []) C (zc_X1_set l G cI qT6 8 (T 6) (0 : Int32) _ hF) (va_cwS 2 C.2.2.2.2.1 gX4_squareLine_X1_set rfl rfl rfl zy_X1_set ⟨Nat.le_of_ble_eq_true rfl, Nat.le_of_ble_eq_true rfl⟩) rfl rfl (Nat.le_of_ble_eq_true rfl) ⟨Nat.zero_le _, Nat.zero_le _⟩ dX4_squareLine_5) [7] [0, 1, 2, 3, 4, 5, 6, 8] rfl rfl rfl rfl rfl (fun _ => rfl) (fun _ => rfl) (fun _ => rfl) (fun uz hF => ?_)
  obtain ⟨r_1, hE⟩ : ∃ z, z = uz := ⟨_, rfl⟩; subst hE
  refine zv_aload_n (pc := 8) C rfl 0 rfl dX4_squareLine_8 ?_
  refine zv_get (pc := 9) (CC := RX4) (T := TX4) (N := 11) (ci := 3) (v := .ref qT6) C zi_X4_squareLine_bg_X4 0 rfl 6 (by decide) zf_X4_squareLine_bg_30 rfl rfl dX4_squareLine_9 ?_
  refine zv_aload_n (pc := 12) C rfl 2 rfl dX4_squareLine_12 ?_
  refine zv_iload_n (pc := 13) C rfl 3 rfl dX4_squareLine_13 ?_
  refine zv_i2l (pc := 14) C  dX4_squareLine_14 ?_
  refine zv_cv0 (pc := 15) (ws' := (fun uz : zRow => (zd_X4_squareLine_bg cI adT qT0 qT1 qT2 qT3 qT4 qT5 qT6 qT7 (zset T 6 uz)))) C (zv_runS (As := [.ref qT6, .ref qT1, .long (Int32.toInt64 x)]) (rest := []) C (zc_X1_gain l G cI qT6 qT1 8 8 r_1 (T 1) (Int32.toInt64 x) _ hF) (va_cwS 3 C.2.2.2.2.1 gX4_squareLine_X1_gain rfl rfl rfl zy_X1_gain ⟨Nat.le_of_ble_eq_true rfl, Nat.le_of_ble_eq_true rfl⟩) rfl rfl (Nat.le_of_ble_eq_true rfl) ⟨Nat.zero_le _, Nat.zero_le _⟩ dX4_squareLine_15) [7, 2] [0, 1, 3, 4, 5, 6, 8] rfl rfl rfl rfl rfl (fun _ => rfl) (fun _ => rfl) (fun _ => rfl) (fun uz hF => ?_)
  obtain ⟨r_2, hE⟩ : ∃ z, z = uz := ⟨_, rfl⟩; subst hE
  refine zv_aload_n (pc := 18) C rfl 0 rfl dX4_squareLine_18 ?_
  refine zv_get (pc := 19) (CC := RX4) (T := TX4) (N := 11) (ci := 3) (v := .ref qT6) C zi_X4_squareLine_bg_X4 0 rfl 6 (by decide) zf_X4_squareLine_bg_30 rfl rfl dX4_squareLine_19 ?_
  refine zv_aload (pc := 22) C 4 rfl dX4_squareLine_22 ?_
  refine zv_iload (pc := 24) C 5 rfl dX4_squareLine_24 ?_
  refine zv_i2l (pc := 26) C  dX4_squareLine_26 ?_
  refine zv_cv0 (pc := 27) (ws' := (fun uz : zRow => (zd_X4_squareLine_bg cI adT qT0 qT1 qT2 qT3 qT4 qT5 qT6 qT7 (zset T 6 uz)))) C (zv_runS (As := [.ref qT6, .ref qT2, .long (Int32.toInt64 y)]) (rest := []) C (zc_X1_gain l G cI qT6 qT2 8 8 r_2 (T 2) (Int32.toInt64 y) _ hF) (va_cwS 3 C.2.2.2.2.1 gX4_squareLine_X1_gain rfl rfl rfl zy_X1_gain ⟨Nat.le_of_ble_eq_true rfl, Nat.le_of_ble_eq_true rfl⟩) rfl rfl (Nat.le_of_ble_eq_true rfl) ⟨Nat.zero_le _, Nat.zero_le _⟩ dX4_squareLine_27) [7, 3] [0, 1, 2, 4, 5, 6, 8] rfl rfl rfl rfl rfl (fun _ => rfl) (fun _ => rfl) (fun _ => rfl) (fun uz hF => ?_)
  obtain ⟨r_3, hE⟩ : ∃ z, z = uz := ⟨_, rfl⟩; subst hE
  refine zv_aload_n (pc := 30) C rfl 0 rfl dX4_squareLine_30 ?_
  refine zv_get (pc := 31) (CC := RX4) (T := TX4) (N := 11) (ci := 3) (v := .ref qT5) C zi_X4_squareLine_bg_X4 0 rfl 5 (by decide) zf_X4_squareLine_bg_27 rfl rfl dX4_squareLine_31 ?_
  refine zv_aload_n (pc := 34) C rfl 0 rfl dX4_squareLine_34 ?_
  refine zv_get (pc := 35) (CC := RX4) (T := TX4) (N := 11) (ci := 3) (v := .ref qT6) C zi_X4_squareLine_bg_X4 0 rfl 6 (by decide) zf_X4_squareLine_bg_30 rfl rfl dX4_squareLine_35 ?_
  refine zv_cv0 (pc := 38) (ws' := (fun uz : zRow => (zd_X4_squareLine_bg cI adT qT0 qT1 qT2 qT3 qT4 qT5 qT6 qT7 (zset (zset T 5 uz) 6 r_3)))) C (zv_runS (As := [.ref qT5, .ref qT6]) (rest := []) C (zc_X1_putSize l G cI qT5 qT6 8 8 (T 5) r_3 _ hF) (va_cwS 2 C.2.2.2.2.1 gX4_squareLine_X1_putSize rfl rfl rfl zy_X1_putSize ⟨Nat.le_of_ble_eq_true rfl, Nat.le_of_ble_eq_true rfl⟩) rfl rfl (Nat.le_of_ble_eq_true rfl) ⟨Nat.zero_le _, Nat.zero_le _⟩ dX4_squareLine_38) [6, 7] [0, 1, 2, 3, 4, 5, 8] rfl rfl rfl rfl rfl (fun _ => rfl) (fun _ => rfl) (fun _ => rfl) (fun uz hF => ?_)
  obtain ⟨r_4, hE⟩ : ∃ z, z = uz := ⟨_, rfl⟩; subst hE
  refine zv_aload_n (pc := 41) C rfl 1 rfl dX4_squareLine_41 ?_
  refine zv_aload_n (pc := 42) C rfl 0 rfl dX4_squareLine_42 ?_
  refine zv_get (pc := 43) (CC := RX4) (T := TX4) (N := 11) (ci := 3) (v := .ref qT5) C zi_X4_squareLine_bg_X4 0 rfl 5 (by decide) zf_X4_squareLine_bg_27 rfl rfl dX4_squareLine_43 ?_
  refine zv_aload_n (pc := 46) C rfl 0 rfl dX4_squareLine_46 ?_
  refine zv_get (pc := 47) (CC := RX4) (T := TX4) (N := 11) (ci := 3) (v := .ref qT5) C zi_X4_squareLine_bg_X4 0 rfl 5 (by decide) zf_X4_squareLine_bg_27 rfl rfl dX4_squareLine_47 ?_
  refine zv_cv0 (pc := 50) (ws' := (fun uz : zRow => (zd_X4_squareLine_bg cI adT qT0 qT1 qT2 qT3 qT4 qT5 qT6 qT7 (zset (zset (zset T 5 r_4) 6 r_3) 7 uz)))) C (zv_runS (As := [.ref qT7, .ref qT5, .ref qT5]) (rest := []) C (zc_X1_multiply_sq l G cI qT7 qT5 16 8 (T 7) r_4 _ hF) (va_cwS 3 C.2.2.2.2.1 gX4_squareLine_X1_multiply rfl rfl rfl zy_X1_multiply ⟨Nat.le_of_ble_eq_true rfl, Nat.le_of_ble_eq_true rfl⟩) rfl rfl (Nat.le_of_ble_eq_true rfl) ⟨Nat.zero_le _, Nat.zero_le _⟩ dX4_squareLine_50) [8, 6] [0, 1, 2, 3, 4, 5, 7] rfl rfl rfl rfl rfl (fun _ => rfl) (fun _ => rfl) (fun _ => rfl) (fun uz hF => ?_)
  obtain ⟨r_5, hE⟩ : ∃ z, z = uz := ⟨_, rfl⟩; subst hE
  exact zv_vret (pc := 53) C hr hlk (zset (zset (zset T 5 r_4) 6 r_3) 7 r_5) hF rfl dX4_squareLine_53
theorem zf_X4_tellSquares_113 : Cond.fieldLink RX4 113 "GlassStack$Pile" "edgeUp" "[I" ∈ wsX4_tellSquares := (List.mem_of_getElem? (i := 1) rfl)
theorem zf_X4_tellSquares_116 : Cond.fieldLink RX4 116 "GlassStack$Pile" "edgeBelow" "[I" ∈ wsX4_tellSquares := (List.mem_of_getElem? (i := 2) rfl)
theorem zf_X4_tellSquares_15 : Cond.fieldLink RX4 15 "GlassStack$Table" "b" "[I" ∈ wsX4_tellSquares := (List.mem_of_getElem? (i := 6) rfl)
theorem zf_X4_tellSquares_18 : Cond.fieldLink RX4 18 "GlassStack$Table" "g" "[I" ∈ wsX4_tellSquares := (List.mem_of_getElem? (i := 7) rfl)
theorem zf_X4_tellSquares_21 : Cond.fieldLink RX4 21 "GlassStack$Table" "d" "[I" ∈ wsX4_tellSquares := (List.mem_of_getElem? (i := 4) rfl)
theorem zf_X4_tellSquares_33 : Cond.fieldLink RX4 33 "GlassStack$Table" "square" "[I" ∈ wsX4_tellSquares := (List.mem_of_getElem? (i := 5) rfl)
theorem zf_X4_tellSquares_43 : Cond.fieldLink RX4 43 "GlassStack$Table" "sineSquare" "I" ∈ wsX4_tellSquares := (List.mem_of_getElem? (i := 8) rfl)
theorem zf_X4_tellSquares_9 : Cond.fieldLink RX4 9 "GlassStack$Table" "a" "[I" ∈ wsX4_tellSquares := (List.mem_of_getElem? (i := 3) rfl)
theorem zi_X4_tellSquares_X3 : ∀ w ∈ wsX30, w ∈ wsX4_tellSquares := fun w h => List.mem_cons_of_mem _ (List.mem_append_left _ (List.mem_append_right _ h))
theorem zi_X4_tellSquares_X4 : ∀ w ∈ wsX40, w ∈ wsX4_tellSquares := fun w h => List.mem_cons_of_mem _ (List.mem_append_right _ h)
theorem zy_X4_tellSquares : yX4_tellSquares.cls = RX4 ∧ yX4_tellSquares.cls ≠ "java/lang/invoke/MethodHandle" ∧ yX4_tellSquares.cls ≠ "java/lang/invoke/VarHandle" ∧ (parseMethodDescriptor yX4_tellSquares.desc).map (fun d => d.parameters.length) = some 3 := by decide +kernel
set_option maxHeartbeats 4000000 in
set_option maxRecDepth 100000 in
theorem zc_X4_tellSquares (l : Launch) (G : va_G) (cI : ClassId) (adT qT0 qT1 qT2 qT3 qT4 qT5 qT6 qT7 adP qP0 qP1 qP2 qP3 qP4 qr : Nat) (T : zMem) (P : zMem) (r : zRow) (way : Int32) (post : zMem → zRow → Prop) (hF : zw_X4_tellSquares T P r way post) (sz : Nat) : Met l yX4_tellSquares wsX4_tellSquares rmX4_tellSquares (va_Pc [.ref adT, .ref qr, .ref adP, .int way] (zv_in G cI (zd_X4_tellSquares cI adT qT0 qT1 qT2 qT3 qT4 qT5 qT6 qT7 adP qP0 qP1 qP2 qP3 qP4 qr T P r) sz)) (va_Qv (fun uz : zMem × zRow => post uz.1 uz.2) (fun (uz : zMem × zRow) t => zv_out G cI (va_A (zd_X4_tellSquares cI adT qT0 qT1 qT2 qT3 qT4 qT5 qT6 qT7 adP qP0 qP1 qP2 qP3 qP4 qr T P r) sz) (zd_X4_tellSquares cI adT qT0 qT1 qT2 qT3 qT4 qT5 qT6 qT7 adP qP0 qP1 qP2 qP3 qP4 qr uz.1 P uz.2) t) (va_A (zd_X4_tellSquares cI adT qT0 qT1 qT2 qT3 qT4 qT5 qT6 qT7 adP qP0 qP1 qP2 qP3 qP4 qr T P r) sz)) 0 0 (va_A (zd_X4_tellSquares cI adT qT0 qT1 qT2 qT3 qT4 qT5 qT6 qT7 adP qP0 qP1 qP2 qP3 qP4 qr T P r) sz) := by
  refine zv_met (cc := cX4_tellSquares) (maxL := 8) (ret := none) (lv0 := [(0, .ref adT), (1, .ref qr), (2, .ref adP), (3, .int way)]) (Qc := fun A => va_Qv (fun uz : zMem × zRow => post uz.1 uz.2) (fun (uz : zMem × zRow) t => zv_out G cI A (zd_X4_tellSquares cI adT qT0 qT1 qT2 qT3 qT4 qT5 qT6 qT7 adP qP0 qP1 qP2 qP3 qP4 qr uz.1 P uz.2) t) A) (by decide) rfl (Nat.le_of_ble_eq_true rfl) rfl ?_ sz
  intro p e s m below meth c A C hr hlk
  clear sz
  refine zv_aload_n (pc := 0) C rfl 2 rfl dX4_tellSquares_0 ?_
  refine zv_get (pc := 1) (CC := RX3) (T := TX3) (N := 6) (ci := 2) (v := .ref qP0) C zi_X4_tellSquares_X3 9 rfl 0 (by decide) zf_X4_tellSquares_113 rfl rfl dX4_tellSquares_1 ?_
  refine zv_iconst (pc := 4) (v := 0) C (by decide) dX4_tellSquares_4 ?_
  obtain ⟨h_1, hF⟩ := hF
  refine zv_iald (pc := 5) (n := 2) (f := (P 0)) C 10 h_1 rfl dX4_tellSquares_5 ?_
  refine zv_topi (fun x4_2 ex4_2 => ?_)
  replace hF := hF x4_2 ex4_2
  refine zv_istore (pc := 6) (lv' := [(4, .int x4_2), (0, .ref adT), (1, .ref qr), (2, .ref adP), (3, .int way)]) C (by decide) rfl dX4_tellSquares_6 ?_
  refine zv_aload_n (pc := 8) C rfl 3 rfl dX4_tellSquares_8 ?_
  refine zv_get (pc := 9) (CC := RX3) (T := TX3) (N := 6) (ci := 2) (v := .ref qP1) C zi_X4_tellSquares_X3 9 rfl 1 (by decide) zf_X4_tellSquares_116 rfl rfl dX4_tellSquares_9 ?_
  refine zv_iconst (pc := 12) (v := 0) C (by decide) dX4_tellSquares_12 ?_
  obtain ⟨h_3, hF⟩ := hF
  refine zv_iald (pc := 13) (n := 2) (f := (P 1)) C 11 h_3 rfl dX4_tellSquares_13 ?_
  refine zv_topi (fun x5_4 ex5_4 => ?_)
  replace hF := hF x5_4 ex5_4
  refine zv_istore (pc := 14) (lv' := [(5, .int x5_4), (4, .int x4_2), (0, .ref adT), (1, .ref qr), (2, .ref adP), (3, .int way)]) C (by decide) rfl dX4_tellSquares_14 ?_
  refine zv_aload_n (pc := 16) C rfl 4 rfl dX4_tellSquares_16 ?_
  refine zv_get (pc := 17) (CC := RX3) (T := TX3) (N := 6) (ci := 2) (v := .ref qP0) C zi_X4_tellSquares_X3 9 rfl 0 (by decide) zf_X4_tellSquares_113 rfl rfl dX4_tellSquares_17 ?_
  refine zv_iconst (pc := 20) (v := 1) C (by decide) dX4_tellSquares_20 ?_
  obtain ⟨h_5, hF⟩ := hF
  refine zv_iald (pc := 21) (n := 2) (f := (P 0)) C 10 h_5 rfl dX4_tellSquares_21 ?_
  refine zv_topi (fun x6_6 ex6_6 => ?_)
  replace hF := hF x6_6 ex6_6
  refine zv_istore (pc := 22) (lv' := [(6, .int x6_6), (5, .int x5_4), (4, .int x4_2), (0, .ref adT), (1, .ref qr), (2, .ref adP), (3, .int way)]) C (by decide) rfl dX4_tellSquares_22 ?_
  refine zv_aload_n (pc := 24) C rfl 5 rfl dX4_tellSquares_24 ?_
  refine zv_get (pc := 25) (CC := RX3) (T := TX3) (N := 6) (ci := 2) (v := .ref qP1) C zi_X4_tellSquares_X3 9 rfl 1 (by decide) zf_X4_tellSquares_116 rfl rfl dX4_tellSquares_25 ?_
  refine zv_iconst (pc := 28) (v := 1) C (by decide) dX4_tellSquares_28 ?_
  obtain ⟨h_7, hF⟩ := hF
  refine zv_iald (pc := 29) (n := 2) (f := (P 1)) C 11 h_7 rfl dX4_tellSquares_29 ?_
  refine zv_topi (fun x7_8 ex7_8 => ?_)
  replace hF := hF x7_8 ex7_8
  refine zv_istore (pc := 30) (lv' := [(7, .int x7_8), (6, .int x6_6), (5, .int x5_4), (4, .int x4_2), (0, .ref adT), (1, .ref qr), (2, .ref adP), (3, .int way)]) C (by decide) rfl dX4_tellSquares_30 ?_
  refine zv_aload_n (pc := 32) C rfl 4 rfl dX4_tellSquares_32 ?_
  refine zv_aload_n (pc := 33) C rfl 5 rfl dX4_tellSquares_33 ?_
  refine zv_aload_n (pc := 34) C rfl 4 rfl dX4_tellSquares_34 ?_
  refine zv_get (pc := 35) (CC := RX4) (T := TX4) (N := 11) (ci := 3) (v := .ref qT0) C zi_X4_tellSquares_X4 0 rfl 0 (by decide) zf_X4_tellSquares_9 rfl rfl dX4_tellSquares_35 ?_
  refine zv_iload (pc := 38) C 3 rfl dX4_tellSquares_38 ?_
  refine zv_iload (pc := 40) C 0 rfl dX4_tellSquares_40 ?_
  refine zv_imul (pc := 42) C  dX4_tellSquares_42 ?_
  refine zv_aload_n (pc := 43) C rfl 4 rfl dX4_tellSquares_43 ?_
  refine zv_get (pc := 44) (CC := RX4) (T := TX4) (N := 11) (ci := 3) (v := .ref qT3) C zi_X4_tellSquares_X4 0 rfl 3 (by decide) zf_X4_tellSquares_21 rfl rfl dX4_tellSquares_44 ?_
  refine zv_iload_n (pc := 47) C rfl 7 rfl dX4_tellSquares_47 ?_
  refine zv_iload (pc := 48) C 1 rfl dX4_tellSquares_48 ?_
  refine zv_imul (pc := 50) C  dX4_tellSquares_50 ?_
  refine zv_iload (pc := 51) C 2 rfl dX4_tellSquares_51 ?_
  refine zv_imul (pc := 53) C  dX4_tellSquares_53 ?_
  refine zv_cv0 (pc := 54) (ws' := (fun uz : zMem × zRow => (zd_X4_tellSquares cI adT qT0 qT1 qT2 qT3 qT4 qT5 qT6 qT7 adP qP0 qP1 qP2 qP3 qP4 qr uz.1 P uz.2))) C (zv_runV (As := [.ref qr, .ref qT0, .int (x4_2 * x7_8), .ref qT3, .int ((way * x6_6) * x5_4)]) (b := adT) (rest := []) (ci := 3) (q0 := 0) C (zc_X4_squareLine_ad l G cI adT qT0 qT1 qT2 qT3 qT4 qT5 qT6 qT7 qr T r (x4_2 * x7_8) ((way * x6_6) * x5_4) _ hF) (cwV 5 C.2.2.2.2.1 gX4_tellSquares_X4_squareLine rfl rfl rfl zy_X4_squareLine ⟨Nat.le_of_ble_eq_true rfl, Nat.le_of_ble_eq_true rfl⟩) rfl rfl rfl rfl rfl (Nat.le_of_ble_eq_true rfl) ⟨Nat.zero_le _, Nat.zero_le _⟩ dX4_tellSquares_54) [0, 1, 2, 3, 4, 5, 6, 7, 8, 15] [9, 10, 11, 12, 13, 14] rfl rfl rfl rfl rfl (fun _ => rfl) (fun _ => rfl) (fun _ => rfl) (fun uz hF => ?_)
  obtain ⟨T_9, r_10⟩ := uz
  refine zv_aload_n (pc := 57) C rfl 4 rfl dX4_tellSquares_57 ?_
  refine zv_aload_n (pc := 58) C rfl 4 rfl dX4_tellSquares_58 ?_
  refine zv_get (pc := 59) (CC := RX4) (T := TX4) (N := 11) (ci := 3) (v := .ref qT7) C zi_X4_tellSquares_X4 0 rfl 7 (by decide) zf_X4_tellSquares_33 rfl rfl dX4_tellSquares_59 ?_
  refine zv_aload_n (pc := 62) C rfl 4 rfl dX4_tellSquares_62 ?_
  refine zv_get (pc := 63) (CC := RX4) (T := TX4) (N := 11) (ci := 3) (v := .ref qT1) C zi_X4_tellSquares_X4 0 rfl 1 (by decide) zf_X4_tellSquares_15 rfl rfl dX4_tellSquares_63 ?_
  refine zv_iload (pc := 66) C 3 rfl dX4_tellSquares_66 ?_
  refine zv_iload (pc := 68) C 1 rfl dX4_tellSquares_68 ?_
  refine zv_imul (pc := 70) C  dX4_tellSquares_70 ?_
  refine zv_aload_n (pc := 71) C rfl 4 rfl dX4_tellSquares_71 ?_
  refine zv_get (pc := 72) (CC := RX4) (T := TX4) (N := 11) (ci := 3) (v := .ref qT2) C zi_X4_tellSquares_X4 0 rfl 2 (by decide) zf_X4_tellSquares_18 rfl rfl dX4_tellSquares_72 ?_
  refine zv_iload_n (pc := 75) C rfl 7 rfl dX4_tellSquares_75 ?_
  refine zv_iload (pc := 76) C 2 rfl dX4_tellSquares_76 ?_
  refine zv_imul (pc := 78) C  dX4_tellSquares_78 ?_
  refine zv_iload (pc := 79) C 0 rfl dX4_tellSquares_79 ?_
  refine zv_imul (pc := 81) C  dX4_tellSquares_81 ?_
  refine zv_cv0 (pc := 82) (ws' := (fun uz : zMem => (zd_X4_tellSquares cI adT qT0 qT1 qT2 qT3 qT4 qT5 qT6 qT7 adP qP0 qP1 qP2 qP3 qP4 qr uz P r_10))) C (zv_runV (As := [.ref qT7, .ref qT1, .int (x4_2 * x6_6), .ref qT2, .int ((way * x5_4) * x7_8)]) (b := adT) (rest := []) (ci := 3) (q0 := 0) C (zc_X4_squareLine_bg l G cI adT qT0 qT1 qT2 qT3 qT4 qT5 qT6 qT7 T_9 (x4_2 * x6_6) ((way * x5_4) * x7_8) _ hF) (cwV 5 C.2.2.2.2.1 gX4_tellSquares_X4_squareLine rfl rfl rfl zy_X4_squareLine ⟨Nat.le_of_ble_eq_true rfl, Nat.le_of_ble_eq_true rfl⟩) rfl rfl rfl rfl rfl (Nat.le_of_ble_eq_true rfl) ⟨Nat.zero_le _, Nat.zero_le _⟩ dX4_tellSquares_82) [0, 1, 2, 3, 4, 5, 6, 7, 8] [9, 10, 11, 12, 13, 14, 15] rfl rfl rfl rfl rfl (fun _ => rfl) (fun _ => rfl) (fun _ => rfl) (fun uz hF => ?_)
  obtain ⟨T_11, hE⟩ : ∃ z, z = uz := ⟨_, rfl⟩; subst hE
  refine zv_aload_n (pc := 85) C rfl 5 rfl dX4_tellSquares_85 ?_
  refine zv_aload_n (pc := 86) C rfl 4 rfl dX4_tellSquares_86 ?_
  refine zv_get (pc := 87) (CC := RX4) (T := TX4) (N := 11) (ci := 3) (v := .ref qT7) C zi_X4_tellSquares_X4 0 rfl 7 (by decide) zf_X4_tellSquares_33 rfl rfl dX4_tellSquares_87 ?_
  refine zv_aload_n (pc := 90) C rfl 4 rfl dX4_tellSquares_90 ?_
  refine zv_get (pc := 91) (CC := RX4) (T := TX4) (N := 11) (ci := 3) (v := .int (T_11 10 0)) C zi_X4_tellSquares_X4 0 rfl 10 (by decide) zf_X4_tellSquares_43 rfl rfl dX4_tellSquares_91 ?_
  refine zv_i2l (pc := 94) C  dX4_tellSquares_94 ?_
  refine zv_cv0 (pc := 95) (ws' := (fun uz : zRow => (zd_X4_tellSquares cI adT qT0 qT1 qT2 qT3 qT4 qT5 qT6 qT7 adP qP0 qP1 qP2 qP3 qP4 qr T_11 P uz))) C (zv_runS (As := [.ref qr, .ref qT7, .long (Int32.toInt64 (T_11 10 0))]) (rest := []) C (zc_X1_gain l G cI qr qT7 16 16 r_10 (T_11 7) (Int32.toInt64 (T_11 10 0)) _ hF) (va_cwS 3 C.2.2.2.2.1 gX4_tellSquares_X1_gain rfl rfl rfl zy_X1_gain ⟨Nat.le_of_ble_eq_true rfl, Nat.le_of_ble_eq_true rfl⟩) rfl rfl (Nat.le_of_ble_eq_true rfl) ⟨Nat.zero_le _, Nat.zero_le _⟩ dX4_tellSquares_95) [15, 8] [0, 1, 2, 3, 4, 5, 6, 7, 9, 10, 11, 12, 13, 14] rfl rfl rfl rfl rfl (fun _ => rfl) (fun _ => rfl) (fun _ => rfl) (fun uz hF => ?_)
  obtain ⟨r_12, hE⟩ : ∃ z, z = uz := ⟨_, rfl⟩; subst hE
  exact zv_vret (pc := 98) C hr hlk (T_11, r_12) hF rfl dX4_tellSquares_98
theorem zf_X4_tellBack_68 : Cond.fieldLink RX4 68 "GlassStack$Fraction" "upper" "[I" ∈ wsX4_tellBack := (List.mem_of_getElem? (i := 1) rfl)
theorem zf_X4_tellBack_85 : Cond.fieldLink RX4 85 "GlassStack$Fraction" "lower" "[I" ∈ wsX4_tellBack := (List.mem_of_getElem? (i := 2) rfl)
theorem zi_X4_tellBack_X0 : ∀ w ∈ wsX00, w ∈ wsX4_tellBack := fun w h => List.mem_cons_of_mem _ (List.mem_append_left _ (List.mem_append_left _ (List.mem_append_right _ h)))
theorem zy_X4_tellBack : yX4_tellBack.cls = RX4 ∧ yX4_tellBack.cls ≠ "java/lang/invoke/MethodHandle" ∧ yX4_tellBack.cls ≠ "java/lang/invoke/VarHandle" ∧ (parseMethodDescriptor yX4_tellBack.desc).map (fun d => d.parameters.length) = some 4 := by decide +kernel
set_option maxHeartbeats 4000000 in
set_option maxRecDepth 100000 in
theorem zc_X4_tellBack (l : Launch) (G : va_G) (cI : ClassId) (adT qT0 qT1 qT2 qT3 qT4 qT5 qT6 qT7 adF qF0 qF1 qF2 qF3 adP qP0 qP1 qP2 qP3 qP4 : Nat) (T : zMem) (F : zMem) (P : zMem) (uv : Int32) (v : Int32) (post : zMem → zMem → Prop) (hF : zw_X4_tellBack T F P uv v post) (sz : Nat) : Met l yX4_tellBack wsX4_tellBack rmX4_tellBack (va_Pc [.ref adT, .ref adF, .ref adP, .int uv, .int v] (zv_in G cI (zd_X4_tellBack cI adT qT0 qT1 qT2 qT3 qT4 qT5 qT6 qT7 adF qF0 qF1 qF2 qF3 adP qP0 qP1 qP2 qP3 qP4 T F P) sz)) (va_Qv (fun uz : zMem × zMem => post uz.1 uz.2) (fun (uz : zMem × zMem) t => zv_out G cI (va_A (zd_X4_tellBack cI adT qT0 qT1 qT2 qT3 qT4 qT5 qT6 qT7 adF qF0 qF1 qF2 qF3 adP qP0 qP1 qP2 qP3 qP4 T F P) sz) (zd_X4_tellBack cI adT qT0 qT1 qT2 qT3 qT4 qT5 qT6 qT7 adF qF0 qF1 qF2 qF3 adP qP0 qP1 qP2 qP3 qP4 uz.1 uz.2 P) t) (va_A (zd_X4_tellBack cI adT qT0 qT1 qT2 qT3 qT4 qT5 qT6 qT7 adF qF0 qF1 qF2 qF3 adP qP0 qP1 qP2 qP3 qP4 T F P) sz)) 0 0 (va_A (zd_X4_tellBack cI adT qT0 qT1 qT2 qT3 qT4 qT5 qT6 qT7 adF qF0 qF1 qF2 qF3 adP qP0 qP1 qP2 qP3 qP4 T F P) sz) := by
  refine zv_met (cc := cX4_tellBack) (maxL := 5) (ret := none) (lv0 := [(0, .ref adT), (1, .ref adF), (2, .ref adP), (3, .int uv), (4, .int v)]) (Qc := fun A => va_Qv (fun uz : zMem × zMem => post uz.1 uz.2) (fun (uz : zMem × zMem) t => zv_out G cI A (zd_X4_tellBack cI adT qT0 qT1 qT2 qT3 qT4 qT5 qT6 qT7 adF qF0 qF1 qF2 qF3 adP qP0 qP1 qP2 qP3 qP4 uz.1 uz.2 P) t) A) (by decide) rfl (Nat.le_of_ble_eq_true rfl) rfl ?_ sz
  intro p e s m below meth c A C hr hlk
  clear sz
  refine zv_aload_n (pc := 0) C rfl 0 rfl dX4_tellBack_0 ?_
  refine zv_aload_n (pc := 1) C rfl 2 rfl dX4_tellBack_1 ?_
  refine zv_iload_n (pc := 2) C rfl 3 rfl dX4_tellBack_2 ?_
  refine zv_iload (pc := 3) C 4 rfl dX4_tellBack_3 ?_
  refine zv_cv0 (pc := 5) (ws' := (fun uz : zMem => (zd_X4_tellBack cI adT qT0 qT1 qT2 qT3 qT4 qT5 qT6 qT7 adF qF0 qF1 qF2 qF3 adP qP0 qP1 qP2 qP3 qP4 uz F P))) C (zv_runV (As := [.ref adP, .int uv, .int v]) (b := adT) (rest := []) (ci := 3) (q0 := 0) C (zc_X4_reckon l G cI adT qT0 qT1 qT2 qT3 qT4 qT5 qT6 qT7 adP qP0 qP1 qP2 qP3 qP4 T P uv v _ hF) (cwV 3 C.2.2.2.2.1 gX4_tellBack_X4_reckon rfl rfl rfl zy_X4_reckon ⟨Nat.le_of_ble_eq_true rfl, Nat.le_of_ble_eq_true rfl⟩) rfl rfl rfl rfl rfl (Nat.le_of_ble_eq_true rfl) ⟨Nat.zero_le _, Nat.zero_le _⟩ dX4_tellBack_5) [0, 1, 2, 3, 4, 5, 6, 7, 8, 14, 15, 16, 17, 18, 19] [9, 10, 11, 12, 13] rfl rfl rfl rfl rfl (fun _ => rfl) (fun _ => rfl) (fun _ => rfl) (fun uz hF => ?_)
  obtain ⟨T_1, hE⟩ : ∃ z, z = uz := ⟨_, rfl⟩; subst hE
  refine zv_aload_n (pc := 8) C rfl 0 rfl dX4_tellBack_8 ?_
  refine zv_aload_n (pc := 9) C rfl 1 rfl dX4_tellBack_9 ?_
  refine zv_get (pc := 10) (CC := RX0) (T := TX0) (N := 4) (ci := 0) (v := .ref qF0) C zi_X4_tellBack_X0 9 rfl 0 (by decide) zf_X4_tellBack_68 rfl rfl dX4_tellBack_10 ?_
  refine zv_aload_n (pc := 13) C rfl 2 rfl dX4_tellBack_13 ?_
  refine zv_iconst (pc := 14) (v := -1) C (by decide) dX4_tellBack_14 ?_
  refine zv_cv0 (pc := 15) (ws' := (fun uz : zMem × zRow => (zd_X4_tellBack cI adT qT0 qT1 qT2 qT3 qT4 qT5 qT6 qT7 adF qF0 qF1 qF2 qF3 adP qP0 qP1 qP2 qP3 qP4 uz.1 (zset F 0 uz.2) P))) C (zv_runV (As := [.ref qF0, .ref adP, .int (-1 : Int32)]) (b := adT) (rest := []) (ci := 3) (q0 := 0) C (zc_X4_tellSquares l G cI adT qT0 qT1 qT2 qT3 qT4 qT5 qT6 qT7 adP qP0 qP1 qP2 qP3 qP4 qF0 T_1 P (F 0) (-1 : Int32) _ hF) (cwV 3 C.2.2.2.2.1 gX4_tellBack_X4_tellSquares rfl rfl rfl zy_X4_tellSquares ⟨Nat.le_of_ble_eq_true rfl, Nat.le_of_ble_eq_true rfl⟩) rfl rfl rfl rfl rfl (Nat.le_of_ble_eq_true rfl) ⟨Nat.zero_le _, Nat.zero_le _⟩ dX4_tellBack_15) [0, 1, 2, 3, 4, 5, 6, 7, 8, 14, 15, 16, 17, 18, 19, 10] [9, 11, 12, 13] rfl rfl rfl rfl rfl (fun _ => rfl) (fun _ => rfl) (fun _ => rfl) (fun uz hF => ?_)
  obtain ⟨T_2, r_3⟩ := uz
  refine zv_aload_n (pc := 18) C rfl 0 rfl dX4_tellBack_18 ?_
  refine zv_aload_n (pc := 19) C rfl 1 rfl dX4_tellBack_19 ?_
  refine zv_get (pc := 20) (CC := RX0) (T := TX0) (N := 4) (ci := 0) (v := .ref qF1) C zi_X4_tellBack_X0 9 rfl 1 (by decide) zf_X4_tellBack_85 rfl rfl dX4_tellBack_20 ?_
  refine zv_aload_n (pc := 23) C rfl 2 rfl dX4_tellBack_23 ?_
  refine zv_iconst (pc := 24) (v := 1) C (by decide) dX4_tellBack_24 ?_
  refine zv_cv0 (pc := 25) (ws' := (fun uz : zMem × zRow => (zd_X4_tellBack cI adT qT0 qT1 qT2 qT3 qT4 qT5 qT6 qT7 adF qF0 qF1 qF2 qF3 adP qP0 qP1 qP2 qP3 qP4 uz.1 (zset (zset F 0 r_3) 1 uz.2) P))) C (zv_runV (As := [.ref qF1, .ref adP, .int (1 : Int32)]) (b := adT) (rest := []) (ci := 3) (q0 := 0) C (zc_X4_tellSquares l G cI adT qT0 qT1 qT2 qT3 qT4 qT5 qT6 qT7 adP qP0 qP1 qP2 qP3 qP4 qF1 T_2 P (F 1) (1 : Int32) _ hF) (cwV 3 C.2.2.2.2.1 gX4_tellBack_X4_tellSquares rfl rfl rfl zy_X4_tellSquares ⟨Nat.le_of_ble_eq_true rfl, Nat.le_of_ble_eq_true rfl⟩) rfl rfl rfl rfl rfl (Nat.le_of_ble_eq_true rfl) ⟨Nat.zero_le _, Nat.zero_le _⟩ dX4_tellBack_25) [0, 1, 2, 3, 4, 5, 6, 7, 8, 14, 15, 16, 17, 18, 19, 11] [9, 10, 12, 13] rfl rfl rfl rfl rfl (fun _ => rfl) (fun _ => rfl) (fun _ => rfl) (fun uz hF => ?_)
  obtain ⟨T_4, r_5⟩ := uz
  exact zv_vret (pc := 28) C hr hlk (T_4, (zset (zset F 0 r_3) 1 r_5)) hF rfl dX4_tellBack_28
theorem zf_X4_isStopping_21 : Cond.fieldLink RX4 21 "GlassStack$Table" "d" "[I" ∈ wsX4_isStopping := (List.mem_of_getElem? (i := 3) rfl)
theorem zf_X4_isStopping_24 : Cond.fieldLink RX4 24 "GlassStack$Table" "whole" "[I" ∈ wsX4_isStopping := (List.mem_of_getElem? (i := 5) rfl)
theorem zf_X4_isStopping_27 : Cond.fieldLink RX4 27 "GlassStack$Table" "next" "[I" ∈ wsX4_isStopping := (List.mem_of_getElem? (i := 4) rfl)
theorem zf_X4_isStopping_30 : Cond.fieldLink RX4 30 "GlassStack$Table" "line" "[I" ∈ wsX4_isStopping := (List.mem_of_getElem? (i := 1) rfl)
theorem zf_X4_isStopping_9 : Cond.fieldLink RX4 9 "GlassStack$Table" "a" "[I" ∈ wsX4_isStopping := (List.mem_of_getElem? (i := 2) rfl)
theorem zi_X4_isStopping_X4 : ∀ w ∈ wsX40, w ∈ wsX4_isStopping := fun w h => List.mem_cons_of_mem _ (List.mem_append_right _ h)
theorem zy_X4_isStopping : yX4_isStopping.cls = RX4 ∧ yX4_isStopping.cls ≠ "java/lang/invoke/MethodHandle" ∧ yX4_isStopping.cls ≠ "java/lang/invoke/VarHandle" ∧ (parseMethodDescriptor yX4_isStopping.desc).map (fun d => d.parameters.length) = some 0 := by decide +kernel
set_option maxHeartbeats 4000000 in
set_option maxRecDepth 100000 in
theorem zc_X4_isStopping (l : Launch) (G : va_G) (cI : ClassId) (adT qT0 qT1 qT2 qT3 qT4 qT5 qT6 qT7 : Nat) (T : zMem) (post : Int32 → zMem → Prop) (hF : zw_X4_isStopping T post) (sz : Nat) : Met l yX4_isStopping wsX4_isStopping rmX4_isStopping (va_Pc [.ref adT] (zv_in G cI (zd_X4_isStopping cI adT qT0 qT1 qT2 qT3 qT4 qT5 qT6 qT7 T) sz)) (va_Qi (fun (rz : Int32) (uz : zMem) => post rz uz) (fun (uz : zMem) t => zv_out G cI (va_A (zd_X4_isStopping cI adT qT0 qT1 qT2 qT3 qT4 qT5 qT6 qT7 T) sz) (zd_X4_isStopping cI adT qT0 qT1 qT2 qT3 qT4 qT5 qT6 qT7 uz) t) (va_A (zd_X4_isStopping cI adT qT0 qT1 qT2 qT3 qT4 qT5 qT6 qT7 T) sz)) 0 0 (va_A (zd_X4_isStopping cI adT qT0 qT1 qT2 qT3 qT4 qT5 qT6 qT7 T) sz) := by
  refine zv_met (cc := cX4_isStopping) (maxL := 1) (ret := (some .boolean)) (lv0 := [(0, .ref adT)]) (Qc := fun A => va_Qi (fun (rz : Int32) (uz : zMem) => post rz uz) (fun (uz : zMem) t => zv_out G cI A (zd_X4_isStopping cI adT qT0 qT1 qT2 qT3 qT4 qT5 qT6 qT7 uz) t) A) (by decide) rfl (Nat.le_of_ble_eq_true rfl) rfl ?_ sz
  intro p e s m below meth c A C hr hlk
  clear sz
  refine zv_aload_n (pc := 0) C rfl 0 rfl dX4_isStopping_0 ?_
  refine zv_get (pc := 1) (CC := RX4) (T := TX4) (N := 11) (ci := 3) (v := .ref qT6) C zi_X4_isStopping_X4 0 rfl 6 (by decide) zf_X4_isStopping_30 rfl rfl dX4_isStopping_1 ?_
  refine zv_aload_n (pc := 4) C rfl 0 rfl dX4_isStopping_4 ?_
  refine zv_get (pc := 5) (CC := RX4) (T := TX4) (N := 11) (ci := 3) (v := .ref qT0) C zi_X4_isStopping_X4 0 rfl 0 (by decide) zf_X4_isStopping_9 rfl rfl dX4_isStopping_5 ?_
  refine zv_cv0 (pc := 8) (ws' := (fun uz : zRow => (zd_X4_isStopping cI adT qT0 qT1 qT2 qT3 qT4 qT5 qT6 qT7 (zset T 6 uz)))) C (zv_runS (As := [.ref qT6, .ref qT0]) (rest := []) C (zc_X1_put l G cI qT6 qT0 8 8 (T 6) (T 0) _ hF) (va_cwS 2 C.2.2.2.2.1 gX4_isStopping_X1_put rfl rfl rfl zy_X1_put ⟨Nat.le_of_ble_eq_true rfl, Nat.le_of_ble_eq_true rfl⟩) rfl rfl (Nat.le_of_ble_eq_true rfl) ⟨Nat.zero_le _, Nat.zero_le _⟩ dX4_isStopping_8) [7, 1] [0, 2, 3, 4, 5, 6, 8] rfl rfl rfl rfl rfl (fun _ => rfl) (fun _ => rfl) (fun _ => rfl) (fun uz hF => ?_)
  obtain ⟨r_1, hE⟩ : ∃ z, z = uz := ⟨_, rfl⟩; subst hE
  refine zv_aload_n (pc := 11) C rfl 0 rfl dX4_isStopping_11 ?_
  refine zv_get (pc := 12) (CC := RX4) (T := TX4) (N := 11) (ci := 3) (v := .ref qT6) C zi_X4_isStopping_X4 0 rfl 6 (by decide) zf_X4_isStopping_30 rfl rfl dX4_isStopping_12 ?_
  refine zv_aload_n (pc := 15) C rfl 0 rfl dX4_isStopping_15 ?_
  refine zv_get (pc := 16) (CC := RX4) (T := TX4) (N := 11) (ci := 3) (v := .ref qT3) C zi_X4_isStopping_X4 0 rfl 3 (by decide) zf_X4_isStopping_21 rfl rfl dX4_isStopping_16 ?_
  refine zv_lconst (pc := 19) (v := 1) C (by decide) dX4_isStopping_19 ?_
  refine zv_cv0 (pc := 20) (ws' := (fun uz : zRow => (zd_X4_isStopping cI adT qT0 qT1 qT2 qT3 qT4 qT5 qT6 qT7 (zset T 6 uz)))) C (zv_runS (As := [.ref qT6, .ref qT3, .long (1 : Int64)]) (rest := []) C (zc_X1_gain l G cI qT6 qT3 8 8 r_1 (T 3) (1 : Int64) _ hF) (va_cwS 3 C.2.2.2.2.1 gX4_isStopping_X1_gain rfl rfl rfl zy_X1_gain ⟨Nat.le_of_ble_eq_true rfl, Nat.le_of_ble_eq_true rfl⟩) rfl rfl (Nat.le_of_ble_eq_true rfl) ⟨Nat.zero_le _, Nat.zero_le _⟩ dX4_isStopping_20) [7, 4] [0, 1, 2, 3, 5, 6, 8] rfl rfl rfl rfl rfl (fun _ => rfl) (fun _ => rfl) (fun _ => rfl) (fun uz hF => ?_)
  obtain ⟨r_2, hE⟩ : ∃ z, z = uz := ⟨_, rfl⟩; subst hE
  refine zv_aload_n (pc := 23) C rfl 0 rfl dX4_isStopping_23 ?_
  refine zv_get (pc := 24) (CC := RX4) (T := TX4) (N := 11) (ci := 3) (v := .ref qT5) C zi_X4_isStopping_X4 0 rfl 5 (by decide) zf_X4_isStopping_27 rfl rfl dX4_isStopping_24 ?_
  refine zv_aload_n (pc := 27) C rfl 0 rfl dX4_isStopping_27 ?_
  refine zv_get (pc := 28) (CC := RX4) (T := TX4) (N := 11) (ci := 3) (v := .ref qT6) C zi_X4_isStopping_X4 0 rfl 6 (by decide) zf_X4_isStopping_30 rfl rfl dX4_isStopping_28 ?_
  refine zv_cv0 (pc := 31) (ws' := (fun uz : zRow => (zd_X4_isStopping cI adT qT0 qT1 qT2 qT3 qT4 qT5 qT6 qT7 (zset (zset T 5 uz) 6 r_2)))) C (zv_runS (As := [.ref qT5, .ref qT6]) (rest := []) C (zc_X1_putSize l G cI qT5 qT6 8 8 (T 5) r_2 _ hF) (va_cwS 2 C.2.2.2.2.1 gX4_isStopping_X1_putSize rfl rfl rfl zy_X1_putSize ⟨Nat.le_of_ble_eq_true rfl, Nat.le_of_ble_eq_true rfl⟩) rfl rfl (Nat.le_of_ble_eq_true rfl) ⟨Nat.zero_le _, Nat.zero_le _⟩ dX4_isStopping_31) [6, 7] [0, 1, 2, 3, 4, 5, 8] rfl rfl rfl rfl rfl (fun _ => rfl) (fun _ => rfl) (fun _ => rfl) (fun uz hF => ?_)
  obtain ⟨r_3, hE⟩ : ∃ z, z = uz := ⟨_, rfl⟩; subst hE
  refine zv_aload_n (pc := 34) C rfl 0 rfl dX4_isStopping_34 ?_
  refine zv_get (pc := 35) (CC := RX4) (T := TX4) (N := 11) (ci := 3) (v := .ref qT5) C zi_X4_isStopping_X4 0 rfl 5 (by decide) zf_X4_isStopping_27 rfl rfl dX4_isStopping_35 ?_
  refine zv_aload_n (pc := 38) C rfl 0 rfl dX4_isStopping_38 ?_
  refine zv_get (pc := 39) (CC := RX4) (T := TX4) (N := 11) (ci := 3) (v := .ref qT4) C zi_X4_isStopping_X4 0 rfl 4 (by decide) zf_X4_isStopping_24 rfl rfl dX4_isStopping_39 ?_
  refine zv_ldc2 (pc := 42) C (v := -2) (List.mem_of_getElem? (i := 6) rfl) dX4_isStopping_42 ?_
  refine zv_cv0 (pc := 45) (ws' := (fun uz : zRow => (zd_X4_isStopping cI adT qT0 qT1 qT2 qT3 qT4 qT5 qT6 qT7 (zset (zset T 5 uz) 6 r_2)))) C (zv_runS (As := [.ref qT5, .ref qT4, .long (-2 : Int64)]) (rest := []) C (zc_X1_gain l G cI qT5 qT4 8 8 r_3 (T 4) (-2 : Int64) _ hF) (va_cwS 3 C.2.2.2.2.1 gX4_isStopping_X1_gain rfl rfl rfl zy_X1_gain ⟨Nat.le_of_ble_eq_true rfl, Nat.le_of_ble_eq_true rfl⟩) rfl rfl (Nat.le_of_ble_eq_true rfl) ⟨Nat.zero_le _, Nat.zero_le _⟩ dX4_isStopping_45) [6, 5] [0, 1, 2, 3, 4, 7, 8] rfl rfl rfl rfl rfl (fun _ => rfl) (fun _ => rfl) (fun _ => rfl) (fun uz hF => ?_)
  obtain ⟨r_4, hE⟩ : ∃ z, z = uz := ⟨_, rfl⟩; subst hE
  refine zv_aload_n (pc := 48) C rfl 0 rfl dX4_isStopping_48 ?_
  refine zv_get (pc := 49) (CC := RX4) (T := TX4) (N := 11) (ci := 3) (v := .ref qT5) C zi_X4_isStopping_X4 0 rfl 5 (by decide) zf_X4_isStopping_27 rfl rfl dX4_isStopping_49 ?_
  refine zv_ci0 (pc := 52) (ws' := (fun uz : Unit => (zd_X4_isStopping cI adT qT0 qT1 qT2 qT3 qT4 qT5 qT6 qT7 (zset (zset T 5 r_4) 6 r_2)))) C (zv_runS (As := [.ref qT5]) (rest := []) C (zc_X1_signOf l G cI qT5 8 r_4 _ hF) (va_cwS 1 C.2.2.2.2.1 gX4_isStopping_X1_signOf rfl rfl rfl zy_X1_signOf ⟨Nat.le_of_ble_eq_true rfl, Nat.le_of_ble_eq_true rfl⟩) rfl rfl (Nat.le_of_ble_eq_true rfl) ⟨Nat.zero_le _, Nat.zero_le _⟩ dX4_isStopping_52) [6] [0, 1, 2, 3, 4, 5, 7, 8] rfl rfl rfl rfl rfl (fun _ => rfl) (fun _ => rfl) (fun _ => rfl) (fun v_5 uz hF => ?_)
  refine zv_if_le (pc := 55) (tgt := 62) C dX4_isStopping_55 (by decide) (fun c_6 => ?_) (fun c_6 => ?_)
  · replace hF := And.left hF c_6
    refine zv_iconst (pc := 62) (v := 0) C (by decide) dX4_isStopping_62 ?_
    obtain ⟨hn_7, hF⟩ := hF
    exact zv_zret (pc := 63) C hr hlk (0 : Int32) (zset (zset T 5 r_4) 6 r_2) hn_7 hF rfl dX4_isStopping_63
  · replace hF := And.right hF c_6
    refine zv_iconst (pc := 58) (v := 1) C (by decide) dX4_isStopping_58 ?_
    refine zv_goto (pc := 59) (tgt := 63) C dX4_isStopping_59 (by decide) ?_
    obtain ⟨hn_8, hF⟩ := hF
    exact zv_zret (pc := 63) C hr hlk (1 : Int32) (zset (zset T 5 r_4) 6 r_2) hn_8 hF rfl dX4_isStopping_63
