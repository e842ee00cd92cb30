/-! X6_layerOn -/
def zd_X6_layerOn (cI : ClassId) (adM qM1 qM2 qM3 qM4 qM5 qM6 qM7 qM8 qM12 qM13 qM15 qM16 qM17 qM18 qM19 qM20 qM21 : Nat) (M : zMem) : va_W := [(adM, .inr (5, [.int (M 0 0), .ref qM1, .ref qM2, .ref qM3, .ref qM4, .ref qM5, .ref qM6, .ref qM7, .ref qM8, .int (M 9 0), .int (M 10 0), .int (M 11 0), .ref qM12, .ref qM13, .int (M 14 0), .ref qM15, .ref qM16, .ref qM17, .ref qM18, .ref qM19, .ref qM20, .ref qM21])), (qM1, .inl (cI, 2, .inl (M 1))), (qM2, .inl (cI, 2, .inl (M 2))), (qM3, .inl (cI, 2, .inl (M 3))), (qM4, .inl (cI, 2, .inl (M 4))), (qM5, .inl (cI, 2, .inl (M 5))), (qM6, .inl (cI, 12, .inl (M 6))), (qM7, .inl (cI, 12, .inl (M 7))), (qM8, .inl (cI, 12, .inl (M 8))), (qM12, .inl (cI, 6, .inl (M 12))), (qM13, .inl (cI, 6, .inl (M 13))), (qM15, .inl (cI, 8, .inl (M 15))), (qM16, .inl (cI, 8, .inl (M 16))), (qM17, .inl (cI, 8, .inl (M 17))), (qM18, .inl (cI, 8, .inl (M 18))), (qM19, .inl (cI, 12000, .inl (M 19))), (qM20, .inl (cI, 60, .inl (M 20))), (qM21, .inl (cI, 60, .inl (M 21)))]
abbrev rmX6_layerOn : Room := { frames := 4, cells := 0, slots := 0, locals := 100 }
def zw_X6_layerOn (M : zMem) (a1 : Int32) (a2 : Int32) (a3 : Int32) (a4 : Int32) (a5 : Int32) (post : zMem → Prop) : Prop := zw_X6_first a3 (Int32.toInt64 a4) (Int32.toInt64 a5) (fun (v_1 : Int64) => ∀ x6_2 : Int64, x6_2 = ((v_1 * (Int32.toInt64 a1)) * (Int32.toInt64 a2)) → (zw_X6_second a3 (Int32.toInt64 a4) (Int32.toInt64 a5) (fun (v_3 : Int64) => zw_X6_set M (10 : Int32) x6_2 (fun (T_4 : zMem) => zw_X6_set T_4 (11 : Int32) ((v_3 * (Int32.toInt64 a2)) * (Int32.toInt64 a2)) (fun (T_5 : zMem) => zw_X6_set T_5 (12 : Int32) ((v_3 * (Int32.toInt64 a1)) * (Int32.toInt64 a1)) (fun (T_6 : zMem) => ∀ x10_7 : Int64, x10_7 = (((Int32.toInt64 a5) * (Int32.toInt64 a5)) - ((Int32.toInt64 a4) * (Int32.toInt64 a4))) → (zw_X6_times T_6 (6 : Int32) (0 : Int32) (10 : Int32) (fun (T_8 : zMem) => zw_X6_times T_8 (33 : Int32) (1 : Int32) (12 : Int32) (fun (T_9 : zMem) => zw_X6_by T_9 (33 : Int32) x10_7 (fun (T_10 : zMem) => zw_X6_minus T_10 (6 : Int32) (6 : Int32) (33 : Int32) (fun (T_11 : zMem) => zw_X6_times T_11 (7 : Int32) (0 : Int32) (11 : Int32) (fun (T_12 : zMem) => zw_X6_times T_12 (33 : Int32) (1 : Int32) (10 : Int32) (fun (T_13 : zMem) => zw_X6_plus T_13 (7 : Int32) (7 : Int32) (33 : Int32) (fun (T_14 : zMem) => zw_X6_times T_14 (8 : Int32) (2 : Int32) (10 : Int32) (fun (T_15 : zMem) => zw_X6_times T_15 (33 : Int32) (3 : Int32) (12 : Int32) (fun (T_16 : zMem) => zw_X6_plus T_16 (8 : Int32) (8 : Int32) (33 : Int32) (fun (T_17 : zMem) => zw_X6_times T_17 (9 : Int32) (3 : Int32) (10 : Int32) (fun (T_18 : zMem) => zw_X6_times T_18 (33 : Int32) (2 : Int32) (11 : Int32) (fun (T_19 : zMem) => zw_X6_by T_19 (33 : Int32) x10_7 (fun (T_20 : zMem) => zw_X6_minus T_20 (9 : Int32) (9 : Int32) (33 : Int32) (fun (T_21 : zMem) => zw_X6_copy T_21 (0 : Int32) (6 : Int32) (fun (T_22 : zMem) => zw_X6_copy T_22 (1 : Int32) (7 : Int32) (fun (T_23 : zMem) => zw_X6_copy T_23 (2 : Int32) (8 : Int32) (fun (T_24 : zMem) => zw_X6_copy T_24 (3 : Int32) (9 : Int32) (fun (T_25 : zMem) => zw_X6_power (Int32.toInt64 a5) a3 (fun (v_26 : Int64) => zw_X6_by T_25 (4 : Int32) ((v_26 * (Int32.toInt64 a1)) * (Int32.toInt64 a2)) (fun (T_27 : zMem) => post T_27)))))))))))))))))))))))))))
/-! X6_table -/
def zd_X6_table (cI : ClassId) (adM qM1 qM2 qM3 qM4 qM5 qM6 qM7 qM8 qM12 qM13 qM15 qM16 qM17 qM18 qM19 qM20 qM21 : Nat) (M : zMem) : va_W := [(adM, .inr (5, [.int (M 0 0), .ref qM1, .ref qM2, .ref qM3, .ref qM4, .ref qM5, .ref qM6, .ref qM7, .ref qM8, .int (M 9 0), .int (M 10 0), .int (M 11 0), .ref qM12, .ref qM13, .int (M 14 0), .ref qM15, .ref qM16, .ref qM17, .ref qM18, .ref qM19, .ref qM20, .ref qM21])), (qM1, .inl (cI, 2, .inl (M 1))), (qM2, .inl (cI, 2, .inl (M 2))), (qM3, .inl (cI, 2, .inl (M 3))), (qM4, .inl (cI, 2, .inl (M 4))), (qM5, .inl (cI, 2, .inl (M 5))), (qM6, .inl (cI, 12, .inl (M 6))), (qM7, .inl (cI, 12, .inl (M 7))), (qM8, .inl (cI, 12, .inl (M 8))), (qM12, .inl (cI, 6, .inl (M 12))), (qM13, .inl (cI, 6, .inl (M 13))), (qM15, .inl (cI, 8, .inl (M 15))), (qM16, .inl (cI, 8, .inl (M 16))), (qM17, .inl (cI, 8, .inl (M 17))), (qM18, .inl (cI, 8, .inl (M 18))), (qM19, .inl (cI, 12000, .inl (M 19))), (qM20, .inl (cI, 60, .inl (M 20))), (qM21, .inl (cI, 60, .inl (M 21)))]
abbrev rmX6_table : Room := { frames := 5, cells := 0, slots := 0, locals := 131 }
def zw_X6_table_33 (c1 : Int32) (c2 : Int32) (c3 : Int32) (K92 : zMem → Prop) : Nat → Int32 → zMem → Prop
  | 0, _, _ => False
  | k + 1, p4, M => (vp_in c1 2 ∧ ((((M 5) (Int32.toNatClampNeg c1)) ≤ p4 → (K92 M)) ∧ (¬ ((M 5) (Int32.toNatClampNeg c1)) ≤ p4 → (vp_in (((6 : Int32) * c1) + p4) 12 ∧ (vp_in (((6 : Int32) * c1) + p4) 12 ∧ (vp_in (((6 : Int32) * c1) + p4) 12 ∧ zw_X6_layerOn M ((M 6) (Int32.toNatClampNeg (((6 : Int32) * c1) + p4))) ((M 7) (Int32.toNatClampNeg (((6 : Int32) * c1) + p4))) ((M 8) (Int32.toNatClampNeg (((6 : Int32) * c1) + p4))) c2 c3 (fun (T_11 : zMem) => ∀ x4_12 : Int32, x4_12 = p4 + (1 : Int32) → ((zw_X6_table_33 c1 c2 c3 K92 k x4_12 T_11)))))))))
def zw_X6_table (M : zMem) (a1 : Int32) (a2 : Int32) (a3 : Int32) (post : zMem → Prop) : Prop := zw_X6_set M (0 : Int32) (1 : Int64) (fun (T_1 : zMem) => zw_X6_set T_1 (3 : Int32) (1 : Int64) (fun (T_2 : zMem) => zw_X6_set T_2 (1 : Int32) (0 : Int64) (fun (T_3 : zMem) => zw_X6_set T_3 (2 : Int32) (0 : Int64) (fun (T_4 : zMem) => zw_X6_set T_4 (4 : Int32) (1 : Int64) (fun (T_5 : zMem) => (∃ kf, zw_X6_table_33 a1 a2 a3 (fun (T_13 : zMem) => zw_X6_copy T_13 (5 : Int32) (4 : Int32) (fun (T_14 : zMem) => (vp_in a1 2 ∧ ((((T_14 5) (Int32.toNatClampNeg a1)) ≤ 0 → post T_14) ∧ (¬ ((T_14 5) (Int32.toNatClampNeg a1)) ≤ 0 → zw_X6_set T_14 (32 : Int32) (Int32.toInt64 a3) (fun (T_17 : zMem) => zw_X6_divide T_17 (5 : Int32) (32 : Int32) (fun (T_18 : zMem) => post T_18))))))) kf (0 : Int32) T_5))))))
/-! X6_backOf -/
def zd_X6_backOf (cI : ClassId) (adM qM1 qM2 qM3 qM4 qM5 qM6 qM7 qM8 qM12 qM13 qM15 qM16 qM17 qM18 qM19 qM20 qM21 : Nat) (M : zMem) : va_W := [(adM, .inr (5, [.int (M 0 0), .ref qM1, .ref qM2, .ref qM3, .ref qM4, .ref qM5, .ref qM6, .ref qM7, .ref qM8, .int (M 9 0), .int (M 10 0), .int (M 11 0), .ref qM12, .ref qM13, .int (M 14 0), .ref qM15, .ref qM16, .ref qM17, .ref qM18, .ref qM19, .ref qM20, .ref qM21])), (qM1, .inl (cI, 2, .inl (M 1))), (qM2, .inl (cI, 2, .inl (M 2))), (qM3, .inl (cI, 2, .inl (M 3))), (qM4, .inl (cI, 2, .inl (M 4))), (qM5, .inl (cI, 2, .inl (M 5))), (qM6, .inl (cI, 12, .inl (M 6))), (qM7, .inl (cI, 12, .inl (M 7))), (qM8, .inl (cI, 12, .inl (M 8))), (qM12, .inl (cI, 6, .inl (M 12))), (qM13, .inl (cI, 6, .inl (M 13))), (qM15, .inl (cI, 8, .inl (M 15))), (qM16, .inl (cI, 8, .inl (M 16))), (qM17, .inl (cI, 8, .inl (M 17))), (qM18, .inl (cI, 8, .inl (M 18))), (qM19, .inl (cI, 12000, .inl (M 19))), (qM20, .inl (cI, 60, .inl (M 20))), (qM21, .inl (cI, 60, .inl (M 21)))]
abbrev rmX6_backOf : Room := { frames := 6, cells := 0, slots := 0, locals := 155 }
def zw_X6_backOf_23 (c1 : Int32) (c4 : Int64) (K251 : zMem → Prop) : Nat → Int32 → zMem → Prop
  | 0, _, _ => False
  | k + 1, p6, M => (((2 : Int32) ≤ p6 → (K251 M)) ∧ (¬ (2 : Int32) ≤ p6 → (∃ KJ_6 : Int32 → Prop, (∀ (v_5 : Int32), KJ_6 v_5 → zw_X6_copy M (10 : Int32) (0 : Int32) (fun (T_7 : zMem) => (vp_in c1 2 ∧ (vp_in c1 2 ∧ zw_X6_by T_7 (10 : Int32) (Int32.toInt64 (((T_7 1) (Int32.toNatClampNeg c1)) * ((T_7 4) (Int32.toNatClampNeg c1)))) (fun (T_10 : zMem) => zw_X6_copy T_10 (33 : Int32) (3 : Int32) (fun (T_11 : zMem) => (vp_in c1 2 ∧ (vp_in c1 2 ∧ zw_X6_by T_11 (33 : Int32) (Int32.toInt64 (((T_11 3) (Int32.toNatClampNeg c1)) * ((T_11 2) (Int32.toNatClampNeg c1)))) (fun (T_14 : zMem) => (∃ KJ_17 : zMem → Prop, (∀ (T_16 : zMem), KJ_17 T_16 → zw_X6_copy T_16 (11 : Int32) (1 : Int32) (fun (T_18 : zMem) => (vp_in c1 2 ∧ (vp_in c1 2 ∧ zw_X6_by T_18 (11 : Int32) (Int32.toInt64 (((T_18 1) (Int32.toNatClampNeg c1)) * ((T_18 3) (Int32.toNatClampNeg c1)))) (fun (T_21 : zMem) => zw_X6_copy T_21 (33 : Int32) (2 : Int32) (fun (T_22 : zMem) => (vp_in c1 2 ∧ (vp_in c1 2 ∧ zw_X6_by T_22 (33 : Int32) (Int32.toInt64 (((T_22 2) (Int32.toNatClampNeg c1)) * ((T_22 4) (Int32.toNatClampNeg c1)))) (fun (T_25 : zMem) => (∃ KJ_28 : zMem → Prop, (∀ (T_27 : zMem), KJ_28 T_27 → zw_X6_times T_27 (12 : Int32) (10 : Int32) (10 : Int32) (fun (T_29 : zMem) => zw_X6_times T_29 (13 : Int32) (11 : Int32) (11 : Int32) (fun (T_30 : zMem) => zw_X6_by T_30 (13 : Int32) c4 (fun (T_31 : zMem) => zw_X6_plus T_31 v_5 (12 : Int32) (13 : Int32) (fun (T_32 : zMem) => ∀ x6_33 : Int32, x6_33 = p6 + (1 : Int32) → ((zw_X6_backOf_23 c1 c4 K251 k x6_33 T_32))))))) ∧ ((¬ p6 = 0 → zw_X6_plus T_25 (11 : Int32) (11 : Int32) (33 : Int32) (fun (T_34 : zMem) => (KJ_28 T_34))) ∧ (p6 = 0 → zw_X6_minus T_25 (11 : Int32) (11 : Int32) (33 : Int32) (fun (T_35 : zMem) => (KJ_28 T_35)))))))))))))) ∧ ((¬ p6 = 0 → zw_X6_plus T_14 (10 : Int32) (10 : Int32) (33 : Int32) (fun (T_36 : zMem) => (KJ_17 T_36))) ∧ (p6 = 0 → zw_X6_minus T_14 (10 : Int32) (10 : Int32) (33 : Int32) (fun (T_37 : zMem) => (KJ_17 T_37)))))))))))))) ∧ ((¬ p6 = 0 → (KJ_6 (15 : Int32))) ∧ (p6 = 0 → (KJ_6 (14 : Int32)))))))
def zw_X6_backOf (M : zMem) (a1 : Int32) (a2 : Int32) (a3 : Int32) (post : zMem → Prop) : Prop := zw_X6_table M a1 a2 a3 (fun (T_1 : zMem) => ∀ x4_2 : Int64, x4_2 = (((Int32.toInt64 a3) * (Int32.toInt64 a3)) - ((Int32.toInt64 a2) * (Int32.toInt64 a2))) → ((∃ kf, zw_X6_backOf_23 a1 x4_2 (fun (T_38 : zMem) => post T_38) kf (0 : Int32) T_1)))
/-! X6_against -/
def zd_X6_against (cI : ClassId) (adM qM1 qM2 qM3 qM4 qM5 qM6 qM7 qM8 qM12 qM13 qM15 qM16 qM17 qM18 qM19 qM20 qM21 : Nat) (M : zMem) : va_W := [(adM, .inr (5, [.int (M 0 0), .ref qM1, .ref qM2, .ref qM3, .ref qM4, .ref qM5, .ref qM6, .ref qM7, .ref qM8, .int (M 9 0), .int (M 10 0), .int (M 11 0), .ref qM12, .ref qM13, .int (M 14 0), .ref qM15, .ref qM16, .ref qM17, .ref qM18, .ref qM19, .ref qM20, .ref qM21])), (qM1, .inl (cI, 2, .inl (M 1))), (qM2, .inl (cI, 2, .inl (M 2))), (qM3, .inl (cI, 2, .inl (M 3))), (qM4, .inl (cI, 2, .inl (M 4))), (qM5, .inl (cI, 2, .inl (M 5))), (qM6, .inl (cI, 12, .inl (M 6))), (qM7, .inl (cI, 12, .inl (M 7))), (qM8, .inl (cI, 12, .inl (M 8))), (qM12, .inl (cI, 6, .inl (M 12))), (qM13, .inl (cI, 6, .inl (M 13))), (qM15, .inl (cI, 8, .inl (M 15))), (qM16, .inl (cI, 8, .inl (M 16))), (qM17, .inl (cI, 8, .inl (M 17))), (qM18, .inl (cI, 8, .inl (M 18))), (qM19, .inl (cI, 12000, .inl (M 19))), (qM20, .inl (cI, 60, .inl (M 20))), (qM21, .inl (cI, 60, .inl (M 21)))]
abbrev rmX6_against : Room := { frames := 3, cells := 0, slots := 0, locals := 67 }
def zw_X6_against (M : zMem) (a1 : Int32) (a2 : Int32) (post : Int32 → zMem → Prop) : Prop := zw_X6_times M (32 : Int32) (14 : Int32) a2 (fun (T_1 : zMem) => zw_X6_times T_1 (33 : Int32) a1 (15 : Int32) (fun (T_2 : zMem) => zw_X6_compare T_2 (32 : Int32) (33 : Int32) (fun (v_3 : Int32) => post v_3 T_2)))
/-! X6_isIndex -/
def zd_X6_isIndex (cI : ClassId) : va_W := []
abbrev rmX6_isIndex : Room := { frames := 0, cells := 0, slots := 0, locals := 0 }
def zw_X6_isIndex (a1 : Int32) (a2 : Int32) (post : Int32 → Prop) : Prop := ((a1 < (1 : Int32) → (narrow .boolean (.int (0 : Int32)) = .int (0 : Int32) ∧ post (0 : Int32) )) ∧ (¬ a1 < (1 : Int32) → (((9 : Int32) < a1 → (narrow .boolean (.int (0 : Int32)) = .int (0 : Int32) ∧ post (0 : Int32) )) ∧ (¬ (9 : Int32) < a1 → ((a2 < (1 : Int32) → (narrow .boolean (.int (0 : Int32)) = .int (0 : Int32) ∧ post (0 : Int32) )) ∧ (¬ a2 < (1 : Int32) → (((9 : Int32) < a2 → (narrow .boolean (.int (0 : Int32)) = .int (0 : Int32) ∧ post (0 : Int32) )) ∧ (¬ (9 : Int32) < a2 → (narrow .boolean (.int (1 : Int32)) = .int (1 : Int32) ∧ post (1 : Int32) )))))))))
/-! X6_shared -/
def zd_X6_shared (cI : ClassId) : va_W := []
abbrev rmX6_shared : Room := { frames := 0, cells := 0, slots := 0, locals := 0 }
def zw_X6_shared_4 (K21 : Int32 → Prop) : Nat → Int32 → Int32 → Prop
  | 0, _, _ => False
  | k + 1, p2, p3 => ((p3 ≤ 0 → (K21 p2)) ∧ (¬ p3 ≤ 0 → (¬ p3 = 0 ∧ ∀ x4_3 : Int32, x4_3 = (p2 - p2 / p3 * p3) → ((zw_X6_shared_4 K21 k p3 x4_3)))))
def zw_X6_shared (a1 : Int32) (a2 : Int32) (post : Int32 → Prop) : Prop := (∃ kf, zw_X6_shared_4  (fun (x2_4 : Int32) => post x2_4 ) kf a1 a2)
/-! X6_edge -/
def zd_X6_edge (cI : ClassId) (adM qM1 qM2 qM3 qM4 qM5 qM6 qM7 qM8 qM12 qM13 qM15 qM16 qM17 qM18 qM19 qM20 qM21 : Nat) (M : zMem) : va_W := [(adM, .inr (5, [.int (M 0 0), .ref qM1, .ref qM2, .ref qM3, .ref qM4, .ref qM5, .ref qM6, .ref qM7, .ref qM8, .int (M 9 0), .int (M 10 0), .int (M 11 0), .ref qM12, .ref qM13, .int (M 14 0), .ref qM15, .ref qM16, .ref qM17, .ref qM18, .ref qM19, .ref qM20, .ref qM21])), (qM1, .inl (cI, 2, .inl (M 1))), (qM2, .inl (cI, 2, .inl (M 2))), (qM3, .inl (cI, 2, .inl (M 3))), (qM4, .inl (cI, 2, .inl (M 4))), (qM5, .inl (cI, 2, .inl (M 5))), (qM6, .inl (cI, 12, .inl (M 6))), (qM7, .inl (cI, 12, .inl (M 7))), (qM8, .inl (cI, 12, .inl (M 8))), (qM12, .inl (cI, 6, .inl (M 12))), (qM13, .inl (cI, 6, .inl (M 13))), (qM15, .inl (cI, 8, .inl (M 15))), (qM16, .inl (cI, 8, .inl (M 16))), (qM17, .inl (cI, 8, .inl (M 17))), (qM18, .inl (cI, 8, .inl (M 18))), (qM19, .inl (cI, 12000, .inl (M 19))), (qM20, .inl (cI, 60, .inl (M 20))), (qM21, .inl (cI, 60, .inl (M 21)))]
abbrev rmX6_edge : Room := { frames := 2, cells := 0, slots := 0, locals := 43 }
def zw_X6_edge (M : zMem) (a1 : Int32) (a2 : Int32) (a3 : Int32) (a4 : Int32) (post : zMem → Prop) : Prop := zw_X6_isStack M a1 (fun (v_2 : Int32) (T_1 : zMem) => ((v_2 = 0 → post T_1) ∧ (¬ v_2 = 0 → ((a2 = 0 → zw_X6_isIndex a3 a4 (fun (v_5 : Int32) => (∃ KJ_8 : Int32 → Prop, (∀ (v_7 : Int32), KJ_8 v_7 → zw_X6_right T_1 v_7 (2 : Int32) (fun (v_10 : Int32) (T_9 : zMem) => ((¬ v_10 = 0 → zw_X6_shared a3 a4 (fun (v_12 : Int32) => ((¬ a2 = 0 → (¬ v_12 = 0 ∧ (vp_in a1 2 ∧ ∀ r_16 : zRow, r_16 = (upd (T_9 3) (Int32.toNatClampNeg a1) (a3 / v_12)) → ((¬ v_12 = 0 ∧ (vp_in a1 2 ∧ ∀ r_19 : zRow, r_19 = (upd (T_9 4) (Int32.toNatClampNeg a1) (a4 / v_12)) → (post (zset (zset T_9 3 r_16) 4 r_19)))))))) ∧ (a2 = 0 → (¬ v_12 = 0 ∧ (vp_in a1 2 ∧ ∀ r_22 : zRow, r_22 = (upd (T_9 1) (Int32.toNatClampNeg a1) (a3 / v_12)) → ((¬ v_12 = 0 ∧ (vp_in a1 2 ∧ ∀ r_25 : zRow, r_25 = (upd (T_9 2) (Int32.toNatClampNeg a1) (a4 / v_12)) → (post (zset (zset T_9 1 r_22) 2 r_25))))))))))) ∧ (v_10 = 0 → post T_9)))) ∧ ((v_5 = 0 → (KJ_8 (0 : Int32))) ∧ (¬ v_5 = 0 → (KJ_8 (1 : Int32))))))) ∧ (¬ a2 = 0 → ((¬ a2 = (1 : Int32) → zw_X6_right T_1 (0 : Int32) (2 : Int32) (fun (v_28 : Int32) (T_27 : zMem) => ((¬ v_28 = 0 → zw_X6_shared a3 a4 (fun (v_30 : Int32) => ((¬ a2 = 0 → (¬ v_30 = 0 ∧ (vp_in a1 2 ∧ ∀ r_34 : zRow, r_34 = (upd (T_27 3) (Int32.toNatClampNeg a1) (a3 / v_30)) → ((¬ v_30 = 0 ∧ (vp_in a1 2 ∧ ∀ r_37 : zRow, r_37 = (upd (T_27 4) (Int32.toNatClampNeg a1) (a4 / v_30)) → (post (zset (zset T_27 3 r_34) 4 r_37)))))))) ∧ (a2 = 0 → (¬ v_30 = 0 ∧ (vp_in a1 2 ∧ ∀ r_40 : zRow, r_40 = (upd (T_27 1) (Int32.toNatClampNeg a1) (a3 / v_30)) → ((¬ v_30 = 0 ∧ (vp_in a1 2 ∧ ∀ r_43 : zRow, r_43 = (upd (T_27 2) (Int32.toNatClampNeg a1) (a4 / v_30)) → (post (zset (zset T_27 1 r_40) 2 r_43))))))))))) ∧ (v_28 = 0 → post T_27)))) ∧ (a2 = (1 : Int32) → zw_X6_isIndex a3 a4 (fun (v_44 : Int32) => (∃ KJ_47 : Int32 → Prop, (∀ (v_46 : Int32), KJ_47 v_46 → zw_X6_right T_1 v_46 (2 : Int32) (fun (v_49 : Int32) (T_48 : zMem) => ((¬ v_49 = 0 → zw_X6_shared a3 a4 (fun (v_51 : Int32) => ((¬ a2 = 0 → (¬ v_51 = 0 ∧ (vp_in a1 2 ∧ ∀ r_55 : zRow, r_55 = (upd (T_48 3) (Int32.toNatClampNeg a1) (a3 / v_51)) → ((¬ v_51 = 0 ∧ (vp_in a1 2 ∧ ∀ r_58 : zRow, r_58 = (upd (T_48 4) (Int32.toNatClampNeg a1) (a4 / v_51)) → (post (zset (zset T_48 3 r_55) 4 r_58)))))))) ∧ (a2 = 0 → (¬ v_51 = 0 ∧ (vp_in a1 2 ∧ ∀ r_61 : zRow, r_61 = (upd (T_48 1) (Int32.toNatClampNeg a1) (a3 / v_51)) → ((¬ v_51 = 0 ∧ (vp_in a1 2 ∧ ∀ r_64 : zRow, r_64 = (upd (T_48 2) (Int32.toNatClampNeg a1) (a4 / v_51)) → (post (zset (zset T_48 1 r_61) 2 r_64))))))))))) ∧ (v_49 = 0 → post T_48)))) ∧ ((v_44 = 0 → (KJ_47 (0 : Int32))) ∧ (¬ v_44 = 0 → (KJ_47 (1 : Int32)))))))))))))
/-! X6_layer -/
def zd_X6_layer (cI : ClassId) (adM qM1 qM2 qM3 qM4 qM5 qM6 qM7 qM8 qM12 qM13 qM15 qM16 qM17 qM18 qM19 qM20 qM21 : Nat) (M : zMem) : va_W := [(adM, .inr (5, [.int (M 0 0), .ref qM1, .ref qM2, .ref qM3, .ref qM4, .ref qM5, .ref qM6, .ref qM7, .ref qM8, .int (M 9 0), .int (M 10 0), .int (M 11 0), .ref qM12, .ref qM13, .int (M 14 0), .ref qM15, .ref qM16, .ref qM17, .ref qM18, .ref qM19, .ref qM20, .ref qM21])), (qM1, .inl (cI, 2, .inl (M 1))), (qM2, .inl (cI, 2, .inl (M 2))), (qM3, .inl (cI, 2, .inl (M 3))), (qM4, .inl (cI, 2, .inl (M 4))), (qM5, .inl (cI, 2, .inl (M 5))), (qM6, .inl (cI, 12, .inl (M 6))), (qM7, .inl (cI, 12, .inl (M 7))), (qM8, .inl (cI, 12, .inl (M 8))), (qM12, .inl (cI, 6, .inl (M 12))), (qM13, .inl (cI, 6, .inl (M 13))), (qM15, .inl (cI, 8, .inl (M 15))), (qM16, .inl (cI, 8, .inl (M 16))), (qM17, .inl (cI, 8, .inl (M 17))), (qM18, .inl (cI, 8, .inl (M 18))), (qM19, .inl (cI, 12000, .inl (M 19))), (qM20, .inl (cI, 60, .inl (M 20))), (qM21, .inl (cI, 60, .inl (M 21)))]
abbrev rmX6_layer : Room := { frames := 2, cells := 0, slots := 0, locals := 43 }
def zw_X6_layer_84 (c1 : Int32) (c2 : Int32) (c3 : Int32) (c4 : Int32) (c5 : Int32) (K149 : zMem → Prop) : Nat → Int32 → zMem → Prop
  | 0, _, _ => False
  | k + 1, p6, M => ((p6 ≤ (((6 : Int32) * c1) + c2) → (K149 M)) ∧ (¬ p6 ≤ (((6 : Int32) * c1) + c2) → (vp_in (p6 - (1 : Int32)) 12 ∧ (vp_in p6 12 ∧ ∀ r_16 : zRow, r_16 = (upd (M 6) (Int32.toNatClampNeg p6) ((M 6) (Int32.toNatClampNeg (p6 - (1 : Int32))))) → ((vp_in (p6 - (1 : Int32)) 12 ∧ (vp_in p6 12 ∧ ∀ r_19 : zRow, r_19 = (upd (M 7) (Int32.toNatClampNeg p6) ((M 7) (Int32.toNatClampNeg (p6 - (1 : Int32))))) → ((vp_in (p6 - (1 : Int32)) 12 ∧ (vp_in p6 12 ∧ ∀ r_22 : zRow, r_22 = (upd (M 8) (Int32.toNatClampNeg p6) ((M 8) (Int32.toNatClampNeg (p6 - (1 : Int32))))) → (∀ x6_23 : Int32, x6_23 = p6 + (-1 : Int32) → ((zw_X6_layer_84 c1 c2 c3 c4 c5 K149 k x6_23 (zset (zset (zset M 6 r_16) 7 r_19) 8 r_22))))))))))))))
def zw_X6_layer (M : zMem) (a1 : Int32) (a2 : Int32) (a3 : Int32) (a4 : Int32) (a5 : Int32) (post : Int32 → zMem → Prop) : Prop := zw_X6_isStack M a1 (fun (v_2 : Int32) (T_1 : zMem) => ((v_2 = 0 → post (0 : Int32) T_1) ∧ (¬ v_2 = 0 → zw_X6_isIndex a3 a4 (fun (v_4 : Int32) => ((v_4 = 0 → zw_X6_right T_1 (0 : Int32) (2 : Int32) (fun (v_7 : Int32) (T_6 : zMem) => ((¬ v_7 = 0 → (vp_in a1 2 ∧ ((¬ ((T_6 5) (Int32.toNatClampNeg a1)) = (6 : Int32) → (vp_in a1 2 ∧ ∀ x6_12 : Int32, x6_12 = (((6 : Int32) * a1) + ((T_6 5) (Int32.toNatClampNeg a1))) → ((∃ kf, zw_X6_layer_84 a1 a2 a3 a4 a5 (fun (T_24 : zMem) => zw_X6_shared a3 a4 (fun (v_25 : Int32) => (¬ v_25 = 0 ∧ (vp_in (((6 : Int32) * a1) + a2) 12 ∧ ∀ r_28 : zRow, r_28 = (upd (T_24 6) (Int32.toNatClampNeg (((6 : Int32) * a1) + a2)) (a3 / v_25)) → ((¬ v_25 = 0 ∧ (vp_in (((6 : Int32) * a1) + a2) 12 ∧ ∀ r_31 : zRow, r_31 = (upd (T_24 7) (Int32.toNatClampNeg (((6 : Int32) * a1) + a2)) (a4 / v_25)) → ((vp_in (((6 : Int32) * a1) + a2) 12 ∧ ∀ r_33 : zRow, r_33 = (upd (T_24 8) (Int32.toNatClampNeg (((6 : Int32) * a1) + a2)) a5) → ((vp_in a1 2 ∧ (vp_in a1 2 ∧ ∀ r_36 : zRow, r_36 = (upd (T_24 5) (Int32.toNatClampNeg a1) (((T_24 5) (Int32.toNatClampNeg a1)) + (1 : Int32))) → ((vp_in a1 2 ∧ post (r_36 (Int32.toNatClampNeg a1)) (zset (zset (zset (zset T_24 5 r_36) 6 r_28) 7 r_31) 8 r_33))))))))))))))) kf x6_12 T_6)))) ∧ (((T_6 5) (Int32.toNatClampNeg a1)) = (6 : Int32) → post (-1 : Int32) T_6)))) ∧ (v_7 = 0 → post (0 : Int32) T_6)))) ∧ (¬ v_4 = 0 → ((a5 < (1 : Int32) → zw_X6_right T_1 (0 : Int32) (2 : Int32) (fun (v_40 : Int32) (T_39 : zMem) => ((¬ v_40 = 0 → (vp_in a1 2 ∧ ((¬ ((T_39 5) (Int32.toNatClampNeg a1)) = (6 : Int32) → (vp_in a1 2 ∧ ∀ x6_45 : Int32, x6_45 = (((6 : Int32) * a1) + ((T_39 5) (Int32.toNatClampNeg a1))) → ((∃ kf, zw_X6_layer_84 a1 a2 a3 a4 a5 (fun (T_46 : zMem) => zw_X6_shared a3 a4 (fun (v_47 : Int32) => (¬ v_47 = 0 ∧ (vp_in (((6 : Int32) * a1) + a2) 12 ∧ ∀ r_50 : zRow, r_50 = (upd (T_46 6) (Int32.toNatClampNeg (((6 : Int32) * a1) + a2)) (a3 / v_47)) → ((¬ v_47 = 0 ∧ (vp_in (((6 : Int32) * a1) + a2) 12 ∧ ∀ r_53 : zRow, r_53 = (upd (T_46 7) (Int32.toNatClampNeg (((6 : Int32) * a1) + a2)) (a4 / v_47)) → ((vp_in (((6 : Int32) * a1) + a2) 12 ∧ ∀ r_55 : zRow, r_55 = (upd (T_46 8) (Int32.toNatClampNeg (((6 : Int32) * a1) + a2)) a5) → ((vp_in a1 2 ∧ (vp_in a1 2 ∧ ∀ r_58 : zRow, r_58 = (upd (T_46 5) (Int32.toNatClampNeg a1) (((T_46 5) (Int32.toNatClampNeg a1)) + (1 : Int32))) → ((vp_in a1 2 ∧ post (r_58 (Int32.toNatClampNeg a1)) (zset (zset (zset (zset T_46 5 r_58) 6 r_50) 7 r_53) 8 r_55))))))))))))))) kf x6_45 T_39)))) ∧ (((T_39 5) (Int32.toNatClampNeg a1)) = (6 : Int32) → post (-1 : Int32) T_39)))) ∧ (v_40 = 0 → post (0 : Int32) T_39)))) ∧ (¬ a5 < (1 : Int32) → (((4 : Int32) < a5 → zw_X6_right T_1 (0 : Int32) (2 : Int32) (fun (v_62 : Int32) (T_61 : zMem) => ((¬ v_62 = 0 → (vp_in a1 2 ∧ ((¬ ((T_61 5) (Int32.toNatClampNeg a1)) = (6 : Int32) → (vp_in a1 2 ∧ ∀ x6_67 : Int32, x6_67 = (((6 : Int32) * a1) + ((T_61 5) (Int32.toNatClampNeg a1))) → ((∃ kf, zw_X6_layer_84 a1 a2 a3 a4 a5 (fun (T_68 : zMem) => zw_X6_shared a3 a4 (fun (v_69 : Int32) => (¬ v_69 = 0 ∧ (vp_in (((6 : Int32) * a1) + a2) 12 ∧ ∀ r_72 : zRow, r_72 = (upd (T_68 6) (Int32.toNatClampNeg (((6 : Int32) * a1) + a2)) (a3 / v_69)) → ((¬ v_69 = 0 ∧ (vp_in (((6 : Int32) * a1) + a2) 12 ∧ ∀ r_75 : zRow, r_75 = (upd (T_68 7) (Int32.toNatClampNeg (((6 : Int32) * a1) + a2)) (a4 / v_69)) → ((vp_in (((6 : Int32) * a1) + a2) 12 ∧ ∀ r_77 : zRow, r_77 = (upd (T_68 8) (Int32.toNatClampNeg (((6 : Int32) * a1) + a2)) a5) → ((vp_in a1 2 ∧ (vp_in a1 2 ∧ ∀ r_80 : zRow, r_80 = (upd (T_68 5) (Int32.toNatClampNeg a1) (((T_68 5) (Int32.toNatClampNeg a1)) + (1 : Int32))) → ((vp_in a1 2 ∧ post (r_80 (Int32.toNatClampNeg a1)) (zset (zset (zset (zset T_68 5 r_80) 6 r_72) 7 r_75) 8 r_77))))))))))))))) kf x6_67 T_61)))) ∧ (((T_61 5) (Int32.toNatClampNeg a1)) = (6 : Int32) → post (-1 : Int32) T_61)))) ∧ (v_62 = 0 → post (0 : Int32) T_61)))) ∧ (¬ (4 : Int32) < a5 → ((a2 < 0 → zw_X6_right T_1 (0 : Int32) (2 : Int32) (fun (v_84 : Int32) (T_83 : zMem) => ((¬ v_84 = 0 → (vp_in a1 2 ∧ ((¬ ((T_83 5) (Int32.toNatClampNeg a1)) = (6 : Int32) → (vp_in a1 2 ∧ ∀ x6_89 : Int32, x6_89 = (((6 : Int32) * a1) + ((T_83 5) (Int32.toNatClampNeg a1))) → ((∃ kf, zw_X6_layer_84 a1 a2 a3 a4 a5 (fun (T_90 : zMem) => zw_X6_shared a3 a4 (fun (v_91 : Int32) => (¬ v_91 = 0 ∧ (vp_in (((6 : Int32) * a1) + a2) 12 ∧ ∀ r_94 : zRow, r_94 = (upd (T_90 6) (Int32.toNatClampNeg (((6 : Int32) * a1) + a2)) (a3 / v_91)) → ((¬ v_91 = 0 ∧ (vp_in (((6 : Int32) * a1) + a2) 12 ∧ ∀ r_97 : zRow, r_97 = (upd (T_90 7) (Int32.toNatClampNeg (((6 : Int32) * a1) + a2)) (a4 / v_91)) → ((vp_in (((6 : Int32) * a1) + a2) 12 ∧ ∀ r_99 : zRow, r_99 = (upd (T_90 8) (Int32.toNatClampNeg (((6 : Int32) * a1) + a2)) a5) → ((vp_in a1 2 ∧ (vp_in a1 2 ∧ ∀ r_102 : zRow, r_102 = (upd (T_90 5) (Int32.toNatClampNeg a1) (((T_90 5) (Int32.toNatClampNeg a1)) + (1 : Int32))) → ((vp_in a1 2 ∧ post (r_102 (Int32.toNatClampNeg a1)) (zset (zset (zset (zset T_90 5 r_102) 6 r_94) 7 r_97) 8 r_99))))))))))))))) kf x6_89 T_83)))) ∧ (((T_83 5) (Int32.toNatClampNeg a1)) = (6 : Int32) → post (-1 : Int32) T_83)))) ∧ (v_84 = 0 → post (0 : Int32) T_83)))) ∧ (¬ a2 < 0 → (vp_in a1 2 ∧ (∃ KJ_107 : Int32 → Prop, (∀ (v_106 : Int32), KJ_107 v_106 → zw_X6_right T_1 v_106 (2 : Int32) (fun (v_109 : Int32) (T_108 : zMem) => ((¬ v_109 = 0 → (vp_in a1 2 ∧ ((¬ ((T_108 5) (Int32.toNatClampNeg a1)) = (6 : Int32) → (vp_in a1 2 ∧ ∀ x6_114 : Int32, x6_114 = (((6 : Int32) * a1) + ((T_108 5) (Int32.toNatClampNeg a1))) → ((∃ kf, zw_X6_layer_84 a1 a2 a3 a4 a5 (fun (T_115 : zMem) => zw_X6_shared a3 a4 (fun (v_116 : Int32) => (¬ v_116 = 0 ∧ (vp_in (((6 : Int32) * a1) + a2) 12 ∧ ∀ r_119 : zRow, r_119 = (upd (T_115 6) (Int32.toNatClampNeg (((6 : Int32) * a1) + a2)) (a3 / v_116)) → ((¬ v_116 = 0 ∧ (vp_in (((6 : Int32) * a1) + a2) 12 ∧ ∀ r_122 : zRow, r_122 = (upd (T_115 7) (Int32.toNatClampNeg (((6 : Int32) * a1) + a2)) (a4 / v_116)) → ((vp_in (((6 : Int32) * a1) + a2) 12 ∧ ∀ r_124 : zRow, r_124 = (upd (T_115 8) (Int32.toNatClampNeg (((6 : Int32) * a1) + a2)) a5) → ((vp_in a1 2 ∧ (vp_in a1 2 ∧ ∀ r_127 : zRow, r_127 = (upd (T_115 5) (Int32.toNatClampNeg a1) (((T_115 5) (Int32.toNatClampNeg a1)) + (1 : Int32))) → ((vp_in a1 2 ∧ post (r_127 (Int32.toNatClampNeg a1)) (zset (zset (zset (zset T_115 5 r_127) 6 r_119) 7 r_122) 8 r_124))))))))))))))) kf x6_114 T_108)))) ∧ (((T_108 5) (Int32.toNatClampNeg a1)) = (6 : Int32) → post (-1 : Int32) T_108)))) ∧ (v_109 = 0 → post (0 : Int32) T_108)))) ∧ ((((T_1 5) (Int32.toNatClampNeg a1)) < a2 → (KJ_107 (0 : Int32))) ∧ (¬ ((T_1 5) (Int32.toNatClampNeg a1)) < a2 → (KJ_107 (1 : Int32))))))))))))))))))
/-! X6_drop -/
def zd_X6_drop (cI : ClassId) (adM qM1 qM2 qM3 qM4 qM5 qM6 qM7 qM8 qM12 qM13 qM15 qM16 qM17 qM18 qM19 qM20 qM21 : Nat) (M : zMem) : va_W := [(adM, .inr (5, [.int (M 0 0), .ref qM1, .ref qM2, .ref qM3, .ref qM4, .ref qM5, .ref qM6, .ref qM7, .ref qM8, .int (M 9 0), .int (M 10 0), .int (M 11 0), .ref qM12, .ref qM13, .int (M 14 0), .ref qM15, .ref qM16, .ref qM17, .ref qM18, .ref qM19, .ref qM20, .ref qM21])), (qM1, .inl (cI, 2, .inl (M 1))), (qM2, .inl (cI, 2, .inl (M 2))), (qM3, .inl (cI, 2, .inl (M 3))), (qM4, .inl (cI, 2, .inl (M 4))), (qM5, .inl (cI, 2, .inl (M 5))), (qM6, .inl (cI, 12, .inl (M 6))), (qM7, .inl (cI, 12, .inl (M 7))), (qM8, .inl (cI, 12, .inl (M 8))), (qM12, .inl (cI, 6, .inl (M 12))), (qM13, .inl (cI, 6, .inl (M 13))), (qM15, .inl (cI, 8, .inl (M 15))), (qM16, .inl (cI, 8, .inl (M 16))), (qM17, .inl (cI, 8, .inl (M 17))), (qM18, .inl (cI, 8, .inl (M 18))), (qM19, .inl (cI, 12000, .inl (M 19))), (qM20, .inl (cI, 60, .inl (M 20))), (qM21, .inl (cI, 60, .inl (M 21)))]
abbrev rmX6_drop : Room := { frames := 2, cells := 0, slots := 0, locals := 43 }
def zw_X6_drop_54 (c1 : Int32) (K117 : zMem → Prop) : Nat → Int32 → zMem → Prop
  | 0, _, _ => False
  | k + 1, p3, M => (vp_in c1 2 ∧ (((((6 : Int32) * c1) + ((M 5) (Int32.toNatClampNeg c1))) ≤ p3 → (K117 M)) ∧ (¬ (((6 : Int32) * c1) + ((M 5) (Int32.toNatClampNeg c1))) ≤ p3 → (vp_in (p3 + (1 : Int32)) 12 ∧ (vp_in p3 12 ∧ ∀ r_16 : zRow, r_16 = (upd (M 6) (Int32.toNatClampNeg p3) ((M 6) (Int32.toNatClampNeg (p3 + (1 : Int32))))) → ((vp_in (p3 + (1 : Int32)) 12 ∧ (vp_in p3 12 ∧ ∀ r_19 : zRow, r_19 = (upd (M 7) (Int32.toNatClampNeg p3) ((M 7) (Int32.toNatClampNeg (p3 + (1 : Int32))))) → ((vp_in (p3 + (1 : Int32)) 12 ∧ (vp_in p3 12 ∧ ∀ r_22 : zRow, r_22 = (upd (M 8) (Int32.toNatClampNeg p3) ((M 8) (Int32.toNatClampNeg (p3 + (1 : Int32))))) → (∀ x3_23 : Int32, x3_23 = p3 + (1 : Int32) → ((zw_X6_drop_54 c1 K117 k x3_23 (zset (zset (zset M 6 r_16) 7 r_19) 8 r_22)))))))))))))))
def zw_X6_drop (M : zMem) (a1 : Int32) (a2 : Int32) (post : Int32 → zMem → Prop) : Prop := zw_X6_isStack M a1 (fun (v_2 : Int32) (T_1 : zMem) => ((v_2 = 0 → post (0 : Int32) T_1) ∧ (¬ v_2 = 0 → ((a2 < 0 → zw_X6_right T_1 (0 : Int32) (2 : Int32) (fun (v_6 : Int32) (T_5 : zMem) => ((¬ v_6 = 0 → (vp_in a1 2 ∧ (vp_in a1 2 ∧ ∀ r_10 : zRow, r_10 = (upd (T_5 5) (Int32.toNatClampNeg a1) (((T_5 5) (Int32.toNatClampNeg a1)) - (1 : Int32))) → (∀ x3_11 : Int32, x3_11 = (((6 : Int32) * a1) + a2) → ((∃ kf, zw_X6_drop_54 a1 (fun (T_24 : zMem) => (vp_in a1 2 ∧ post ((T_24 5) (Int32.toNatClampNeg a1)) T_24)) kf x3_11 (zset T_5 5 r_10))))))) ∧ (v_6 = 0 → post (0 : Int32) T_5)))) ∧ (¬ a2 < 0 → (vp_in a1 2 ∧ (∃ KJ_29 : Int32 → Prop, (∀ (v_28 : Int32), KJ_29 v_28 → zw_X6_right T_1 v_28 (2 : Int32) (fun (v_31 : Int32) (T_30 : zMem) => ((¬ v_31 = 0 → (vp_in a1 2 ∧ (vp_in a1 2 ∧ ∀ r_35 : zRow, r_35 = (upd (T_30 5) (Int32.toNatClampNeg a1) (((T_30 5) (Int32.toNatClampNeg a1)) - (1 : Int32))) → (∀ x3_36 : Int32, x3_36 = (((6 : Int32) * a1) + a2) → ((∃ kf, zw_X6_drop_54 a1 (fun (T_37 : zMem) => (vp_in a1 2 ∧ post ((T_37 5) (Int32.toNatClampNeg a1)) T_37)) kf x3_36 (zset T_30 5 r_35))))))) ∧ (v_31 = 0 → post (0 : Int32) T_30)))) ∧ ((((T_1 5) (Int32.toNatClampNeg a1)) ≤ a2 → (KJ_29 (0 : Int32))) ∧ (¬ ((T_1 5) (Int32.toNatClampNeg a1)) ≤ a2 → (KJ_29 (1 : Int32)))))))))))
/-! X6_about -/
def zd_X6_about (cI : ClassId) (adM qM1 qM2 qM3 qM4 qM5 qM6 qM7 qM8 qM12 qM13 qM15 qM16 qM17 qM18 qM19 qM20 qM21 : Nat) (M : zMem) : va_W := [(adM, .inr (5, [.int (M 0 0), .ref qM1, .ref qM2, .ref qM3, .ref qM4, .ref qM5, .ref qM6, .ref qM7, .ref qM8, .int (M 9 0), .int (M 10 0), .int (M 11 0), .ref qM12, .ref qM13, .int (M 14 0), .ref qM15, .ref qM16, .ref qM17, .ref qM18, .ref qM19, .ref qM20, .ref qM21])), (qM1, .inl (cI, 2, .inl (M 1))), (qM2, .inl (cI, 2, .inl (M 2))), (qM3, .inl (cI, 2, .inl (M 3))), (qM4, .inl (cI, 2, .inl (M 4))), (qM5, .inl (cI, 2, .inl (M 5))), (qM6, .inl (cI, 12, .inl (M 6))), (qM7, .inl (cI, 12, .inl (M 7))), (qM8, .inl (cI, 12, .inl (M 8))), (qM12, .inl (cI, 6, .inl (M 12))), (qM13, .inl (cI, 6, .inl (M 13))), (qM15, .inl (cI, 8, .inl (M 15))), (qM16, .inl (cI, 8, .inl (M 16))), (qM17, .inl (cI, 8, .inl (M 17))), (qM18, .inl (cI, 8, .inl (M 18))), (qM19, .inl (cI, 12000, .inl (M 19))), (qM20, .inl (cI, 60, .inl (M 20))), (qM21, .inl (cI, 60, .inl (M 21)))]
abbrev rmX6_about : Room := { frames := 2, cells := 0, slots := 0, locals := 43 }
def zw_X6_about (M : zMem) (a1 : Int32) (a2 : Int32) (a3 : Int32) (post : Int32 → zMem → Prop) : Prop := zw_X6_isStack M a1 (fun (v_2 : Int32) (T_1 : zMem) => ((¬ v_2 = 0 → (∃ KJ_6 : Int32 → Prop, (∀ (v_5 : Int32), KJ_6 v_5 → zw_X6_right T_1 v_5 (2 : Int32) (fun (v_8 : Int32) (T_7 : zMem) => ((¬ v_8 = 0 → ((¬ a2 = (-1 : Int32) → ((¬ a2 = (-2 : Int32) → ((¬ a2 = (-3 : Int32) → ((¬ a3 = 0 → ((¬ a3 = (1 : Int32) → (vp_in (((6 : Int32) * a1) + a2) 12 ∧ post ((T_7 8) (Int32.toNatClampNeg (((6 : Int32) * a1) + a2))) T_7)) ∧ (a3 = (1 : Int32) → (vp_in (((6 : Int32) * a1) + a2) 12 ∧ post ((T_7 7) (Int32.toNatClampNeg (((6 : Int32) * a1) + a2))) T_7)))) ∧ (a3 = 0 → (vp_in (((6 : Int32) * a1) + a2) 12 ∧ post ((T_7 6) (Int32.toNatClampNeg (((6 : Int32) * a1) + a2))) T_7)))) ∧ (a2 = (-3 : Int32) → ((¬ a3 = 0 → (vp_in a1 2 ∧ post ((T_7 4) (Int32.toNatClampNeg a1)) T_7)) ∧ (a3 = 0 → (vp_in a1 2 ∧ post ((T_7 3) (Int32.toNatClampNeg a1)) T_7)))))) ∧ (a2 = (-2 : Int32) → ((¬ a3 = 0 → (vp_in a1 2 ∧ post ((T_7 2) (Int32.toNatClampNeg a1)) T_7)) ∧ (a3 = 0 → (vp_in a1 2 ∧ post ((T_7 1) (Int32.toNatClampNeg a1)) T_7)))))) ∧ (a2 = (-1 : Int32) → (vp_in a1 2 ∧ post ((T_7 5) (Int32.toNatClampNeg a1)) T_7)))) ∧ (v_8 = 0 → post (0 : Int32) T_7)))) ∧ ((¬ a2 = (-1 : Int32) → ((a2 = (-2 : Int32) → ((a3 = 0 → (KJ_6 (1 : Int32))) ∧ (¬ a3 = 0 → ((¬ a3 = (1 : Int32) → (KJ_6 (0 : Int32))) ∧ (a3 = (1 : Int32) → (KJ_6 (1 : Int32))))))) ∧ (¬ a2 = (-2 : Int32) → ((¬ a2 = (-3 : Int32) → ((a2 < 0 → (KJ_6 (0 : Int32))) ∧ (¬ a2 < 0 → (vp_in a1 2 ∧ ((((T_1 5) (Int32.toNatClampNeg a1)) ≤ a2 → (KJ_6 (0 : Int32))) ∧ (¬ ((T_1 5) (Int32.toNatClampNeg a1)) ≤ a2 → ((a3 < 0 → (KJ_6 (0 : Int32))) ∧ (¬ a3 < 0 → (((2 : Int32) < a3 → (KJ_6 (0 : Int32))) ∧ (¬ (2 : Int32) < a3 → (KJ_6 (1 : Int32)))))))))))) ∧ (a2 = (-3 : Int32) → ((a3 = 0 → (KJ_6 (1 : Int32))) ∧ (¬ a3 = 0 → ((¬ a3 = (1 : Int32) → (KJ_6 (0 : Int32))) ∧ (a3 = (1 : Int32) → (KJ_6 (1 : Int32))))))))))) ∧ (a2 = (-1 : Int32) → ((¬ a3 = 0 → (KJ_6 (0 : Int32))) ∧ (a3 = 0 → (KJ_6 (1 : Int32)))))))) ∧ (v_2 = 0 → post (0 : Int32) T_1)))
/-! X6_changeEdges -/
def zd_X6_changeEdges (cI : ClassId) (adM qM1 qM2 qM3 qM4 qM5 qM6 qM7 qM8 qM12 qM13 qM15 qM16 qM17 qM18 qM19 qM20 qM21 : Nat) (M : zMem) : va_W := [(adM, .inr (5, [.int (M 0 0), .ref qM1, .ref qM2, .ref qM3, .ref qM4, .ref qM5, .ref qM6, .ref qM7, .ref qM8, .int (M 9 0), .int (M 10 0), .int (M 11 0), .ref qM12, .ref qM13, .int (M 14 0), .ref qM15, .ref qM16, .ref qM17, .ref qM18, .ref qM19, .ref qM20, .ref qM21])), (qM1, .inl (cI, 2, .inl (M 1))), (qM2, .inl (cI, 2, .inl (M 2))), (qM3, .inl (cI, 2, .inl (M 3))), (qM4, .inl (cI, 2, .inl (M 4))), (qM5, .inl (cI, 2, .inl (M 5))), (qM6, .inl (cI, 12, .inl (M 6))), (qM7, .inl (cI, 12, .inl (M 7))), (qM8, .inl (cI, 12, .inl (M 8))), (qM12, .inl (cI, 6, .inl (M 12))), (qM13, .inl (cI, 6, .inl (M 13))), (qM15, .inl (cI, 8, .inl (M 15))), (qM16, .inl (cI, 8, .inl (M 16))), (qM17, .inl (cI, 8, .inl (M 17))), (qM18, .inl (cI, 8, .inl (M 18))), (qM19, .inl (cI, 12000, .inl (M 19))), (qM20, .inl (cI, 60, .inl (M 20))), (qM21, .inl (cI, 60, .inl (M 21)))]
abbrev rmX6_changeEdges : Room := { frames := 0, cells := 0, slots := 0, locals := 0 }
def zw_X6_changeEdges (M : zMem) (a1 : Int32) (post : zMem → Prop) : Prop := (vp_in a1 2 ∧ ∀ x2_2 : Int32, x2_2 = ((M 1) (Int32.toNatClampNeg a1)) → ((vp_in a1 2 ∧ ∀ x3_4 : Int32, x3_4 = ((M 2) (Int32.toNatClampNeg a1)) → ((vp_in a1 2 ∧ (vp_in a1 2 ∧ ∀ r_7 : zRow, r_7 = (upd (M 1) (Int32.toNatClampNeg a1) ((M 3) (Int32.toNatClampNeg a1))) → ((vp_in a1 2 ∧ (vp_in a1 2 ∧ ∀ r_10 : zRow, r_10 = (upd (M 2) (Int32.toNatClampNeg a1) ((M 4) (Int32.toNatClampNeg a1))) → ((vp_in a1 2 ∧ ∀ r_12 : zRow, r_12 = (upd (M 3) (Int32.toNatClampNeg a1) x2_2) → ((vp_in a1 2 ∧ ∀ r_14 : zRow, r_14 = (upd (M 4) (Int32.toNatClampNeg a1) x3_4) → (post (zset (zset (zset (zset M 1 r_7) 2 r_10) 3 r_12) 4 r_14)))))))))))))))
/-! X6_turn -/
def zd_X6_turn (cI : ClassId) (adM qM1 qM2 qM3 qM4 qM5 qM6 qM7 qM8 qM12 qM13 qM15 qM16 qM17 qM18 qM19 qM20 qM21 : Nat) (M : zMem) : va_W := [(adM, .inr (5, [.int (M 0 0), .ref qM1, .ref qM2, .ref qM3, .ref qM4, .ref qM5, .ref qM6, .ref qM7, .ref qM8, .int (M 9 0), .int (M 10 0), .int (M 11 0), .ref qM12, .ref qM13, .int (M 14 0), .ref qM15, .ref qM16, .ref qM17, .ref qM18, .ref qM19, .ref qM20, .ref qM21])), (qM1, .inl (cI, 2, .inl (M 1))), (qM2, .inl (cI, 2, .inl (M 2))), (qM3, .inl (cI, 2, .inl (M 3))), (qM4, .inl (cI, 2, .inl (M 4))), (qM5, .inl (cI, 2, .inl (M 5))), (qM6, .inl (cI, 12, .inl (M 6))), (qM7, .inl (cI, 12, .inl (M 7))), (qM8, .inl (cI, 12, .inl (M 8))), (qM12, .inl (cI, 6, .inl (M 12))), (qM13, .inl (cI, 6, .inl (M 13))), (qM15, .inl (cI, 8, .inl (M 15))), (qM16, .inl (cI, 8, .inl (M 16))), (qM17, .inl (cI, 8, .inl (M 17))), (qM18, .inl (cI, 8, .inl (M 18))), (qM19, .inl (cI, 12000, .inl (M 19))), (qM20, .inl (cI, 60, .inl (M 20))), (qM21, .inl (cI, 60, .inl (M 21)))]
abbrev rmX6_turn : Room := { frames := 2, cells := 0, slots := 0, locals := 43 }
def zw_X6_turn_16 (c1 : Int32) (K150 : zMem → Prop) : Nat → Int32 → zMem → Prop
  | 0, _, _ => False
  | k + 1, p2, M => (vp_in c1 2 ∧ ((((M 5) (Int32.toNatClampNeg c1)) ≤ (((2 : Int32) * p2) + (1 : Int32)) → (K150 M)) ∧ (¬ ((M 5) (Int32.toNatClampNeg c1)) ≤ (((2 : Int32) * p2) + (1 : Int32)) → ∀ x3_7 : Int32, x3_7 = (((6 : Int32) * c1) + p2) → ((vp_in c1 2 ∧ ∀ x4_9 : Int32, x4_9 = (((((6 : Int32) * c1) + ((M 5) (Int32.toNatClampNeg c1))) - (1 : Int32)) - p2) → ((vp_in x3_7 12 ∧ ∀ x5_11 : Int32, x5_11 = ((M 6) (Int32.toNatClampNeg x3_7)) → ((vp_in x3_7 12 ∧ ∀ x6_13 : Int32, x6_13 = ((M 7) (Int32.toNatClampNeg x3_7)) → ((vp_in x3_7 12 ∧ ∀ x7_15 : Int32, x7_15 = ((M 8) (Int32.toNatClampNeg x3_7)) → ((vp_in x4_9 12 ∧ (vp_in x3_7 12 ∧ ∀ r_18 : zRow, r_18 = (upd (M 6) (Int32.toNatClampNeg x3_7) ((M 6) (Int32.toNatClampNeg x4_9))) → ((vp_in x4_9 12 ∧ (vp_in x3_7 12 ∧ ∀ r_21 : zRow, r_21 = (upd (M 7) (Int32.toNatClampNeg x3_7) ((M 7) (Int32.toNatClampNeg x4_9))) → ((vp_in x4_9 12 ∧ (vp_in x3_7 12 ∧ ∀ r_24 : zRow, r_24 = (upd (M 8) (Int32.toNatClampNeg x3_7) ((M 8) (Int32.toNatClampNeg x4_9))) → ((vp_in x4_9 12 ∧ ∀ r_26 : zRow, r_26 = (upd r_18 (Int32.toNatClampNeg x4_9) x5_11) → ((vp_in x4_9 12 ∧ ∀ r_28 : zRow, r_28 = (upd r_21 (Int32.toNatClampNeg x4_9) x6_13) → ((vp_in x4_9 12 ∧ ∀ r_30 : zRow, r_30 = (upd r_24 (Int32.toNatClampNeg x4_9) x7_15) → (∀ x2_31 : Int32, x2_31 = p2 + (1 : Int32) → ((zw_X6_turn_16 c1 K150 k x2_31 (zset (zset (zset M 6 r_26) 7 r_28) 8 r_30))))))))))))))))))))))))))))))
def zw_X6_turn (M : zMem) (a1 : Int32) (post : zMem → Prop) : Prop := zw_X6_isStack M a1 (fun (v_2 : Int32) (T_1 : zMem) => ((¬ v_2 = 0 → zw_X6_changeEdges T_1 a1 (fun (T_4 : zMem) => (∃ kf, zw_X6_turn_16 a1 (fun (T_32 : zMem) => post T_32) kf (0 : Int32) T_4))) ∧ (v_2 = 0 → post T_1)))
/-! X6_copy_ -/
def zd_X6_copy_ (cI : ClassId) (adM qM1 qM2 qM3 qM4 qM5 qM6 qM7 qM8 qM12 qM13 qM15 qM16 qM17 qM18 qM19 qM20 qM21 : Nat) (M : zMem) : va_W := [(adM, .inr (5, [.int (M 0 0), .ref qM1, .ref qM2, .ref qM3, .ref qM4, .ref qM5, .ref qM6, .ref qM7, .ref qM8, .int (M 9 0), .int (M 10 0), .int (M 11 0), .ref qM12, .ref qM13, .int (M 14 0), .ref qM15, .ref qM16, .ref qM17, .ref qM18, .ref qM19, .ref qM20, .ref qM21])), (qM1, .inl (cI, 2, .inl (M 1))), (qM2, .inl (cI, 2, .inl (M 2))), (qM3, .inl (cI, 2, .inl (M 3))), (qM4, .inl (cI, 2, .inl (M 4))), (qM5, .inl (cI, 2, .inl (M 5))), (qM6, .inl (cI, 12, .inl (M 6))), (qM7, .inl (cI, 12, .inl (M 7))), (qM8, .inl (cI, 12, .inl (M 8))), (qM12, .inl (cI, 6, .inl (M 12))), (qM13, .inl (cI, 6, .inl (M 13))), (qM15, .inl (cI, 8, .inl (M 15))), (qM16, .inl (cI, 8, .inl (M 16))), (qM17, .inl (cI, 8, .inl (M 17))), (qM18, .inl (cI, 8, .inl (M 18))), (qM19, .inl (cI, 12000, .inl (M 19))), (qM20, .inl (cI, 60, .inl (M 20))), (qM21, .inl (cI, 60, .inl (M 21)))]
abbrev rmX6_copy_ : Room := { frames := 2, cells := 0, slots := 0, locals := 43 }
def zw_X6_copy__75 (c1 : Int32) (c2 : Int32) (K153 : zMem → Prop) : Nat → Int32 → zMem → Prop
  | 0, _, _ => False
  | k + 1, p3, M => (((6 : Int32) ≤ p3 → (K153 M)) ∧ (¬ (6 : Int32) ≤ p3 → (vp_in (((6 : Int32) * c1) + p3) 12 ∧ (vp_in (((6 : Int32) * c2) + p3) 12 ∧ ∀ r_23 : zRow, r_23 = (upd (M 6) (Int32.toNatClampNeg (((6 : Int32) * c2) + p3)) ((M 6) (Int32.toNatClampNeg (((6 : Int32) * c1) + p3)))) → ((vp_in (((6 : Int32) * c1) + p3) 12 ∧ (vp_in (((6 : Int32) * c2) + p3) 12 ∧ ∀ r_26 : zRow, r_26 = (upd (M 7) (Int32.toNatClampNeg (((6 : Int32) * c2) + p3)) ((M 7) (Int32.toNatClampNeg (((6 : Int32) * c1) + p3)))) → ((vp_in (((6 : Int32) * c1) + p3) 12 ∧ (vp_in (((6 : Int32) * c2) + p3) 12 ∧ ∀ r_29 : zRow, r_29 = (upd (M 8) (Int32.toNatClampNeg (((6 : Int32) * c2) + p3)) ((M 8) (Int32.toNatClampNeg (((6 : Int32) * c1) + p3)))) → (∀ x3_30 : Int32, x3_30 = p3 + (1 : Int32) → ((zw_X6_copy__75 c1 c2 K153 k x3_30 (zset (zset (zset M 6 r_23) 7 r_26) 8 r_29))))))))))))))
def zw_X6_copy_ (M : zMem) (a1 : Int32) (post : zMem → Prop) : Prop := zw_X6_isStack M a1 (fun (v_2 : Int32) (T_1 : zMem) => ((¬ v_2 = 0 → ∀ x2_4 : Int32, x2_4 = ((1 : Int32) - a1) → ((vp_in a1 2 ∧ (vp_in x2_4 2 ∧ ∀ r_7 : zRow, r_7 = (upd (T_1 1) (Int32.toNatClampNeg x2_4) ((T_1 1) (Int32.toNatClampNeg a1))) → ((vp_in a1 2 ∧ (vp_in x2_4 2 ∧ ∀ r_10 : zRow, r_10 = (upd (T_1 2) (Int32.toNatClampNeg x2_4) ((T_1 2) (Int32.toNatClampNeg a1))) → ((vp_in a1 2 ∧ (vp_in x2_4 2 ∧ ∀ r_13 : zRow, r_13 = (upd (T_1 3) (Int32.toNatClampNeg x2_4) ((T_1 3) (Int32.toNatClampNeg a1))) → ((vp_in a1 2 ∧ (vp_in x2_4 2 ∧ ∀ r_16 : zRow, r_16 = (upd (T_1 4) (Int32.toNatClampNeg x2_4) ((T_1 4) (Int32.toNatClampNeg a1))) → ((vp_in a1 2 ∧ (vp_in x2_4 2 ∧ ∀ r_19 : zRow, r_19 = (upd (T_1 5) (Int32.toNatClampNeg x2_4) ((T_1 5) (Int32.toNatClampNeg a1))) → ((∃ kf, zw_X6_copy__75 a1 x2_4 (fun (T_31 : zMem) => post T_31) kf (0 : Int32) (zset (zset (zset (zset (zset T_1 1 r_7) 2 r_10) 3 r_13) 4 r_16) 5 r_19))))))))))))))))))) ∧ (v_2 = 0 → post T_1)))
/-! X6_light -/
def zd_X6_light (cI : ClassId) (adM qM1 qM2 qM3 qM4 qM5 qM6 qM7 qM8 qM12 qM13 qM15 qM16 qM17 qM18 qM19 qM20 qM21 : Nat) (M : zMem) : va_W := [(adM, .inr (5, [.int (M 0 0), .ref qM1, .ref qM2, .ref qM3, .ref qM4, .ref qM5, .ref qM6, .ref qM7, .ref qM8, .int (M 9 0), .int (M 10 0), .int (M 11 0), .ref qM12, .ref qM13, .int (M 14 0), .ref qM15, .ref qM16, .ref qM17, .ref qM18, .ref qM19, .ref qM20, .ref qM21])), (qM1, .inl (cI, 2, .inl (M 1))), (qM2, .inl (cI, 2, .inl (M 2))), (qM3, .inl (cI, 2, .inl (M 3))), (qM4, .inl (cI, 2, .inl (M 4))), (qM5, .inl (cI, 2, .inl (M 5))), (qM6, .inl (cI, 12, .inl (M 6))), (qM7, .inl (cI, 12, .inl (M 7))), (qM8, .inl (cI, 12, .inl (M 8))), (qM12, .inl (cI, 6, .inl (M 12))), (qM13, .inl (cI, 6, .inl (M 13))), (qM15, .inl (cI, 8, .inl (M 15))), (qM16, .inl (cI, 8, .inl (M 16))), (qM17, .inl (cI, 8, .inl (M 17))), (qM18, .inl (cI, 8, .inl (M 18))), (qM19, .inl (cI, 12000, .inl (M 19))), (qM20, .inl (cI, 60, .inl (M 20))), (qM21, .inl (cI, 60, .inl (M 21)))]
abbrev rmX6_light : Room := { frames := 1, cells := 0, slots := 0, locals := 22 }
def zw_X6_light (M : zMem) (a1 : Int32) (a2 : Int32) (post : zMem → Prop) : Prop := ((a2 < (1 : Int32) → zw_X6_right (zset M 0 (fun _ => (0 : Int32))) (0 : Int32) (1 : Int32) (fun (v_3 : Int32) (T_2 : zMem) => ((¬ v_3 = 0 → post (zset (zset T_2 9 (fun _ => a1)) 10 (fun _ => a2))) ∧ (v_3 = 0 → post T_2)))) ∧ (¬ a2 < (1 : Int32) → (((25 : Int32) < a2 → zw_X6_right (zset M 0 (fun _ => (0 : Int32))) (0 : Int32) (1 : Int32) (fun (v_7 : Int32) (T_6 : zMem) => ((¬ v_7 = 0 → post (zset (zset T_6 9 (fun _ => a1)) 10 (fun _ => a2))) ∧ (v_7 = 0 → post T_6)))) ∧ (¬ (25 : Int32) < a2 → ((a1 < (-a2) → zw_X6_right (zset M 0 (fun _ => (0 : Int32))) (0 : Int32) (1 : Int32) (fun (v_11 : Int32) (T_10 : zMem) => ((¬ v_11 = 0 → post (zset (zset T_10 9 (fun _ => a1)) 10 (fun _ => a2))) ∧ (v_11 = 0 → post T_10)))) ∧ (¬ a1 < (-a2) → (∃ KJ_15 : Int32 → Prop, (∀ (v_14 : Int32), KJ_15 v_14 → zw_X6_right (zset M 0 (fun _ => (0 : Int32))) v_14 (1 : Int32) (fun (v_17 : Int32) (T_16 : zMem) => ((¬ v_17 = 0 → post (zset (zset T_16 9 (fun _ => a1)) 10 (fun _ => a2))) ∧ (v_17 = 0 → post T_16)))) ∧ ((a2 < a1 → (KJ_15 (0 : Int32))) ∧ (¬ a2 < a1 → (KJ_15 (1 : Int32)))))))))))
/-! X6_isPart -/
def zd_X6_isPart (cI : ClassId) : va_W := []
abbrev rmX6_isPart : Room := { frames := 0, cells := 0, slots := 0, locals := 0 }
def zw_X6_isPart (a1 : Int32) (post : Int32 → Prop) : Prop := ((a1 < 0 → (narrow .boolean (.int (0 : Int32)) = .int (0 : Int32) ∧ post (0 : Int32) )) ∧ (¬ a1 < 0 → (((40 : Int32) ≤ a1 → (narrow .boolean (.int (0 : Int32)) = .int (0 : Int32) ∧ post (0 : Int32) )) ∧ (¬ (40 : Int32) ≤ a1 → (narrow .boolean (.int (1 : Int32)) = .int (1 : Int32) ∧ post (1 : Int32) )))))
/-! X6_toldPart -/
def zd_X6_toldPart (cI : ClassId) (adM qM1 qM2 qM3 qM4 qM5 qM6 qM7 qM8 qM12 qM13 qM15 qM16 qM17 qM18 qM19 qM20 qM21 : Nat) (M : zMem) : va_W := [(adM, .inr (5, [.int (M 0 0), .ref qM1, .ref qM2, .ref qM3, .ref qM4, .ref qM5, .ref qM6, .ref qM7, .ref qM8, .int (M 9 0), .int (M 10 0), .int (M 11 0), .ref qM12, .ref qM13, .int (M 14 0), .ref qM15, .ref qM16, .ref qM17, .ref qM18, .ref qM19, .ref qM20, .ref qM21])), (qM1, .inl (cI, 2, .inl (M 1))), (qM2, .inl (cI, 2, .inl (M 2))), (qM3, .inl (cI, 2, .inl (M 3))), (qM4, .inl (cI, 2, .inl (M 4))), (qM5, .inl (cI, 2, .inl (M 5))), (qM6, .inl (cI, 12, .inl (M 6))), (qM7, .inl (cI, 12, .inl (M 7))), (qM8, .inl (cI, 12, .inl (M 8))), (qM12, .inl (cI, 6, .inl (M 12))), (qM13, .inl (cI, 6, .inl (M 13))), (qM15, .inl (cI, 8, .inl (M 15))), (qM16, .inl (cI, 8, .inl (M 16))), (qM17, .inl (cI, 8, .inl (M 17))), (qM18, .inl (cI, 8, .inl (M 18))), (qM19, .inl (cI, 12000, .inl (M 19))), (qM20, .inl (cI, 60, .inl (M 20))), (qM21, .inl (cI, 60, .inl (M 21)))]
abbrev rmX6_toldPart : Room := { frames := 6, cells := 0, slots := 0, locals := 147 }
def zw_X6_toldPart (M : zMem) (a1 : Int32) (a2 : Int32) (a3 : Int32) (a4 : Int32) (post : Int32 → zMem → Prop) : Prop := zw_X6_copy M (18 : Int32) a1 (fun (T_1 : zMem) => zw_X6_copy T_1 (19 : Int32) a2 (fun (T_2 : zMem) => zw_X6_shorten T_2 (18 : Int32) (19 : Int32) (fun (T_3 : zMem) => ((a3 = 0 → zw_X6_part T_3 (18 : Int32) a4 (fun (v_5 : Int32) => post v_5 T_3)) ∧ (¬ a3 = 0 → zw_X6_part T_3 (19 : Int32) a4 (fun (v_6 : Int32) => post v_6 T_3))))))
/-! X6_back -/
def zd_X6_back (cI : ClassId) (adM qM1 qM2 qM3 qM4 qM5 qM6 qM7 qM8 qM12 qM13 qM15 qM16 qM17 qM18 qM19 qM20 qM21 : Nat) (M : zMem) : va_W := [(adM, .inr (5, [.int (M 0 0), .ref qM1, .ref qM2, .ref qM3, .ref qM4, .ref qM5, .ref qM6, .ref qM7, .ref qM8, .int (M 9 0), .int (M 10 0), .int (M 11 0), .ref qM12, .ref qM13, .int (M 14 0), .ref qM15, .ref qM16, .ref qM17, .ref qM18, .ref qM19, .ref qM20, .ref qM21])), (qM1, .inl (cI, 2, .inl (M 1))), (qM2, .inl (cI, 2, .inl (M 2))), (qM3, .inl (cI, 2, .inl (M 3))), (qM4, .inl (cI, 2, .inl (M 4))), (qM5, .inl (cI, 2, .inl (M 5))), (qM6, .inl (cI, 12, .inl (M 6))), (qM7, .inl (cI, 12, .inl (M 7))), (qM8, .inl (cI, 12, .inl (M 8))), (qM12, .inl (cI, 6, .inl (M 12))), (qM13, .inl (cI, 6, .inl (M 13))), (qM15, .inl (cI, 8, .inl (M 15))), (qM16, .inl (cI, 8, .inl (M 16))), (qM17, .inl (cI, 8, .inl (M 17))), (qM18, .inl (cI, 8, .inl (M 18))), (qM19, .inl (cI, 12000, .inl (M 19))), (qM20, .inl (cI, 60, .inl (M 20))), (qM21, .inl (cI, 60, .inl (M 21)))]
abbrev rmX6_back : Room := { frames := 7, cells := 0, slots := 0, locals := 182 }
def zw_X6_back (M : zMem) (a1 : Int32) (a2 : Int32) (a3 : Int32) (post : Int32 → zMem → Prop) : Prop := zw_X6_isStack M a1 (fun (v_2 : Int32) (T_1 : zMem) => ((v_2 = 0 → post (0 : Int32) T_1) ∧ (¬ v_2 = 0 → zw_X6_isPart a3 (fun (v_4 : Int32) => zw_X6_right T_1 v_4 (2 : Int32) (fun (v_6 : Int32) (T_5 : zMem) => ((¬ v_6 = 0 → zw_X6_backOf T_5 a1 (T_5 9 0) (T_5 10 0) (fun (T_8 : zMem) => zw_X6_toldPart T_8 (14 : Int32) (15 : Int32) a2 a3 (fun (v_10 : Int32) (T_9 : zMem) => post v_10 T_9))) ∧ (v_6 = 0 → post (0 : Int32) T_5)))))))
/-! X6_on -/
def zd_X6_on (cI : ClassId) (adM qM1 qM2 qM3 qM4 qM5 qM6 qM7 qM8 qM12 qM13 qM15 qM16 qM17 qM18 qM19 qM20 qM21 : Nat) (M : zMem) : va_W := [(adM, .inr (5, [.int (M 0 0), .ref qM1, .ref qM2, .ref qM3, .ref qM4, .ref qM5, .ref qM6, .ref qM7, .ref qM8, .int (M 9 0), .int (M 10 0), .int (M 11 0), .ref qM12, .ref qM13, .int (M 14 0), .ref qM15, .ref qM16, .ref qM17, .ref qM18, .ref qM19, .ref qM20, .ref qM21])), (qM1, .inl (cI, 2, .inl (M 1))), (qM2, .inl (cI, 2, .inl (M 2))), (qM3, .inl (cI, 2, .inl (M 3))), (qM4, .inl (cI, 2, .inl (M 4))), (qM5, .inl (cI, 2, .inl (M 5))), (qM6, .inl (cI, 12, .inl (M 6))), (qM7, .inl (cI, 12, .inl (M 7))), (qM8, .inl (cI, 12, .inl (M 8))), (qM12, .inl (cI, 6, .inl (M 12))), (qM13, .inl (cI, 6, .inl (M 13))), (qM15, .inl (cI, 8, .inl (M 15))), (qM16, .inl (cI, 8, .inl (M 16))), (qM17, .inl (cI, 8, .inl (M 17))), (qM18, .inl (cI, 8, .inl (M 18))), (qM19, .inl (cI, 12000, .inl (M 19))), (qM20, .inl (cI, 60, .inl (M 20))), (qM21, .inl (cI, 60, .inl (M 21)))]
abbrev rmX6_on : Room := { frames := 7, cells := 0, slots := 0, locals := 182 }
def zw_X6_on (M : zMem) (a1 : Int32) (a2 : Int32) (a3 : Int32) (post : Int32 → zMem → Prop) : Prop := zw_X6_isStack M a1 (fun (v_2 : Int32) (T_1 : zMem) => ((v_2 = 0 → post (0 : Int32) T_1) ∧ (¬ v_2 = 0 → zw_X6_isPart a3 (fun (v_4 : Int32) => zw_X6_right T_1 v_4 (2 : Int32) (fun (v_6 : Int32) (T_5 : zMem) => ((¬ v_6 = 0 → zw_X6_backOf T_5 a1 (T_5 9 0) (T_5 10 0) (fun (T_8 : zMem) => zw_X6_minus T_8 (14 : Int32) (15 : Int32) (14 : Int32) (fun (T_9 : zMem) => zw_X6_toldPart T_9 (14 : Int32) (15 : Int32) a2 a3 (fun (v_11 : Int32) (T_10 : zMem) => post v_11 T_10)))) ∧ (v_6 = 0 → post (0 : Int32) T_5)))))))
/-! X6_entry -/
def zd_X6_entry (cI : ClassId) (adM qM1 qM2 qM3 qM4 qM5 qM6 qM7 qM8 qM12 qM13 qM15 qM16 qM17 qM18 qM19 qM20 qM21 : Nat) (M : zMem) : va_W := [(adM, .inr (5, [.int (M 0 0), .ref qM1, .ref qM2, .ref qM3, .ref qM4, .ref qM5, .ref qM6, .ref qM7, .ref qM8, .int (M 9 0), .int (M 10 0), .int (M 11 0), .ref qM12, .ref qM13, .int (M 14 0), .ref qM15, .ref qM16, .ref qM17, .ref qM18, .ref qM19, .ref qM20, .ref qM21])), (qM1, .inl (cI, 2, .inl (M 1))), (qM2, .inl (cI, 2, .inl (M 2))), (qM3, .inl (cI, 2, .inl (M 3))), (qM4, .inl (cI, 2, .inl (M 4))), (qM5, .inl (cI, 2, .inl (M 5))), (qM6, .inl (cI, 12, .inl (M 6))), (qM7, .inl (cI, 12, .inl (M 7))), (qM8, .inl (cI, 12, .inl (M 8))), (qM12, .inl (cI, 6, .inl (M 12))), (qM13, .inl (cI, 6, .inl (M 13))), (qM15, .inl (cI, 8, .inl (M 15))), (qM16, .inl (cI, 8, .inl (M 16))), (qM17, .inl (cI, 8, .inl (M 17))), (qM18, .inl (cI, 8, .inl (M 18))), (qM19, .inl (cI, 12000, .inl (M 19))), (qM20, .inl (cI, 60, .inl (M 20))), (qM21, .inl (cI, 60, .inl (M 21)))]
abbrev rmX6_entry : Room := { frames := 7, cells := 0, slots := 0, locals := 171 }
def zw_X6_entry (M : zMem) (a1 : Int32) (a2 : Int32) (a3 : Int32) (a4 : Int32) (post : Int32 → zMem → Prop) : Prop := zw_X6_isStack M a1 (fun (v_2 : Int32) (T_1 : zMem) => ((v_2 = 0 → post (0 : Int32) T_1) ∧ (¬ v_2 = 0 → ((a2 < 0 → zw_X6_right T_1 (0 : Int32) (2 : Int32) (fun (v_6 : Int32) (T_5 : zMem) => ((¬ v_6 = 0 → zw_X6_table T_5 a1 (T_5 9 0) (T_5 10 0) (fun (T_8 : zMem) => ((a2 = 0 → zw_X6_toldPart T_8 a2 (4 : Int32) a3 a4 (fun (v_11 : Int32) (T_10 : zMem) => post v_11 T_10)) ∧ (¬ a2 = 0 → ((¬ a2 = (3 : Int32) → zw_X6_toldPart T_8 a2 (5 : Int32) a3 a4 (fun (v_14 : Int32) (T_13 : zMem) => post v_14 T_13)) ∧ (a2 = (3 : Int32) → zw_X6_toldPart T_8 a2 (4 : Int32) a3 a4 (fun (v_16 : Int32) (T_15 : zMem) => post v_16 T_15))))))) ∧ (v_6 = 0 → post (0 : Int32) T_5)))) ∧ (¬ a2 < 0 → (((3 : Int32) < a2 → zw_X6_right T_1 (0 : Int32) (2 : Int32) (fun (v_19 : Int32) (T_18 : zMem) => ((¬ v_19 = 0 → zw_X6_table T_18 a1 (T_18 9 0) (T_18 10 0) (fun (T_21 : zMem) => ((a2 = 0 → zw_X6_toldPart T_21 a2 (4 : Int32) a3 a4 (fun (v_24 : Int32) (T_23 : zMem) => post v_24 T_23)) ∧ (¬ a2 = 0 → ((¬ a2 = (3 : Int32) → zw_X6_toldPart T_21 a2 (5 : Int32) a3 a4 (fun (v_27 : Int32) (T_26 : zMem) => post v_27 T_26)) ∧ (a2 = (3 : Int32) → zw_X6_toldPart T_21 a2 (4 : Int32) a3 a4 (fun (v_29 : Int32) (T_28 : zMem) => post v_29 T_28))))))) ∧ (v_19 = 0 → post (0 : Int32) T_18)))) ∧ (¬ (3 : Int32) < a2 → zw_X6_isPart a4 (fun (v_30 : Int32) => (∃ KJ_33 : Int32 → Prop, (∀ (v_32 : Int32), KJ_33 v_32 → zw_X6_right T_1 v_32 (2 : Int32) (fun (v_35 : Int32) (T_34 : zMem) => ((¬ v_35 = 0 → zw_X6_table T_34 a1 (T_34 9 0) (T_34 10 0) (fun (T_37 : zMem) => ((a2 = 0 → zw_X6_toldPart T_37 a2 (4 : Int32) a3 a4 (fun (v_40 : Int32) (T_39 : zMem) => post v_40 T_39)) ∧ (¬ a2 = 0 → ((¬ a2 = (3 : Int32) → zw_X6_toldPart T_37 a2 (5 : Int32) a3 a4 (fun (v_43 : Int32) (T_42 : zMem) => post v_43 T_42)) ∧ (a2 = (3 : Int32) → zw_X6_toldPart T_37 a2 (4 : Int32) a3 a4 (fun (v_45 : Int32) (T_44 : zMem) => post v_45 T_44))))))) ∧ (v_35 = 0 → post (0 : Int32) T_34)))) ∧ ((v_30 = 0 → (KJ_33 (0 : Int32))) ∧ (¬ v_30 = 0 → (KJ_33 (1 : Int32)))))))))))))
/-! X6_sign -/
def zd_X6_sign (cI : ClassId) (adM qM1 qM2 qM3 qM4 qM5 qM6 qM7 qM8 qM12 qM13 qM15 qM16 qM17 qM18 qM19 qM20 qM21 : Nat) (M : zMem) : va_W := [(adM, .inr (5, [.int (M 0 0), .ref qM1, .ref qM2, .ref qM3, .ref qM4, .ref qM5, .ref qM6, .ref qM7, .ref qM8, .int (M 9 0), .int (M 10 0), .int (M 11 0), .ref qM12, .ref qM13, .int (M 14 0), .ref qM15, .ref qM16, .ref qM17, .ref qM18, .ref qM19, .ref qM20, .ref qM21])), (qM1, .inl (cI, 2, .inl (M 1))), (qM2, .inl (cI, 2, .inl (M 2))), (qM3, .inl (cI, 2, .inl (M 3))), (qM4, .inl (cI, 2, .inl (M 4))), (qM5, .inl (cI, 2, .inl (M 5))), (qM6, .inl (cI, 12, .inl (M 6))), (qM7, .inl (cI, 12, .inl (M 7))), (qM8, .inl (cI, 12, .inl (M 8))), (qM12, .inl (cI, 6, .inl (M 12))), (qM13, .inl (cI, 6, .inl (M 13))), (qM15, .inl (cI, 8, .inl (M 15))), (qM16, .inl (cI, 8, .inl (M 16))), (qM17, .inl (cI, 8, .inl (M 17))), (qM18, .inl (cI, 8, .inl (M 18))), (qM19, .inl (cI, 12000, .inl (M 19))), (qM20, .inl (cI, 60, .inl (M 20))), (qM21, .inl (cI, 60, .inl (M 21)))]
abbrev rmX6_sign : Room := { frames := 6, cells := 0, slots := 0, locals := 155 }
def zw_X6_sign (M : zMem) (a1 : Int32) (a2 : Int32) (post : Int32 → zMem → Prop) : Prop := zw_X6_isStack M a1 (fun (v_2 : Int32) (T_1 : zMem) => ((v_2 = 0 → post (0 : Int32) T_1) ∧ (¬ v_2 = 0 → ((a2 < 0 → zw_X6_right T_1 (0 : Int32) (2 : Int32) (fun (v_6 : Int32) (T_5 : zMem) => ((¬ v_6 = 0 → zw_X6_table T_5 a1 (T_5 9 0) (T_5 10 0) (fun (T_8 : zMem) => (vp_in a2 60 ∧ post ((T_8 21) (Int32.toNatClampNeg a2)) T_8))) ∧ (v_6 = 0 → post (0 : Int32) T_5)))) ∧ (¬ a2 < 0 → (∃ KJ_12 : Int32 → Prop, (∀ (v_11 : Int32), KJ_12 v_11 → zw_X6_right T_1 v_11 (2 : Int32) (fun (v_14 : Int32) (T_13 : zMem) => ((¬ v_14 = 0 → zw_X6_table T_13 a1 (T_13 9 0) (T_13 10 0) (fun (T_16 : zMem) => (vp_in a2 60 ∧ post ((T_16 21) (Int32.toNatClampNeg a2)) T_16))) ∧ (v_14 = 0 → post (0 : Int32) T_13)))) ∧ (((3 : Int32) < a2 → (KJ_12 (0 : Int32))) ∧ (¬ (3 : Int32) < a2 → (KJ_12 (1 : Int32))))))))))
/-! X6_stops -/
def zd_X6_stops (cI : ClassId) (adM qM1 qM2 qM3 qM4 qM5 qM6 qM7 qM8 qM12 qM13 qM15 qM16 qM17 qM18 qM19 qM20 qM21 : Nat) (M : zMem) : va_W := [(adM, .inr (5, [.int (M 0 0), .ref qM1, .ref qM2, .ref qM3, .ref qM4, .ref qM5, .ref qM6, .ref qM7, .ref qM8, .int (M 9 0), .int (M 10 0), .int (M 11 0), .ref qM12, .ref qM13, .int (M 14 0), .ref qM15, .ref qM16, .ref qM17, .ref qM18, .ref qM19, .ref qM20, .ref qM21])), (qM1, .inl (cI, 2, .inl (M 1))), (qM2, .inl (cI, 2, .inl (M 2))), (qM3, .inl (cI, 2, .inl (M 3))), (qM4, .inl (cI, 2, .inl (M 4))), (qM5, .inl (cI, 2, .inl (M 5))), (qM6, .inl (cI, 12, .inl (M 6))), (qM7, .inl (cI, 12, .inl (M 7))), (qM8, .inl (cI, 12, .inl (M 8))), (qM12, .inl (cI, 6, .inl (M 12))), (qM13, .inl (cI, 6, .inl (M 13))), (qM15, .inl (cI, 8, .inl (M 15))), (qM16, .inl (cI, 8, .inl (M 16))), (qM17, .inl (cI, 8, .inl (M 17))), (qM18, .inl (cI, 8, .inl (M 18))), (qM19, .inl (cI, 12000, .inl (M 19))), (qM20, .inl (cI, 60, .inl (M 20))), (qM21, .inl (cI, 60, .inl (M 21)))]
abbrev rmX6_stops : Room := { frames := 6, cells := 0, slots := 0, locals := 155 }
def zw_X6_stops (M : zMem) (a1 : Int32) (post : Int32 → zMem → Prop) : Prop := zw_X6_isStack M a1 (fun (v_2 : Int32) (T_1 : zMem) => ((¬ v_2 = 0 → zw_X6_table T_1 a1 (T_1 9 0) (T_1 10 0) (fun (T_4 : zMem) => zw_X6_plus T_4 (10 : Int32) (0 : Int32) (3 : Int32) (fun (T_5 : zMem) => zw_X6_times T_5 (11 : Int32) (10 : Int32) (10 : Int32) (fun (T_6 : zMem) => zw_X6_times T_6 (12 : Int32) (4 : Int32) (4 : Int32) (fun (T_7 : zMem) => zw_X6_by T_7 (12 : Int32) (4 : Int64) (fun (T_8 : zMem) => zw_X6_compare T_8 (11 : Int32) (12 : Int32) (fun (v_9 : Int32) => ((v_9 ≤ 0 → (narrow .boolean (.int (0 : Int32)) = .int (0 : Int32) ∧ post (0 : Int32) T_8)) ∧ (¬ v_9 ≤ 0 → (narrow .boolean (.int (1 : Int32)) = .int (1 : Int32) ∧ post (1 : Int32) T_8)))))))))) ∧ (v_2 = 0 → (narrow .boolean (.int (0 : Int32)) = .int (0 : Int32) ∧ post (0 : Int32) T_1))))
/-! X6_less -/
def zd_X6_less (cI : ClassId) (adM qM1 qM2 qM3 qM4 qM5 qM6 qM7 qM8 qM12 qM13 qM15 qM16 qM17 qM18 qM19 qM20 qM21 : Nat) (M : zMem) : va_W := [(adM, .inr (5, [.int (M 0 0), .ref qM1, .ref qM2, .ref qM3, .ref qM4, .ref qM5, .ref qM6, .ref qM7, .ref qM8, .int (M 9 0), .int (M 10 0), .int (M 11 0), .ref qM12, .ref qM13, .int (M 14 0), .ref qM15, .ref qM16, .ref qM17, .ref qM18, .ref qM19, .ref qM20, .ref qM21])), (qM1, .inl (cI, 2, .inl (M 1))), (qM2, .inl (cI, 2, .inl (M 2))), (qM3, .inl (cI, 2, .inl (M 3))), (qM4, .inl (cI, 2, .inl (M 4))), (qM5, .inl (cI, 2, .inl (M 5))), (qM6, .inl (cI, 12, .inl (M 6))), (qM7, .inl (cI, 12, .inl (M 7))), (qM8, .inl (cI, 12, .inl (M 8))), (qM12, .inl (cI, 6, .inl (M 12))), (qM13, .inl (cI, 6, .inl (M 13))), (qM15, .inl (cI, 8, .inl (M 15))), (qM16, .inl (cI, 8, .inl (M 16))), (qM17, .inl (cI, 8, .inl (M 17))), (qM18, .inl (cI, 8, .inl (M 18))), (qM19, .inl (cI, 12000, .inl (M 19))), (qM20, .inl (cI, 60, .inl (M 20))), (qM21, .inl (cI, 60, .inl (M 21)))]
abbrev rmX6_less : Room := { frames := 7, cells := 0, slots := 0, locals := 182 }
def zw_X6_less (M : zMem) (post : Int32 → zMem → Prop) : Prop := zw_X6_backOf (zset M 0 (fun _ => (0 : Int32))) (0 : Int32) (M 9 0) (M 10 0) (fun (T_1 : zMem) => zw_X6_copy T_1 (24 : Int32) (14 : Int32) (fun (T_2 : zMem) => zw_X6_copy T_2 (25 : Int32) (15 : Int32) (fun (T_3 : zMem) => zw_X6_backOf T_3 (1 : Int32) (T_3 9 0) (T_3 10 0) (fun (T_4 : zMem) => zw_X6_against T_4 (24 : Int32) (25 : Int32) (fun (v_6 : Int32) (T_5 : zMem) => ((0 ≤ v_6 → ((v_6 ≤ 0 → post (-1 : Int32) T_5) ∧ (¬ v_6 ≤ 0 → post (0 : Int32) T_5))) ∧ (¬ 0 ≤ v_6 → post (1 : Int32) T_5)))))))
/-! X6_extreme -/
def zd_X6_extreme (cI : ClassId) (adM qM1 qM2 qM3 qM4 qM5 qM6 qM7 qM8 qM12 qM13 qM15 qM16 qM17 qM18 qM19 qM20 qM21 : Nat) (M : zMem) : va_W := [(adM, .inr (5, [.int (M 0 0), .ref qM1, .ref qM2, .ref qM3, .ref qM4, .ref qM5, .ref qM6, .ref qM7, .ref qM8, .int (M 9 0), .int (M 10 0), .int (M 11 0), .ref qM12, .ref qM13, .int (M 14 0), .ref qM15, .ref qM16, .ref qM17, .ref qM18, .ref qM19, .ref qM20, .ref qM21])), (qM1, .inl (cI, 2, .inl (M 1))), (qM2, .inl (cI, 2, .inl (M 2))), (qM3, .inl (cI, 2, .inl (M 3))), (qM4, .inl (cI, 2, .inl (M 4))), (qM5, .inl (cI, 2, .inl (M 5))), (qM6, .inl (cI, 12, .inl (M 6))), (qM7, .inl (cI, 12, .inl (M 7))), (qM8, .inl (cI, 12, .inl (M 8))), (qM12, .inl (cI, 6, .inl (M 12))), (qM13, .inl (cI, 6, .inl (M 13))), (qM15, .inl (cI, 8, .inl (M 15))), (qM16, .inl (cI, 8, .inl (M 16))), (qM17, .inl (cI, 8, .inl (M 17))), (qM18, .inl (cI, 8, .inl (M 18))), (qM19, .inl (cI, 12000, .inl (M 19))), (qM20, .inl (cI, 60, .inl (M 20))), (qM21, .inl (cI, 60, .inl (M 21)))]
abbrev rmX6_extreme : Room := { frames := 7, cells := 0, slots := 0, locals := 182 }
def zw_X6_extreme_42 (c1 : Int32) (c2 : Int32) (c3 : Int32) (K130 : Int32 → zMem → Prop) : Nat → Int32 → Int32 → zMem → Prop
  | 0, _, _, _ => False
  | k + 1, p4, p5, M => ((c2 < p5 → (K130 p4 M)) ∧ (¬ c2 < p5 → zw_X6_backOf M c1 p5 c2 (fun (T_11 : zMem) => (∃ KJ_15 : Int32 → zMem → Prop, (∀ (v_13 : Int32) (T_14 : zMem), KJ_15 v_13 T_14 → ((p5 ≤ (-c2) → zw_X6_copy T_14 (16 : Int32) (14 : Int32) (fun (T_17 : zMem) => zw_X6_copy T_17 (17 : Int32) (15 : Int32) (fun (T_18 : zMem) => ∀ x5_19 : Int32, x5_19 = p5 + (1 : Int32) → ((zw_X6_extreme_42 c1 c2 c3 K130 k p5 x5_19 T_18))))) ∧ (¬ p5 ≤ (-c2) → ((c3 = 0 → ((0 < v_13 → zw_X6_copy T_14 (16 : Int32) (14 : Int32) (fun (T_22 : zMem) => zw_X6_copy T_22 (17 : Int32) (15 : Int32) (fun (T_23 : zMem) => ∀ x5_24 : Int32, x5_24 = p5 + (1 : Int32) → ((zw_X6_extreme_42 c1 c2 c3 K130 k p5 x5_24 T_23))))) ∧ (¬ 0 < v_13 → ∀ x5_25 : Int32, x5_25 = p5 + (1 : Int32) → ((zw_X6_extreme_42 c1 c2 c3 K130 k p4 x5_25 T_14))))) ∧ (¬ c3 = 0 → ((v_13 < 0 → zw_X6_copy T_14 (16 : Int32) (14 : Int32) (fun (T_27 : zMem) => zw_X6_copy T_27 (17 : Int32) (15 : Int32) (fun (T_28 : zMem) => ∀ x5_29 : Int32, x5_29 = p5 + (1 : Int32) → ((zw_X6_extreme_42 c1 c2 c3 K130 k p5 x5_29 T_28))))) ∧ (¬ v_13 < 0 → ∀ x5_30 : Int32, x5_30 = p5 + (1 : Int32) → ((zw_X6_extreme_42 c1 c2 c3 K130 k p4 x5_30 T_14))))))))) ∧ ((¬ p5 = (-c2) → zw_X6_against T_11 (16 : Int32) (17 : Int32) (fun (v_32 : Int32) (T_31 : zMem) => (KJ_15 v_32 T_31))) ∧ (p5 = (-c2) → (KJ_15 (0 : Int32) T_11)))))))
def zw_X6_extreme (M : zMem) (a1 : Int32) (a2 : Int32) (a3 : Int32) (post : Int32 → zMem → Prop) : Prop := zw_X6_isStack M a1 (fun (v_2 : Int32) (T_1 : zMem) => ((v_2 = 0 → post (0 : Int32) T_1) ∧ (¬ v_2 = 0 → ((a2 < (1 : Int32) → zw_X6_right T_1 (0 : Int32) (2 : Int32) (fun (v_6 : Int32) (T_5 : zMem) => ((¬ v_6 = 0 → ∀ x4_8 : Int32, x4_8 = (-a2) → (∀ x5_9 : Int32, x5_9 = (-a2) → ((∃ kf, zw_X6_extreme_42 a1 a2 a3 (fun (x4_33 : Int32) (T_34 : zMem) => post x4_33 T_34) kf x4_8 x5_9 T_5)))) ∧ (v_6 = 0 → post (0 : Int32) T_5)))) ∧ (¬ a2 < (1 : Int32) → (∃ KJ_37 : Int32 → Prop, (∀ (v_36 : Int32), KJ_37 v_36 → zw_X6_right T_1 v_36 (2 : Int32) (fun (v_39 : Int32) (T_38 : zMem) => ((¬ v_39 = 0 → ∀ x4_41 : Int32, x4_41 = (-a2) → (∀ x5_42 : Int32, x5_42 = (-a2) → ((∃ kf, zw_X6_extreme_42 a1 a2 a3 (fun (x4_43 : Int32) (T_44 : zMem) => post x4_43 T_44) kf x4_41 x5_42 T_38)))) ∧ (v_39 = 0 → post (0 : Int32) T_38)))) ∧ (((25 : Int32) < a2 → (KJ_37 (0 : Int32))) ∧ (¬ (25 : Int32) < a2 → (KJ_37 (1 : Int32))))))))))
/-! X6_same -/
def zd_X6_same (cI : ClassId) (adM qM1 qM2 qM3 qM4 qM5 qM6 qM7 qM8 qM12 qM13 qM15 qM16 qM17 qM18 qM19 qM20 qM21 : Nat) (M : zMem) : va_W := [(adM, .inr (5, [.int (M 0 0), .ref qM1, .ref qM2, .ref qM3, .ref qM4, .ref qM5, .ref qM6, .ref qM7, .ref qM8, .int (M 9 0), .int (M 10 0), .int (M 11 0), .ref qM12, .ref qM13, .int (M 14 0), .ref qM15, .ref qM16, .ref qM17, .ref qM18, .ref qM19, .ref qM20, .ref qM21])), (qM1, .inl (cI, 2, .inl (M 1))), (qM2, .inl (cI, 2, .inl (M 2))), (qM3, .inl (cI, 2, .inl (M 3))), (qM4, .inl (cI, 2, .inl (M 4))), (qM5, .inl (cI, 2, .inl (M 5))), (qM6, .inl (cI, 12, .inl (M 6))), (qM7, .inl (cI, 12, .inl (M 7))), (qM8, .inl (cI, 12, .inl (M 8))), (qM12, .inl (cI, 6, .inl (M 12))), (qM13, .inl (cI, 6, .inl (M 13))), (qM15, .inl (cI, 8, .inl (M 15))), (qM16, .inl (cI, 8, .inl (M 16))), (qM17, .inl (cI, 8, .inl (M 17))), (qM18, .inl (cI, 8, .inl (M 18))), (qM19, .inl (cI, 12000, .inl (M 19))), (qM20, .inl (cI, 60, .inl (M 20))), (qM21, .inl (cI, 60, .inl (M 21)))]
abbrev rmX6_same : Room := { frames := 7, cells := 0, slots := 0, locals := 182 }
def zw_X6_same_74 (K139 : Int32 → zMem → Prop) : Nat → Int32 → Int32 → zMem → Prop
  | 0, _, _, _ => False
  | k + 1, p1, p2, M => (((49 : Int32) < p2 → (K139 p1 M)) ∧ (¬ (49 : Int32) < p2 → ((p1 = 0 → (K139 p1 M)) ∧ (¬ p1 = 0 → zw_X6_backOf M (0 : Int32) p2 (49 : Int32) (fun (T_6 : zMem) => zw_X6_copy T_6 (24 : Int32) (14 : Int32) (fun (T_7 : zMem) => zw_X6_copy T_7 (25 : Int32) (15 : Int32) (fun (T_8 : zMem) => zw_X6_backOf T_8 (1 : Int32) p2 (49 : Int32) (fun (T_9 : zMem) => zw_X6_against T_9 (24 : Int32) (25 : Int32) (fun (v_11 : Int32) (T_10 : zMem) => ((¬ v_11 = 0 → ∀ x2_13 : Int32, x2_13 = p2 + (1 : Int32) → ((zw_X6_same_74 K139 k (0 : Int32) x2_13 T_10))) ∧ (v_11 = 0 → ∀ x2_14 : Int32, x2_14 = p2 + (1 : Int32) → ((zw_X6_same_74 K139 k (1 : Int32) x2_14 T_10)))))))))))))
def zw_X6_same (M : zMem) (post : Int32 → zMem → Prop) : Prop := (vp_in (0 : Int32) 2 ∧ (vp_in (1 : Int32) 2 ∧ ((¬ ((M 1) (Int32.toNatClampNeg (0 : Int32))) = ((M 1) (Int32.toNatClampNeg (1 : Int32))) → (∃ kf, zw_X6_same_74  (fun (x1_15 : Int32) (T_16 : zMem) => (narrow .boolean (.int x1_15) = .int x1_15 ∧ post x1_15 T_16)) kf (0 : Int32) (-49 : Int32) (zset M 0 (fun _ => (0 : Int32))))) ∧ (((M 1) (Int32.toNatClampNeg (0 : Int32))) = ((M 1) (Int32.toNatClampNeg (1 : Int32))) → (vp_in (0 : Int32) 2 ∧ (vp_in (1 : Int32) 2 ∧ ((¬ ((M 2) (Int32.toNatClampNeg (0 : Int32))) = ((M 2) (Int32.toNatClampNeg (1 : Int32))) → (∃ kf, zw_X6_same_74  (fun (x1_21 : Int32) (T_22 : zMem) => (narrow .boolean (.int x1_21) = .int x1_21 ∧ post x1_21 T_22)) kf (0 : Int32) (-49 : Int32) (zset M 0 (fun _ => (0 : Int32))))) ∧ (((M 2) (Int32.toNatClampNeg (0 : Int32))) = ((M 2) (Int32.toNatClampNeg (1 : Int32))) → (vp_in (0 : Int32) 2 ∧ (vp_in (1 : Int32) 2 ∧ ((¬ ((M 3) (Int32.toNatClampNeg (0 : Int32))) = ((M 3) (Int32.toNatClampNeg (1 : Int32))) → (∃ kf, zw_X6_same_74  (fun (x1_27 : Int32) (T_28 : zMem) => (narrow .boolean (.int x1_27) = .int x1_27 ∧ post x1_27 T_28)) kf (0 : Int32) (-49 : Int32) (zset M 0 (fun _ => (0 : Int32))))) ∧ (((M 3) (Int32.toNatClampNeg (0 : Int32))) = ((M 3) (Int32.toNatClampNeg (1 : Int32))) → (vp_in (0 : Int32) 2 ∧ (vp_in (1 : Int32) 2 ∧ (∃ KJ_34 : Int32 → Prop, (∀ (v_33 : Int32), KJ_34 v_33 → (∃ kf, zw_X6_same_74  (fun (x1_35 : Int32) (T_36 : zMem) => (narrow .boolean (.int x1_35) = .int x1_35 ∧ post x1_35 T_36)) kf v_33 (-49 : Int32) (zset M 0 (fun _ => (0 : Int32))))) ∧ ((¬ ((M 4) (Int32.toNatClampNeg (0 : Int32))) = ((M 4) (Int32.toNatClampNeg (1 : Int32))) → (KJ_34 (0 : Int32))) ∧ (((M 4) (Int32.toNatClampNeg (0 : Int32))) = ((M 4) (Int32.toNatClampNeg (1 : Int32))) → (KJ_34 (1 : Int32)))))))))))))))))))
/-! X6_list -/
def zd_X6_list (cI : ClassId) (adM qM1 qM2 qM3 qM4 qM5 qM6 qM7 qM8 qM12 qM13 qM15 qM16 qM17 qM18 qM19 qM20 qM21 : Nat) (M : zMem) : va_W := [(adM, .inr (5, [.int (M 0 0), .ref qM1, .ref qM2, .ref qM3, .ref qM4, .ref qM5, .ref qM6, .ref qM7, .ref qM8, .int (M 9 0), .int (M 10 0), .int (M 11 0), .ref qM12, .ref qM13, .int (M 14 0), .ref qM15, .ref qM16, .ref qM17, .ref qM18, .ref qM19, .ref qM20, .ref qM21])), (qM1, .inl (cI, 2, .inl (M 1))), (qM2, .inl (cI, 2, .inl (M 2))), (qM3, .inl (cI, 2, .inl (M 3))), (qM4, .inl (cI, 2, .inl (M 4))), (qM5, .inl (cI, 2, .inl (M 5))), (qM6, .inl (cI, 12, .inl (M 6))), (qM7, .inl (cI, 12, .inl (M 7))), (qM8, .inl (cI, 12, .inl (M 8))), (qM12, .inl (cI, 6, .inl (M 12))), (qM13, .inl (cI, 6, .inl (M 13))), (qM15, .inl (cI, 8, .inl (M 15))), (qM16, .inl (cI, 8, .inl (M 16))), (qM17, .inl (cI, 8, .inl (M 17))), (qM18, .inl (cI, 8, .inl (M 18))), (qM19, .inl (cI, 12000, .inl (M 19))), (qM20, .inl (cI, 60, .inl (M 20))), (qM21, .inl (cI, 60, .inl (M 21)))]
abbrev rmX6_list : Room := { frames := 1, cells := 0, slots := 0, locals := 24 }
def zw_X6_list_29 (M : zMem) (c1 : Int32) (c2 : Int32) (c3 : Int32) (K64 : Prop) (K72 : Prop) : Nat → Int32 → Prop
  | 0, _ => False
  | k + 1, p4 => (((M 11 0) ≤ p4 → (K72 )) ∧ (¬ (M 11 0) ≤ p4 → (vp_in p4 6 ∧ (¬ c3 = 0 ∧ ((¬ ((M 12) (Int32.toNatClampNeg p4)) = (c1 / c3) → ∀ x4_10 : Int32, x4_10 = p4 + (1 : Int32) → ((zw_X6_list_29 M c1 c2 c3 K64 K72 k x4_10))) ∧ (((M 12) (Int32.toNatClampNeg p4)) = (c1 / c3) → (vp_in p4 6 ∧ (¬ c3 = 0 ∧ ((¬ ((M 13) (Int32.toNatClampNeg p4)) = (c2 / c3) → ∀ x4_14 : Int32, x4_14 = p4 + (1 : Int32) → ((zw_X6_list_29 M c1 c2 c3 K64 K72 k x4_14))) ∧ (((M 13) (Int32.toNatClampNeg p4)) = (c2 / c3) → (K64 )))))))))))
def zw_X6_list (M : zMem) (a1 : Int32) (a2 : Int32) (post : Int32 → zMem → Prop) : Prop := zw_X6_isIndex a1 a2 (fun (v_1 : Int32) => zw_X6_right (zset M 0 (fun _ => (0 : Int32))) v_1 (1 : Int32) (fun (v_3 : Int32) (T_2 : zMem) => ((¬ v_3 = 0 → zw_X6_shared a1 a2 (fun (v_5 : Int32) => (∃ kf, zw_X6_list_29 T_2 a1 a2 v_5 (post (-1 : Int32) T_2) (((¬ (T_2 11 0) = (6 : Int32) → (¬ v_5 = 0 ∧ (vp_in (T_2 11 0) 6 ∧ ∀ r_18 : zRow, r_18 = (upd (T_2 12) (Int32.toNatClampNeg (T_2 11 0)) (a1 / v_5)) → ((¬ v_5 = 0 ∧ (vp_in (T_2 11 0) 6 ∧ ∀ r_21 : zRow, r_21 = (upd (T_2 13) (Int32.toNatClampNeg (T_2 11 0)) (a2 / v_5)) → (∀ y_22 : Int32, y_22 = ((T_2 11 0) + (1 : Int32)) → (post y_22 (zset (zset (zset T_2 11 (fun _ => y_22)) 12 r_18) 13 r_21))))))))) ∧ ((T_2 11 0) = (6 : Int32) → post (-1 : Int32) T_2))) kf (0 : Int32)))) ∧ (v_3 = 0 → post (0 : Int32) T_2))))
/-! X6_unlist -/
def zd_X6_unlist (cI : ClassId) (adM qM1 qM2 qM3 qM4 qM5 qM6 qM7 qM8 qM12 qM13 qM15 qM16 qM17 qM18 qM19 qM20 qM21 : Nat) (M : zMem) : va_W := [(adM, .inr (5, [.int (M 0 0), .ref qM1, .ref qM2, .ref qM3, .ref qM4, .ref qM5, .ref qM6, .ref qM7, .ref qM8, .int (M 9 0), .int (M 10 0), .int (M 11 0), .ref qM12, .ref qM13, .int (M 14 0), .ref qM15, .ref qM16, .ref qM17, .ref qM18, .ref qM19, .ref qM20, .ref qM21])), (qM1, .inl (cI, 2, .inl (M 1))), (qM2, .inl (cI, 2, .inl (M 2))), (qM3, .inl (cI, 2, .inl (M 3))), (qM4, .inl (cI, 2, .inl (M 4))), (qM5, .inl (cI, 2, .inl (M 5))), (qM6, .inl (cI, 12, .inl (M 6))), (qM7, .inl (cI, 12, .inl (M 7))), (qM8, .inl (cI, 12, .inl (M 8))), (qM12, .inl (cI, 6, .inl (M 12))), (qM13, .inl (cI, 6, .inl (M 13))), (qM15, .inl (cI, 8, .inl (M 15))), (qM16, .inl (cI, 8, .inl (M 16))), (qM17, .inl (cI, 8, .inl (M 17))), (qM18, .inl (cI, 8, .inl (M 18))), (qM19, .inl (cI, 12000, .inl (M 19))), (qM20, .inl (cI, 60, .inl (M 20))), (qM21, .inl (cI, 60, .inl (M 21)))]
abbrev rmX6_unlist : Room := { frames := 0, cells := 0, slots := 0, locals := 0 }
def zw_X6_unlist (M : zMem) (post : zMem → Prop) : Prop := post (zset (zset M 0 (fun _ => (0 : Int32))) 11 (fun _ => (0 : Int32)))
/-! X6_lay -/
def zd_X6_lay (cI : ClassId) (adM qM1 qM2 qM3 qM4 qM5 qM6 qM7 qM8 qM12 qM13 qM15 qM16 qM17 qM18 qM19 qM20 qM21 : Nat) (M : zMem) : va_W := [(adM, .inr (5, [.int (M 0 0), .ref qM1, .ref qM2, .ref qM3, .ref qM4, .ref qM5, .ref qM6, .ref qM7, .ref qM8, .int (M 9 0), .int (M 10 0), .int (M 11 0), .ref qM12, .ref qM13, .int (M 14 0), .ref qM15, .ref qM16, .ref qM17, .ref qM18, .ref qM19, .ref qM20, .ref qM21])), (qM1, .inl (cI, 2, .inl (M 1))), (qM2, .inl (cI, 2, .inl (M 2))), (qM3, .inl (cI, 2, .inl (M 3))), (qM4, .inl (cI, 2, .inl (M 4))), (qM5, .inl (cI, 2, .inl (M 5))), (qM6, .inl (cI, 12, .inl (M 6))), (qM7, .inl (cI, 12, .inl (M 7))), (qM8, .inl (cI, 12, .inl (M 8))), (qM12, .inl (cI, 6, .inl (M 12))), (qM13, .inl (cI, 6, .inl (M 13))), (qM15, .inl (cI, 8, .inl (M 15))), (qM16, .inl (cI, 8, .inl (M 16))), (qM17, .inl (cI, 8, .inl (M 17))), (qM18, .inl (cI, 8, .inl (M 18))), (qM19, .inl (cI, 12000, .inl (M 19))), (qM20, .inl (cI, 60, .inl (M 20))), (qM21, .inl (cI, 60, .inl (M 21)))]
abbrev rmX6_lay : Room := { frames := 0, cells := 0, slots := 0, locals := 0 }
def zw_X6_lay_15 (c1 : Int32) (K96 : zMem → Prop) : Nat → Int32 → Int32 → zMem → Prop
  | 0, _, _, _ => False
  | k + 1, p4, p5, M => ((p5 < 0 → (K96 M)) ∧ (¬ p5 < 0 → (¬ (M 11 0) = 0 ∧ (vp_in (p4 - p4 / (M 11 0) * (M 11 0)) 6 ∧ (vp_in (((6 : Int32) * c1) + p5) 12 ∧ ∀ r_8 : zRow, r_8 = (upd (M 6) (Int32.toNatClampNeg (((6 : Int32) * c1) + p5)) ((M 12) (Int32.toNatClampNeg (p4 - p4 / (M 11 0) * (M 11 0))))) → ((¬ (M 11 0) = 0 ∧ (vp_in (p4 - p4 / (M 11 0) * (M 11 0)) 6 ∧ (vp_in (((6 : Int32) * c1) + p5) 12 ∧ ∀ r_12 : zRow, r_12 = (upd (M 7) (Int32.toNatClampNeg (((6 : Int32) * c1) + p5)) ((M 13) (Int32.toNatClampNeg (p4 - p4 / (M 11 0) * (M 11 0))))) → ((vp_in (((6 : Int32) * c1) + p5) 12 ∧ ∀ r_14 : zRow, r_14 = (upd (M 8) (Int32.toNatClampNeg (((6 : Int32) * c1) + p5)) (1 : Int32)) → ((¬ (M 11 0) = 0 ∧ ∀ x4_16 : Int32, x4_16 = (p4 / (M 11 0)) → (∀ x5_17 : Int32, x5_17 = p5 + (-1 : Int32) → ((zw_X6_lay_15 c1 K96 k x4_16 x5_17 (zset (zset (zset M 6 r_8) 7 r_12) 8 r_14)))))))))))))))))
def zw_X6_lay (M : zMem) (a1 : Int32) (a2 : Int32) (a3 : Int32) (post : zMem → Prop) : Prop := (vp_in a1 2 ∧ ∀ r_2 : zRow, r_2 = (upd (M 5) (Int32.toNatClampNeg a1) a2) → (∀ x5_3 : Int32, x5_3 = (a2 - (1 : Int32)) → ((∃ kf, zw_X6_lay_15 a1 (fun (T_18 : zMem) => post T_18) kf a3 x5_3 (zset M 5 r_2)))))
/-! X6_choose -/
def zd_X6_choose (cI : ClassId) (adM qM1 qM2 qM3 qM4 qM5 qM6 qM7 qM8 qM12 qM13 qM15 qM16 qM17 qM18 qM19 qM20 qM21 : Nat) (M : zMem) : va_W := [(adM, .inr (5, [.int (M 0 0), .ref qM1, .ref qM2, .ref qM3, .ref qM4, .ref qM5, .ref qM6, .ref qM7, .ref qM8, .int (M 9 0), .int (M 10 0), .int (M 11 0), .ref qM12, .ref qM13, .int (M 14 0), .ref qM15, .ref qM16, .ref qM17, .ref qM18, .ref qM19, .ref qM20, .ref qM21])), (qM1, .inl (cI, 2, .inl (M 1))), (qM2, .inl (cI, 2, .inl (M 2))), (qM3, .inl (cI, 2, .inl (M 3))), (qM4, .inl (cI, 2, .inl (M 4))), (qM5, .inl (cI, 2, .inl (M 5))), (qM6, .inl (cI, 12, .inl (M 6))), (qM7, .inl (cI, 12, .inl (M 7))), (qM8, .inl (cI, 12, .inl (M 8))), (qM12, .inl (cI, 6, .inl (M 12))), (qM13, .inl (cI, 6, .inl (M 13))), (qM15, .inl (cI, 8, .inl (M 15))), (qM16, .inl (cI, 8, .inl (M 16))), (qM17, .inl (cI, 8, .inl (M 17))), (qM18, .inl (cI, 8, .inl (M 18))), (qM19, .inl (cI, 12000, .inl (M 19))), (qM20, .inl (cI, 60, .inl (M 20))), (qM21, .inl (cI, 60, .inl (M 21)))]
abbrev rmX6_choose : Room := { frames := 7, cells := 0, slots := 0, locals := 182 }
def zw_X6_choose_71 (c1 : Int32) (c2 : Int32) (c3 : Int32) (K143 : Int32 → zMem → Prop) : Nat → Int32 → Int32 → zMem → Prop
  | 0, _, _, _ => False
  | k + 1, p4, p5, M => ((c3 ≤ p5 → (K143 p4 M)) ∧ (¬ c3 ≤ p5 → zw_X6_lay M c1 c2 p5 (fun (T_13 : zMem) => zw_X6_backOf T_13 c1 (T_13 9 0) (T_13 10 0) (fun (T_14 : zMem) => ((p5 ≤ 0 → zw_X6_copy T_14 (16 : Int32) (14 : Int32) (fun (T_16 : zMem) => zw_X6_copy T_16 (17 : Int32) (15 : Int32) (fun (T_17 : zMem) => ∀ x5_18 : Int32, x5_18 = p5 + (1 : Int32) → ((zw_X6_choose_71 c1 c2 c3 K143 k p5 x5_18 T_17))))) ∧ (¬ p5 ≤ 0 → zw_X6_against T_14 (16 : Int32) (17 : Int32) (fun (v_20 : Int32) (T_19 : zMem) => ((v_20 < 0 → zw_X6_copy T_19 (16 : Int32) (14 : Int32) (fun (T_22 : zMem) => zw_X6_copy T_22 (17 : Int32) (15 : Int32) (fun (T_23 : zMem) => ∀ x5_24 : Int32, x5_24 = p5 + (1 : Int32) → ((zw_X6_choose_71 c1 c2 c3 K143 k p5 x5_24 T_23))))) ∧ (¬ v_20 < 0 → ∀ x5_25 : Int32, x5_25 = p5 + (1 : Int32) → ((zw_X6_choose_71 c1 c2 c3 K143 k p4 x5_25 T_19)))))))))))
def zw_X6_choose (M : zMem) (a1 : Int32) (a2 : Int32) (post : Int32 → zMem → Prop) : Prop := zw_X6_isStack M a1 (fun (v_2 : Int32) (T_1 : zMem) => ((v_2 = 0 → post (0 : Int32) T_1) ∧ (¬ v_2 = 0 → ((a2 < 0 → zw_X6_right T_1 (0 : Int32) (2 : Int32) (fun (v_6 : Int32) (T_5 : zMem) => ((¬ v_6 = 0 → ((¬ a2 = 0 → ((¬ (T_5 11 0) = 0 → zw_X6_power (Int32.toInt64 (T_5 11 0)) a2 (fun (v_10 : Int64) => ∀ x3_11 : Int32, x3_11 = (Int64.toInt32 v_10) → ((∃ kf, zw_X6_choose_71 a1 a2 x3_11 (fun (x4_26 : Int32) (T_27 : zMem) => zw_X6_lay T_27 a1 a2 x4_26 (fun (T_28 : zMem) => post x3_11 T_28)) kf (0 : Int32) (0 : Int32) T_5)))) ∧ ((T_5 11 0) = 0 → post (-1 : Int32) T_5))) ∧ (a2 = 0 → (vp_in a1 2 ∧ ∀ r_30 : zRow, r_30 = (upd (T_5 5) (Int32.toNatClampNeg a1) (0 : Int32)) → (post (1 : Int32) (zset T_5 5 r_30)))))) ∧ (v_6 = 0 → post (0 : Int32) T_5)))) ∧ (¬ a2 < 0 → (∃ KJ_33 : Int32 → Prop, (∀ (v_32 : Int32), KJ_33 v_32 → zw_X6_right T_1 v_32 (2 : Int32) (fun (v_35 : Int32) (T_34 : zMem) => ((¬ v_35 = 0 → ((¬ a2 = 0 → ((¬ (T_34 11 0) = 0 → zw_X6_power (Int32.toInt64 (T_34 11 0)) a2 (fun (v_39 : Int64) => ∀ x3_40 : Int32, x3_40 = (Int64.toInt32 v_39) → ((∃ kf, zw_X6_choose_71 a1 a2 x3_40 (fun (x4_41 : Int32) (T_42 : zMem) => zw_X6_lay T_42 a1 a2 x4_41 (fun (T_43 : zMem) => post x3_40 T_43)) kf (0 : Int32) (0 : Int32) T_34)))) ∧ ((T_34 11 0) = 0 → post (-1 : Int32) T_34))) ∧ (a2 = 0 → (vp_in a1 2 ∧ ∀ r_45 : zRow, r_45 = (upd (T_34 5) (Int32.toNatClampNeg a1) (0 : Int32)) → (post (1 : Int32) (zset T_34 5 r_45)))))) ∧ (v_35 = 0 → post (0 : Int32) T_34)))) ∧ (((3 : Int32) < a2 → (KJ_33 (0 : Int32))) ∧ (¬ (3 : Int32) < a2 → (KJ_33 (1 : Int32))))))))))
/-! X6_pane -/
def zd_X6_pane (cI : ClassId) (adM qM1 qM2 qM3 qM4 qM5 qM6 qM7 qM8 qM12 qM13 qM15 qM16 qM17 qM18 qM19 qM20 qM21 : Nat) (M : zMem) : va_W := [(adM, .inr (5, [.int (M 0 0), .ref qM1, .ref qM2, .ref qM3, .ref qM4, .ref qM5, .ref qM6, .ref qM7, .ref qM8, .int (M 9 0), .int (M 10 0), .int (M 11 0), .ref qM12, .ref qM13, .int (M 14 0), .ref qM15, .ref qM16, .ref qM17, .ref qM18, .ref qM19, .ref qM20, .ref qM21])), (qM1, .inl (cI, 2, .inl (M 1))), (qM2, .inl (cI, 2, .inl (M 2))), (qM3, .inl (cI, 2, .inl (M 3))), (qM4, .inl (cI, 2, .inl (M 4))), (qM5, .inl (cI, 2, .inl (M 5))), (qM6, .inl (cI, 12, .inl (M 6))), (qM7, .inl (cI, 12, .inl (M 7))), (qM8, .inl (cI, 12, .inl (M 8))), (qM12, .inl (cI, 6, .inl (M 12))), (qM13, .inl (cI, 6, .inl (M 13))), (qM15, .inl (cI, 8, .inl (M 15))), (qM16, .inl (cI, 8, .inl (M 16))), (qM17, .inl (cI, 8, .inl (M 17))), (qM18, .inl (cI, 8, .inl (M 18))), (qM19, .inl (cI, 12000, .inl (M 19))), (qM20, .inl (cI, 60, .inl (M 20))), (qM21, .inl (cI, 60, .inl (M 21)))]
abbrev rmX6_pane : Room := { frames := 1, cells := 0, slots := 0, locals := 22 }
def zw_X6_pane (M : zMem) (a1 : Int32) (a2 : Int32) (a3 : Int32) (a4 : Int32) (post : Int32 → zMem → Prop) : Prop := ((a1 < 0 → (((0 : Int32) = 0 → zw_X6_right (zset M 0 (fun _ => (0 : Int32))) (0 : Int32) (1 : Int32) (fun (v_4 : Int32) (T_3 : zMem) => ((¬ v_4 = 0 → ((¬ (T_3 14 0) = (8 : Int32) → (vp_in (T_3 14 0) 8 ∧ ∀ r_8 : zRow, r_8 = (upd (T_3 15) (Int32.toNatClampNeg (T_3 14 0)) a1) → ((vp_in (T_3 14 0) 8 ∧ ∀ r_10 : zRow, r_10 = (upd (T_3 16) (Int32.toNatClampNeg (T_3 14 0)) a2) → ((vp_in (T_3 14 0) 8 ∧ ∀ r_12 : zRow, r_12 = (upd (T_3 17) (Int32.toNatClampNeg (T_3 14 0)) a3) → ((vp_in (T_3 14 0) 8 ∧ ∀ r_14 : zRow, r_14 = (upd (T_3 18) (Int32.toNatClampNeg (T_3 14 0)) a4) → (∀ y_15 : Int32, y_15 = ((T_3 14 0) + (1 : Int32)) → (post y_15 (zset (zset (zset (zset (zset T_3 14 (fun _ => y_15)) 15 r_8) 16 r_10) 17 r_12) 18 r_14))))))))))) ∧ ((T_3 14 0) = (8 : Int32) → post (-1 : Int32) T_3))) ∧ (v_4 = 0 → post (0 : Int32) T_3)))) ∧ (¬ (0 : Int32) = 0 → (∃ KJ_18 : Int32 → Prop, (∀ (v_17 : Int32), KJ_18 v_17 → zw_X6_right (zset M 0 (fun _ => (0 : Int32))) v_17 (1 : Int32) (fun (v_20 : Int32) (T_19 : zMem) => ((¬ v_20 = 0 → ((¬ (T_19 14 0) = (8 : Int32) → (vp_in (T_19 14 0) 8 ∧ ∀ r_24 : zRow, r_24 = (upd (T_19 15) (Int32.toNatClampNeg (T_19 14 0)) a1) → ((vp_in (T_19 14 0) 8 ∧ ∀ r_26 : zRow, r_26 = (upd (T_19 16) (Int32.toNatClampNeg (T_19 14 0)) a2) → ((vp_in (T_19 14 0) 8 ∧ ∀ r_28 : zRow, r_28 = (upd (T_19 17) (Int32.toNatClampNeg (T_19 14 0)) a3) → ((vp_in (T_19 14 0) 8 ∧ ∀ r_30 : zRow, r_30 = (upd (T_19 18) (Int32.toNatClampNeg (T_19 14 0)) a4) → (∀ y_31 : Int32, y_31 = ((T_19 14 0) + (1 : Int32)) → (post y_31 (zset (zset (zset (zset (zset T_19 14 (fun _ => y_31)) 15 r_24) 16 r_26) 17 r_28) 18 r_30))))))))))) ∧ ((T_19 14 0) = (8 : Int32) → post (-1 : Int32) T_19))) ∧ (v_20 = 0 → post (0 : Int32) T_19)))) ∧ (((a2 * a4) < ((a1 * a4) + (a3 * a2)) → (KJ_18 (0 : Int32))) ∧ (¬ (a2 * a4) < ((a1 * a4) + (a3 * a2)) → (KJ_18 (1 : Int32)))))))) ∧ (¬ a1 < 0 → (((100 : Int32) < a1 → (((0 : Int32) = 0 → zw_X6_right (zset M 0 (fun _ => (0 : Int32))) (0 : Int32) (1 : Int32) (fun (v_35 : Int32) (T_34 : zMem) => ((¬ v_35 = 0 → ((¬ (T_34 14 0) = (8 : Int32) → (vp_in (T_34 14 0) 8 ∧ ∀ r_39 : zRow, r_39 = (upd (T_34 15) (Int32.toNatClampNeg (T_34 14 0)) a1) → ((vp_in (T_34 14 0) 8 ∧ ∀ r_41 : zRow, r_41 = (upd (T_34 16) (Int32.toNatClampNeg (T_34 14 0)) a2) → ((vp_in (T_34 14 0) 8 ∧ ∀ r_43 : zRow, r_43 = (upd (T_34 17) (Int32.toNatClampNeg (T_34 14 0)) a3) → ((vp_in (T_34 14 0) 8 ∧ ∀ r_45 : zRow, r_45 = (upd (T_34 18) (Int32.toNatClampNeg (T_34 14 0)) a4) → (∀ y_46 : Int32, y_46 = ((T_34 14 0) + (1 : Int32)) → (post y_46 (zset (zset (zset (zset (zset T_34 14 (fun _ => y_46)) 15 r_39) 16 r_41) 17 r_43) 18 r_45))))))))))) ∧ ((T_34 14 0) = (8 : Int32) → post (-1 : Int32) T_34))) ∧ (v_35 = 0 → post (0 : Int32) T_34)))) ∧ (¬ (0 : Int32) = 0 → (∃ KJ_49 : Int32 → Prop, (∀ (v_48 : Int32), KJ_49 v_48 → zw_X6_right (zset M 0 (fun _ => (0 : Int32))) v_48 (1 : Int32) (fun (v_51 : Int32) (T_50 : zMem) => ((¬ v_51 = 0 → ((¬ (T_50 14 0) = (8 : Int32) → (vp_in (T_50 14 0) 8 ∧ ∀ r_55 : zRow, r_55 = (upd (T_50 15) (Int32.toNatClampNeg (T_50 14 0)) a1) → ((vp_in (T_50 14 0) 8 ∧ ∀ r_57 : zRow, r_57 = (upd (T_50 16) (Int32.toNatClampNeg (T_50 14 0)) a2) → ((vp_in (T_50 14 0) 8 ∧ ∀ r_59 : zRow, r_59 = (upd (T_50 17) (Int32.toNatClampNeg (T_50 14 0)) a3) → ((vp_in (T_50 14 0) 8 ∧ ∀ r_61 : zRow, r_61 = (upd (T_50 18) (Int32.toNatClampNeg (T_50 14 0)) a4) → (∀ y_62 : Int32, y_62 = ((T_50 14 0) + (1 : Int32)) → (post y_62 (zset (zset (zset (zset (zset T_50 14 (fun _ => y_62)) 15 r_55) 16 r_57) 17 r_59) 18 r_61))))))))))) ∧ ((T_50 14 0) = (8 : Int32) → post (-1 : Int32) T_50))) ∧ (v_51 = 0 → post (0 : Int32) T_50)))) ∧ (((a2 * a4) < ((a1 * a4) + (a3 * a2)) → (KJ_49 (0 : Int32))) ∧ (¬ (a2 * a4) < ((a1 * a4) + (a3 * a2)) → (KJ_49 (1 : Int32)))))))) ∧ (¬ (100 : Int32) < a1 → ((a3 < 0 → (((0 : Int32) = 0 → zw_X6_right (zset M 0 (fun _ => (0 : Int32))) (0 : Int32) (1 : Int32) (fun (v_66 : Int32) (T_65 : zMem) => ((¬ v_66 = 0 → ((¬ (T_65 14 0) = (8 : Int32) → (vp_in (T_65 14 0) 8 ∧ ∀ r_70 : zRow, r_70 = (upd (T_65 15) (Int32.toNatClampNeg (T_65 14 0)) a1) → ((vp_in (T_65 14 0) 8 ∧ ∀ r_72 : zRow, r_72 = (upd (T_65 16) (Int32.toNatClampNeg (T_65 14 0)) a2) → ((vp_in (T_65 14 0) 8 ∧ ∀ r_74 : zRow, r_74 = (upd (T_65 17) (Int32.toNatClampNeg (T_65 14 0)) a3) → ((vp_in (T_65 14 0) 8 ∧ ∀ r_76 : zRow, r_76 = (upd (T_65 18) (Int32.toNatClampNeg (T_65 14 0)) a4) → (∀ y_77 : Int32, y_77 = ((T_65 14 0) + (1 : Int32)) → (post y_77 (zset (zset (zset (zset (zset T_65 14 (fun _ => y_77)) 15 r_70) 16 r_72) 17 r_74) 18 r_76))))))))))) ∧ ((T_65 14 0) = (8 : Int32) → post (-1 : Int32) T_65))) ∧ (v_66 = 0 → post (0 : Int32) T_65)))) ∧ (¬ (0 : Int32) = 0 → (∃ KJ_80 : Int32 → Prop, (∀ (v_79 : Int32), KJ_80 v_79 → zw_X6_right (zset M 0 (fun _ => (0 : Int32))) v_79 (1 : Int32) (fun (v_82 : Int32) (T_81 : zMem) => ((¬ v_82 = 0 → ((¬ (T_81 14 0) = (8 : Int32) → (vp_in (T_81 14 0) 8 ∧ ∀ r_86 : zRow, r_86 = (upd (T_81 15) (Int32.toNatClampNeg (T_81 14 0)) a1) → ((vp_in (T_81 14 0) 8 ∧ ∀ r_88 : zRow, r_88 = (upd (T_81 16) (Int32.toNatClampNeg (T_81 14 0)) a2) → ((vp_in (T_81 14 0) 8 ∧ ∀ r_90 : zRow, r_90 = (upd (T_81 17) (Int32.toNatClampNeg (T_81 14 0)) a3) → ((vp_in (T_81 14 0) 8 ∧ ∀ r_92 : zRow, r_92 = (upd (T_81 18) (Int32.toNatClampNeg (T_81 14 0)) a4) → (∀ y_93 : Int32, y_93 = ((T_81 14 0) + (1 : Int32)) → (post y_93 (zset (zset (zset (zset (zset T_81 14 (fun _ => y_93)) 15 r_86) 16 r_88) 17 r_90) 18 r_92))))))))))) ∧ ((T_81 14 0) = (8 : Int32) → post (-1 : Int32) T_81))) ∧ (v_82 = 0 → post (0 : Int32) T_81)))) ∧ (((a2 * a4) < ((a1 * a4) + (a3 * a2)) → (KJ_80 (0 : Int32))) ∧ (¬ (a2 * a4) < ((a1 * a4) + (a3 * a2)) → (KJ_80 (1 : Int32)))))))) ∧ (¬ a3 < 0 → (((100 : Int32) < a3 → (((0 : Int32) = 0 → zw_X6_right (zset M 0 (fun _ => (0 : Int32))) (0 : Int32) (1 : Int32) (fun (v_97 : Int32) (T_96 : zMem) => ((¬ v_97 = 0 → ((¬ (T_96 14 0) = (8 : Int32) → (vp_in (T_96 14 0) 8 ∧ ∀ r_101 : zRow, r_101 = (upd (T_96 15) (Int32.toNatClampNeg (T_96 14 0)) a1) → ((vp_in (T_96 14 0) 8 ∧ ∀ r_103 : zRow, r_103 = (upd (T_96 16) (Int32.toNatClampNeg (T_96 14 0)) a2) → ((vp_in (T_96 14 0) 8 ∧ ∀ r_105 : zRow, r_105 = (upd (T_96 17) (Int32.toNatClampNeg (T_96 14 0)) a3) → ((vp_in (T_96 14 0) 8 ∧ ∀ r_107 : zRow, r_107 = (upd (T_96 18) (Int32.toNatClampNeg (T_96 14 0)) a4) → (∀ y_108 : Int32, y_108 = ((T_96 14 0) + (1 : Int32)) → (post y_108 (zset (zset (zset (zset (zset T_96 14 (fun _ => y_108)) 15 r_101) 16 r_103) 17 r_105) 18 r_107))))))))))) ∧ ((T_96 14 0) = (8 : Int32) → post (-1 : Int32) T_96))) ∧ (v_97 = 0 → post (0 : Int32) T_96)))) ∧ (¬ (0 : Int32) = 0 → (∃ KJ_111 : Int32 → Prop, (∀ (v_110 : Int32), KJ_111 v_110 → zw_X6_right (zset M 0 (fun _ => (0 : Int32))) v_110 (1 : Int32) (fun (v_113 : Int32) (T_112 : zMem) => ((¬ v_113 = 0 → ((¬ (T_112 14 0) = (8 : Int32) → (vp_in (T_112 14 0) 8 ∧ ∀ r_117 : zRow, r_117 = (upd (T_112 15) (Int32.toNatClampNeg (T_112 14 0)) a1) → ((vp_in (T_112 14 0) 8 ∧ ∀ r_119 : zRow, r_119 = (upd (T_112 16) (Int32.toNatClampNeg (T_112 14 0)) a2) → ((vp_in (T_112 14 0) 8 ∧ ∀ r_121 : zRow, r_121 = (upd (T_112 17) (Int32.toNatClampNeg (T_112 14 0)) a3) → ((vp_in (T_112 14 0) 8 ∧ ∀ r_123 : zRow, r_123 = (upd (T_112 18) (Int32.toNatClampNeg (T_112 14 0)) a4) → (∀ y_124 : Int32, y_124 = ((T_112 14 0) + (1 : Int32)) → (post y_124 (zset (zset (zset (zset (zset T_112 14 (fun _ => y_124)) 15 r_117) 16 r_119) 17 r_121) 18 r_123))))))))))) ∧ ((T_112 14 0) = (8 : Int32) → post (-1 : Int32) T_112))) ∧ (v_113 = 0 → post (0 : Int32) T_112)))) ∧ (((a2 * a4) < ((a1 * a4) + (a3 * a2)) → (KJ_111 (0 : Int32))) ∧ (¬ (a2 * a4) < ((a1 * a4) + (a3 * a2)) → (KJ_111 (1 : Int32)))))))) ∧ (¬ (100 : Int32) < a3 → ((a2 < (1 : Int32) → (((0 : Int32) = 0 → zw_X6_right (zset M 0 (fun _ => (0 : Int32))) (0 : Int32) (1 : Int32) (fun (v_128 : Int32) (T_127 : zMem) => ((¬ v_128 = 0 → ((¬ (T_127 14 0) = (8 : Int32) → (vp_in (T_127 14 0) 8 ∧ ∀ r_132 : zRow, r_132 = (upd (T_127 15) (Int32.toNatClampNeg (T_127 14 0)) a1) → ((vp_in (T_127 14 0) 8 ∧ ∀ r_134 : zRow, r_134 = (upd (T_127 16) (Int32.toNatClampNeg (T_127 14 0)) a2) → ((vp_in (T_127 14 0) 8 ∧ ∀ r_136 : zRow, r_136 = (upd (T_127 17) (Int32.toNatClampNeg (T_127 14 0)) a3) → ((vp_in (T_127 14 0) 8 ∧ ∀ r_138 : zRow, r_138 = (upd (T_127 18) (Int32.toNatClampNeg (T_127 14 0)) a4) → (∀ y_139 : Int32, y_139 = ((T_127 14 0) + (1 : Int32)) → (post y_139 (zset (zset (zset (zset (zset T_127 14 (fun _ => y_139)) 15 r_132) 16 r_134) 17 r_136) 18 r_138))))))))))) ∧ ((T_127 14 0) = (8 : Int32) → post (-1 : Int32) T_127))) ∧ (v_128 = 0 → post (0 : Int32) T_127)))) ∧ (¬ (0 : Int32) = 0 → (∃ KJ_142 : Int32 → Prop, (∀ (v_141 : Int32), KJ_142 v_141 → zw_X6_right (zset M 0 (fun _ => (0 : Int32))) v_141 (1 : Int32) (fun (v_144 : Int32) (T_143 : zMem) => ((¬ v_144 = 0 → ((¬ (T_143 14 0) = (8 : Int32) → (vp_in (T_143 14 0) 8 ∧ ∀ r_148 : zRow, r_148 = (upd (T_143 15) (Int32.toNatClampNeg (T_143 14 0)) a1) → ((vp_in (T_143 14 0) 8 ∧ ∀ r_150 : zRow, r_150 = (upd (T_143 16) (Int32.toNatClampNeg (T_143 14 0)) a2) → ((vp_in (T_143 14 0) 8 ∧ ∀ r_152 : zRow, r_152 = (upd (T_143 17) (Int32.toNatClampNeg (T_143 14 0)) a3) → ((vp_in (T_143 14 0) 8 ∧ ∀ r_154 : zRow, r_154 = (upd (T_143 18) (Int32.toNatClampNeg (T_143 14 0)) a4) → (∀ y_155 : Int32, y_155 = ((T_143 14 0) + (1 : Int32)) → (post y_155 (zset (zset (zset (zset (zset T_143 14 (fun _ => y_155)) 15 r_148) 16 r_150) 17 r_152) 18 r_154))))))))))) ∧ ((T_143 14 0) = (8 : Int32) → post (-1 : Int32) T_143))) ∧ (v_144 = 0 → post (0 : Int32) T_143)))) ∧ (((a2 * a4) < ((a1 * a4) + (a3 * a2)) → (KJ_142 (0 : Int32))) ∧ (¬ (a2 * a4) < ((a1 * a4) + (a3 * a2)) → (KJ_142 (1 : Int32)))))))) ∧ (¬ a2 < (1 : Int32) → (((100 : Int32) < a2 → (((0 : Int32) = 0 → zw_X6_right (zset M 0 (fun _ => (0 : Int32))) (0 : Int32) (1 : Int32) (fun (v_159 : Int32) (T_158 : zMem) => ((¬ v_159 = 0 → ((¬ (T_158 14 0) = (8 : Int32) → (vp_in (T_158 14 0) 8 ∧ ∀ r_163 : zRow, r_163 = (upd (T_158 15) (Int32.toNatClampNeg (T_158 14 0)) a1) → ((vp_in (T_158 14 0) 8 ∧ ∀ r_165 : zRow, r_165 = (upd (T_158 16) (Int32.toNatClampNeg (T_158 14 0)) a2) → ((vp_in (T_158 14 0) 8 ∧ ∀ r_167 : zRow, r_167 = (upd (T_158 17) (Int32.toNatClampNeg (T_158 14 0)) a3) → ((vp_in (T_158 14 0) 8 ∧ ∀ r_169 : zRow, r_169 = (upd (T_158 18) (Int32.toNatClampNeg (T_158 14 0)) a4) → (∀ y_170 : Int32, y_170 = ((T_158 14 0) + (1 : Int32)) → (post y_170 (zset (zset (zset (zset (zset T_158 14 (fun _ => y_170)) 15 r_163) 16 r_165) 17 r_167) 18 r_169))))))))))) ∧ ((T_158 14 0) = (8 : Int32) → post (-1 : Int32) T_158))) ∧ (v_159 = 0 → post (0 : Int32) T_158)))) ∧ (¬ (0 : Int32) = 0 → (∃ KJ_173 : Int32 → Prop, (∀ (v_172 : Int32), KJ_173 v_172 → zw_X6_right (zset M 0 (fun _ => (0 : Int32))) v_172 (1 : Int32) (fun (v_175 : Int32) (T_174 : zMem) => ((¬ v_175 = 0 → ((¬ (T_174 14 0) = (8 : Int32) → (vp_in (T_174 14 0) 8 ∧ ∀ r_179 : zRow, r_179 = (upd (T_174 15) (Int32.toNatClampNeg (T_174 14 0)) a1) → ((vp_in (T_174 14 0) 8 ∧ ∀ r_181 : zRow, r_181 = (upd (T_174 16) (Int32.toNatClampNeg (T_174 14 0)) a2) → ((vp_in (T_174 14 0) 8 ∧ ∀ r_183 : zRow, r_183 = (upd (T_174 17) (Int32.toNatClampNeg (T_174 14 0)) a3) → ((vp_in (T_174 14 0) 8 ∧ ∀ r_185 : zRow, r_185 = (upd (T_174 18) (Int32.toNatClampNeg (T_174 14 0)) a4) → (∀ y_186 : Int32, y_186 = ((T_174 14 0) + (1 : Int32)) → (post y_186 (zset (zset (zset (zset (zset T_174 14 (fun _ => y_186)) 15 r_179) 16 r_181) 17 r_183) 18 r_185))))))))))) ∧ ((T_174 14 0) = (8 : Int32) → post (-1 : Int32) T_174))) ∧ (v_175 = 0 → post (0 : Int32) T_174)))) ∧ (((a2 * a4) < ((a1 * a4) + (a3 * a2)) → (KJ_173 (0 : Int32))) ∧ (¬ (a2 * a4) < ((a1 * a4) + (a3 * a2)) → (KJ_173 (1 : Int32)))))))) ∧ (¬ (100 : Int32) < a2 → ((a4 < (1 : Int32) → (((0 : Int32) = 0 → zw_X6_right (zset M 0 (fun _ => (0 : Int32))) (0 : Int32) (1 : Int32) (fun (v_190 : Int32) (T_189 : zMem) => ((¬ v_190 = 0 → ((¬ (T_189 14 0) = (8 : Int32) → (vp_in (T_189 14 0) 8 ∧ ∀ r_194 : zRow, r_194 = (upd (T_189 15) (Int32.toNatClampNeg (T_189 14 0)) a1) → ((vp_in (T_189 14 0) 8 ∧ ∀ r_196 : zRow, r_196 = (upd (T_189 16) (Int32.toNatClampNeg (T_189 14 0)) a2) → ((vp_in (T_189 14 0) 8 ∧ ∀ r_198 : zRow, r_198 = (upd (T_189 17) (Int32.toNatClampNeg (T_189 14 0)) a3) → ((vp_in (T_189 14 0) 8 ∧ ∀ r_200 : zRow, r_200 = (upd (T_189 18) (Int32.toNatClampNeg (T_189 14 0)) a4) → (∀ y_201 : Int32, y_201 = ((T_189 14 0) + (1 : Int32)) → (post y_201 (zset (zset (zset (zset (zset T_189 14 (fun _ => y_201)) 15 r_194) 16 r_196) 17 r_198) 18 r_200))))))))))) ∧ ((T_189 14 0) = (8 : Int32) → post (-1 : Int32) T_189))) ∧ (v_190 = 0 → post (0 : Int32) T_189)))) ∧ (¬ (0 : Int32) = 0 → (∃ KJ_204 : Int32 → Prop, (∀ (v_203 : Int32), KJ_204 v_203 → zw_X6_right (zset M 0 (fun _ => (0 : Int32))) v_203 (1 : Int32) (fun (v_206 : Int32) (T_205 : zMem) => ((¬ v_206 = 0 → ((¬ (T_205 14 0) = (8 : Int32) → (vp_in (T_205 14 0) 8 ∧ ∀ r_210 : zRow, r_210 = (upd (T_205 15) (Int32.toNatClampNeg (T_205 14 0)) a1) → ((vp_in (T_205 14 0) 8 ∧ ∀ r_212 : zRow, r_212 = (upd (T_205 16) (Int32.toNatClampNeg (T_205 14 0)) a2) → ((vp_in (T_205 14 0) 8 ∧ ∀ r_214 : zRow, r_214 = (upd (T_205 17) (Int32.toNatClampNeg (T_205 14 0)) a3) → ((vp_in (T_205 14 0) 8 ∧ ∀ r_216 : zRow, r_216 = (upd (T_205 18) (Int32.toNatClampNeg (T_205 14 0)) a4) → (∀ y_217 : Int32, y_217 = ((T_205 14 0) + (1 : Int32)) → (post y_217 (zset (zset (zset (zset (zset T_205 14 (fun _ => y_217)) 15 r_210) 16 r_212) 17 r_214) 18 r_216))))))))))) ∧ ((T_205 14 0) = (8 : Int32) → post (-1 : Int32) T_205))) ∧ (v_206 = 0 → post (0 : Int32) T_205)))) ∧ (((a2 * a4) < ((a1 * a4) + (a3 * a2)) → (KJ_204 (0 : Int32))) ∧ (¬ (a2 * a4) < ((a1 * a4) + (a3 * a2)) → (KJ_204 (1 : Int32)))))))) ∧ (¬ a4 < (1 : Int32) → (∃ KJ_220 : Int32 → Prop, (∀ (v_219 : Int32), KJ_220 v_219 → ((v_219 = 0 → zw_X6_right (zset M 0 (fun _ => (0 : Int32))) (0 : Int32) (1 : Int32) (fun (v_223 : Int32) (T_222 : zMem) => ((¬ v_223 = 0 → ((¬ (T_222 14 0) = (8 : Int32) → (vp_in (T_222 14 0) 8 ∧ ∀ r_227 : zRow, r_227 = (upd (T_222 15) (Int32.toNatClampNeg (T_222 14 0)) a1) → ((vp_in (T_222 14 0) 8 ∧ ∀ r_229 : zRow, r_229 = (upd (T_222 16) (Int32.toNatClampNeg (T_222 14 0)) a2) → ((vp_in (T_222 14 0) 8 ∧ ∀ r_231 : zRow, r_231 = (upd (T_222 17) (Int32.toNatClampNeg (T_222 14 0)) a3) → ((vp_in (T_222 14 0) 8 ∧ ∀ r_233 : zRow, r_233 = (upd (T_222 18) (Int32.toNatClampNeg (T_222 14 0)) a4) → (∀ y_234 : Int32, y_234 = ((T_222 14 0) + (1 : Int32)) → (post y_234 (zset (zset (zset (zset (zset T_222 14 (fun _ => y_234)) 15 r_227) 16 r_229) 17 r_231) 18 r_233))))))))))) ∧ ((T_222 14 0) = (8 : Int32) → post (-1 : Int32) T_222))) ∧ (v_223 = 0 → post (0 : Int32) T_222)))) ∧ (¬ v_219 = 0 → (∃ KJ_237 : Int32 → Prop, (∀ (v_236 : Int32), KJ_237 v_236 → zw_X6_right (zset M 0 (fun _ => (0 : Int32))) v_236 (1 : Int32) (fun (v_239 : Int32) (T_238 : zMem) => ((¬ v_239 = 0 → ((¬ (T_238 14 0) = (8 : Int32) → (vp_in (T_238 14 0) 8 ∧ ∀ r_243 : zRow, r_243 = (upd (T_238 15) (Int32.toNatClampNeg (T_238 14 0)) a1) → ((vp_in (T_238 14 0) 8 ∧ ∀ r_245 : zRow, r_245 = (upd (T_238 16) (Int32.toNatClampNeg (T_238 14 0)) a2) → ((vp_in (T_238 14 0) 8 ∧ ∀ r_247 : zRow, r_247 = (upd (T_238 17) (Int32.toNatClampNeg (T_238 14 0)) a3) → ((vp_in (T_238 14 0) 8 ∧ ∀ r_249 : zRow, r_249 = (upd (T_238 18) (Int32.toNatClampNeg (T_238 14 0)) a4) → (∀ y_250 : Int32, y_250 = ((T_238 14 0) + (1 : Int32)) → (post y_250 (zset (zset (zset (zset (zset T_238 14 (fun _ => y_250)) 15 r_243) 16 r_245) 17 r_247) 18 r_249))))))))))) ∧ ((T_238 14 0) = (8 : Int32) → post (-1 : Int32) T_238))) ∧ (v_239 = 0 → post (0 : Int32) T_238)))) ∧ (((a2 * a4) < ((a1 * a4) + (a3 * a2)) → (KJ_237 (0 : Int32))) ∧ (¬ (a2 * a4) < ((a1 * a4) + (a3 * a2)) → (KJ_237 (1 : Int32)))))))) ∧ (((100 : Int32) < a4 → (KJ_220 (0 : Int32))) ∧ (¬ (100 : Int32) < a4 → (KJ_220 (1 : Int32)))))))))))))))))))
/-! X6_clear -/
def zd_X6_clear (cI : ClassId) (adM qM1 qM2 qM3 qM4 qM5 qM6 qM7 qM8 qM12 qM13 qM15 qM16 qM17 qM18 qM19 qM20 qM21 : Nat) (M : zMem) : va_W := [(adM, .inr (5, [.int (M 0 0), .ref qM1, .ref qM2, .ref qM3, .ref qM4, .ref qM5, .ref qM6, .ref qM7, .ref qM8, .int (M 9 0), .int (M 10 0), .int (M 11 0), .ref qM12, .ref qM13, .int (M 14 0), .ref qM15, .ref qM16, .ref qM17, .ref qM18, .ref qM19, .ref qM20, .ref qM21])), (qM1, .inl (cI, 2, .inl (M 1))), (qM2, .inl (cI, 2, .inl (M 2))), (qM3, .inl (cI, 2, .inl (M 3))), (qM4, .inl (cI, 2, .inl (M 4))), (qM5, .inl (cI, 2, .inl (M 5))), (qM6, .inl (cI, 12, .inl (M 6))), (qM7, .inl (cI, 12, .inl (M 7))), (qM8, .inl (cI, 12, .inl (M 8))), (qM12, .inl (cI, 6, .inl (M 12))), (qM13, .inl (cI, 6, .inl (M 13))), (qM15, .inl (cI, 8, .inl (M 15))), (qM16, .inl (cI, 8, .inl (M 16))), (qM17, .inl (cI, 8, .inl (M 17))), (qM18, .inl (cI, 8, .inl (M 18))), (qM19, .inl (cI, 12000, .inl (M 19))), (qM20, .inl (cI, 60, .inl (M 20))), (qM21, .inl (cI, 60, .inl (M 21)))]
abbrev rmX6_clear : Room := { frames := 0, cells := 0, slots := 0, locals := 0 }
def zw_X6_clear (M : zMem) (post : Int32 → zMem → Prop) : Prop := ∀ x1_1 : Int32, x1_1 = (M 14 0) → (post x1_1 (zset (zset M 0 (fun _ => (0 : Int32))) 14 (fun _ => (0 : Int32))))
/-! X6_paneOn -/
def zd_X6_paneOn (cI : ClassId) (adM qM1 qM2 qM3 qM4 qM5 qM6 qM7 qM8 qM12 qM13 qM15 qM16 qM17 qM18 qM19 qM20 qM21 : Nat) (M : zMem) : va_W := [(adM, .inr (5, [.int (M 0 0), .ref qM1, .ref qM2, .ref qM3, .ref qM4, .ref qM5, .ref qM6, .ref qM7, .ref qM8, .int (M 9 0), .int (M 10 0), .int (M 11 0), .ref qM12, .ref qM13, .int (M 14 0), .ref qM15, .ref qM16, .ref qM17, .ref qM18, .ref qM19, .ref qM20, .ref qM21])), (qM1, .inl (cI, 2, .inl (M 1))), (qM2, .inl (cI, 2, .inl (M 2))), (qM3, .inl (cI, 2, .inl (M 3))), (qM4, .inl (cI, 2, .inl (M 4))), (qM5, .inl (cI, 2, .inl (M 5))), (qM6, .inl (cI, 12, .inl (M 6))), (qM7, .inl (cI, 12, .inl (M 7))), (qM8, .inl (cI, 12, .inl (M 8))), (qM12, .inl (cI, 6, .inl (M 12))), (qM13, .inl (cI, 6, .inl (M 13))), (qM15, .inl (cI, 8, .inl (M 15))), (qM16, .inl (cI, 8, .inl (M 16))), (qM17, .inl (cI, 8, .inl (M 17))), (qM18, .inl (cI, 8, .inl (M 18))), (qM19, .inl (cI, 12000, .inl (M 19))), (qM20, .inl (cI, 60, .inl (M 20))), (qM21, .inl (cI, 60, .inl (M 21)))]
abbrev rmX6_paneOn : Room := { frames := 6, cells := 0, slots := 0, locals := 147 }
def zw_X6_paneOn (M : zMem) (a1 : Int32) (post : zMem → Prop) : Prop := (vp_in a1 8 ∧ ∀ x2_2 : Int64, x2_2 = (Int32.toInt64 ((M 15) (Int32.toNatClampNeg a1))) → ((vp_in a1 8 ∧ ∀ x4_4 : Int64, x4_4 = (Int32.toInt64 ((M 16) (Int32.toNatClampNeg a1))) → ((vp_in a1 8 ∧ ∀ x6_6 : Int64, x6_6 = (Int32.toInt64 ((M 17) (Int32.toNatClampNeg a1))) → ((vp_in a1 8 ∧ ∀ x8_8 : Int64, x8_8 = (Int32.toInt64 ((M 18) (Int32.toNatClampNeg a1))) → (zw_X6_copy M (32 : Int32) (29 : Int32) (fun (T_9 : zMem) => zw_X6_by T_9 (32 : Int32) x4_4 (fun (T_10 : zMem) => zw_X6_copy T_10 (33 : Int32) (28 : Int32) (fun (T_11 : zMem) => zw_X6_by T_11 (33 : Int32) x2_2 (fun (T_12 : zMem) => zw_X6_minus T_12 (32 : Int32) (32 : Int32) (33 : Int32) (fun (T_13 : zMem) => (vp_in (32 : Int32) 60 ∧ ((¬ ((T_13 21) (Int32.toNatClampNeg (32 : Int32))) = 0 → zw_X6_times T_13 (10 : Int32) (30 : Int32) (30 : Int32) (fun (T_16 : zMem) => zw_X6_by T_16 (10 : Int32) x2_2 (fun (T_17 : zMem) => zw_X6_times T_17 (11 : Int32) (10 : Int32) (29 : Int32) (fun (T_18 : zMem) => zw_X6_times T_18 (10 : Int32) (31 : Int32) (31 : Int32) (fun (T_19 : zMem) => zw_X6_times T_19 (12 : Int32) (10 : Int32) (32 : Int32) (fun (T_20 : zMem) => zw_X6_times T_20 (10 : Int32) (26 : Int32) (12 : Int32) (fun (T_21 : zMem) => zw_X6_times T_21 (13 : Int32) (11 : Int32) (27 : Int32) (fun (T_22 : zMem) => zw_X6_plus T_22 (35 : Int32) (10 : Int32) (13 : Int32) (fun (T_23 : zMem) => zw_X6_times T_23 (36 : Int32) (27 : Int32) (12 : Int32) (fun (T_24 : zMem) => zw_X6_copy T_24 (26 : Int32) (35 : Int32) (fun (T_25 : zMem) => zw_X6_copy T_25 (27 : Int32) (36 : Int32) (fun (T_26 : zMem) => zw_X6_shorten T_26 (26 : Int32) (27 : Int32) (fun (T_27 : zMem) => zw_X6_times T_27 (10 : Int32) (30 : Int32) (29 : Int32) (fun (T_28 : zMem) => zw_X6_by T_28 (10 : Int32) (x6_6 * x4_4) (fun (T_29 : zMem) => zw_X6_times T_29 (11 : Int32) (31 : Int32) (32 : Int32) (fun (T_30 : zMem) => zw_X6_by T_30 (11 : Int32) x8_8 (fun (T_31 : zMem) => zw_X6_copy T_31 (30 : Int32) (10 : Int32) (fun (T_32 : zMem) => zw_X6_copy T_32 (31 : Int32) (11 : Int32) (fun (T_33 : zMem) => zw_X6_shorten T_33 (30 : Int32) (31 : Int32) (fun (T_34 : zMem) => zw_X6_copy T_34 (10 : Int32) (28 : Int32) (fun (T_35 : zMem) => zw_X6_by T_35 (10 : Int32) (((x6_6 * x6_6) * x4_4) * x4_4) (fun (T_36 : zMem) => zw_X6_copy T_36 (11 : Int32) (32 : Int32) (fun (T_37 : zMem) => zw_X6_by T_37 (11 : Int32) ((x2_2 * x8_8) * x8_8) (fun (T_38 : zMem) => zw_X6_plus T_38 (28 : Int32) (10 : Int32) (11 : Int32) (fun (T_39 : zMem) => zw_X6_copy T_39 (29 : Int32) (32 : Int32) (fun (T_40 : zMem) => zw_X6_by T_40 (29 : Int32) ((x4_4 * x8_8) * x8_8) (fun (T_41 : zMem) => zw_X6_shorten T_41 (28 : Int32) (29 : Int32) (fun (T_42 : zMem) => post T_42)))))))))))))))))))))))))))) ∧ (((T_13 21) (Int32.toNatClampNeg (32 : Int32))) = 0 → zw_X6_set T_13 (28 : Int32) x2_2 (fun (T_43 : zMem) => zw_X6_set T_43 (29 : Int32) x4_4 (fun (T_44 : zMem) => zw_X6_set T_44 (30 : Int32) (0 : Int64) (fun (T_45 : zMem) => zw_X6_set T_45 (31 : Int32) (1 : Int64) (fun (T_46 : zMem) => post T_46))))))))))))))))))))
/-! X6_shares -/
def zd_X6_shares (cI : ClassId) (adM qM1 qM2 qM3 qM4 qM5 qM6 qM7 qM8 qM12 qM13 qM15 qM16 qM17 qM18 qM19 qM20 qM21 : Nat) (M : zMem) : va_W := [(adM, .inr (5, [.int (M 0 0), .ref qM1, .ref qM2, .ref qM3, .ref qM4, .ref qM5, .ref qM6, .ref qM7, .ref qM8, .int (M 9 0), .int (M 10 0), .int (M 11 0), .ref qM12, .ref qM13, .int (M 14 0), .ref qM15, .ref qM16, .ref qM17, .ref qM18, .ref qM19, .ref qM20, .ref qM21])), (qM1, .inl (cI, 2, .inl (M 1))), (qM2, .inl (cI, 2, .inl (M 2))), (qM3, .inl (cI, 2, .inl (M 3))), (qM4, .inl (cI, 2, .inl (M 4))), (qM5, .inl (cI, 2, .inl (M 5))), (qM6, .inl (cI, 12, .inl (M 6))), (qM7, .inl (cI, 12, .inl (M 7))), (qM8, .inl (cI, 12, .inl (M 8))), (qM12, .inl (cI, 6, .inl (M 12))), (qM13, .inl (cI, 6, .inl (M 13))), (qM15, .inl (cI, 8, .inl (M 15))), (qM16, .inl (cI, 8, .inl (M 16))), (qM17, .inl (cI, 8, .inl (M 17))), (qM18, .inl (cI, 8, .inl (M 18))), (qM19, .inl (cI, 12000, .inl (M 19))), (qM20, .inl (cI, 60, .inl (M 20))), (qM21, .inl (cI, 60, .inl (M 21)))]
abbrev rmX6_shares : Room := { frames := 7, cells := 0, slots := 0, locals := 176 }
def zw_X6_shares_44 (K63 : zMem → Prop) : Nat → Int32 → zMem → Prop
  | 0, _, _ => False
  | k + 1, p1, M => (((M 14 0) ≤ p1 → (K63 M)) ∧ (¬ (M 14 0) ≤ p1 → zw_X6_paneOn M p1 (fun (T_8 : zMem) => ∀ x1_9 : Int32, x1_9 = p1 + (1 : Int32) → ((zw_X6_shares_44 K63 k x1_9 T_8)))))
def zw_X6_shares (M : zMem) (post : zMem → Prop) : Prop := zw_X6_set M (26 : Int32) (0 : Int64) (fun (T_1 : zMem) => zw_X6_set T_1 (27 : Int32) (1 : Int64) (fun (T_2 : zMem) => zw_X6_set T_2 (28 : Int32) (0 : Int64) (fun (T_3 : zMem) => zw_X6_set T_3 (29 : Int32) (1 : Int64) (fun (T_4 : zMem) => zw_X6_set T_4 (30 : Int32) (1 : Int64) (fun (T_5 : zMem) => zw_X6_set T_5 (31 : Int32) (1 : Int64) (fun (T_6 : zMem) => (∃ kf, zw_X6_shares_44  (fun (T_10 : zMem) => post T_10) kf (0 : Int32) T_6)))))))
/-! X6_share -/
def zd_X6_share (cI : ClassId) (adM qM1 qM2 qM3 qM4 qM5 qM6 qM7 qM8 qM12 qM13 qM15 qM16 qM17 qM18 qM19 qM20 qM21 : Nat) (M : zMem) : va_W := [(adM, .inr (5, [.int (M 0 0), .ref qM1, .ref qM2, .ref qM3, .ref qM4, .ref qM5, .ref qM6, .ref qM7, .ref qM8, .int (M 9 0), .int (M 10 0), .int (M 11 0), .ref qM12, .ref qM13, .int (M 14 0), .ref qM15, .ref qM16, .ref qM17, .ref qM18, .ref qM19, .ref qM20, .ref qM21])), (qM1, .inl (cI, 2, .inl (M 1))), (qM2, .inl (cI, 2, .inl (M 2))), (qM3, .inl (cI, 2, .inl (M 3))), (qM4, .inl (cI, 2, .inl (M 4))), (qM5, .inl (cI, 2, .inl (M 5))), (qM6, .inl (cI, 12, .inl (M 6))), (qM7, .inl (cI, 12, .inl (M 7))), (qM8, .inl (cI, 12, .inl (M 8))), (qM12, .inl (cI, 6, .inl (M 12))), (qM13, .inl (cI, 6, .inl (M 13))), (qM15, .inl (cI, 8, .inl (M 15))), (qM16, .inl (cI, 8, .inl (M 16))), (qM17, .inl (cI, 8, .inl (M 17))), (qM18, .inl (cI, 8, .inl (M 18))), (qM19, .inl (cI, 12000, .inl (M 19))), (qM20, .inl (cI, 60, .inl (M 20))), (qM21, .inl (cI, 60, .inl (M 21)))]
abbrev rmX6_share : Room := { frames := 8, cells := 0, slots := 0, locals := 197 }
def zw_X6_share (M : zMem) (a1 : Int32) (a2 : Int32) (a3 : Int32) (post : Int32 → zMem → Prop) : Prop := ((a1 < 0 → zw_X6_right (zset M 0 (fun _ => (0 : Int32))) (0 : Int32) (1 : Int32) (fun (v_3 : Int32) (T_2 : zMem) => ((¬ v_3 = 0 → zw_X6_shares T_2 (fun (T_5 : zMem) => ((¬ a1 = 0 → ((¬ a1 = (1 : Int32) → ((¬ a1 = (2 : Int32) → zw_X6_times T_5 (36 : Int32) (27 : Int32) (31 : Int32) (fun (T_9 : zMem) => zw_X6_times T_9 (10 : Int32) (26 : Int32) (31 : Int32) (fun (T_10 : zMem) => zw_X6_minus T_10 (35 : Int32) (36 : Int32) (10 : Int32) (fun (T_11 : zMem) => zw_X6_times T_11 (10 : Int32) (30 : Int32) (27 : Int32) (fun (T_12 : zMem) => zw_X6_minus T_12 (35 : Int32) (35 : Int32) (10 : Int32) (fun (T_13 : zMem) => zw_X6_toldPart T_13 (35 : Int32) (36 : Int32) a2 a3 (fun (v_15 : Int32) (T_14 : zMem) => post v_15 T_14))))))) ∧ (a1 = (2 : Int32) → zw_X6_toldPart T_5 (30 : Int32) (31 : Int32) a2 a3 (fun (v_17 : Int32) (T_16 : zMem) => post v_17 T_16)))) ∧ (a1 = (1 : Int32) → zw_X6_toldPart T_5 (28 : Int32) (29 : Int32) a2 a3 (fun (v_19 : Int32) (T_18 : zMem) => post v_19 T_18)))) ∧ (a1 = 0 → zw_X6_toldPart T_5 (26 : Int32) (27 : Int32) a2 a3 (fun (v_21 : Int32) (T_20 : zMem) => post v_21 T_20))))) ∧ (v_3 = 0 → post (0 : Int32) T_2)))) ∧ (¬ a1 < 0 → (((3 : Int32) < a1 → zw_X6_right (zset M 0 (fun _ => (0 : Int32))) (0 : Int32) (1 : Int32) (fun (v_24 : Int32) (T_23 : zMem) => ((¬ v_24 = 0 → zw_X6_shares T_23 (fun (T_26 : zMem) => ((¬ a1 = 0 → ((¬ a1 = (1 : Int32) → ((¬ a1 = (2 : Int32) → zw_X6_times T_26 (36 : Int32) (27 : Int32) (31 : Int32) (fun (T_30 : zMem) => zw_X6_times T_30 (10 : Int32) (26 : Int32) (31 : Int32) (fun (T_31 : zMem) => zw_X6_minus T_31 (35 : Int32) (36 : Int32) (10 : Int32) (fun (T_32 : zMem) => zw_X6_times T_32 (10 : Int32) (30 : Int32) (27 : Int32) (fun (T_33 : zMem) => zw_X6_minus T_33 (35 : Int32) (35 : Int32) (10 : Int32) (fun (T_34 : zMem) => zw_X6_toldPart T_34 (35 : Int32) (36 : Int32) a2 a3 (fun (v_36 : Int32) (T_35 : zMem) => post v_36 T_35))))))) ∧ (a1 = (2 : Int32) → zw_X6_toldPart T_26 (30 : Int32) (31 : Int32) a2 a3 (fun (v_38 : Int32) (T_37 : zMem) => post v_38 T_37)))) ∧ (a1 = (1 : Int32) → zw_X6_toldPart T_26 (28 : Int32) (29 : Int32) a2 a3 (fun (v_40 : Int32) (T_39 : zMem) => post v_40 T_39)))) ∧ (a1 = 0 → zw_X6_toldPart T_26 (26 : Int32) (27 : Int32) a2 a3 (fun (v_42 : Int32) (T_41 : zMem) => post v_42 T_41))))) ∧ (v_24 = 0 → post (0 : Int32) T_23)))) ∧ (¬ (3 : Int32) < a1 → zw_X6_isPart a3 (fun (v_43 : Int32) => (∃ KJ_46 : Int32 → Prop, (∀ (v_45 : Int32), KJ_46 v_45 → zw_X6_right (zset M 0 (fun _ => (0 : Int32))) v_45 (1 : Int32) (fun (v_48 : Int32) (T_47 : zMem) => ((¬ v_48 = 0 → zw_X6_shares T_47 (fun (T_50 : zMem) => ((¬ a1 = 0 → ((¬ a1 = (1 : Int32) → ((¬ a1 = (2 : Int32) → zw_X6_times T_50 (36 : Int32) (27 : Int32) (31 : Int32) (fun (T_54 : zMem) => zw_X6_times T_54 (10 : Int32) (26 : Int32) (31 : Int32) (fun (T_55 : zMem) => zw_X6_minus T_55 (35 : Int32) (36 : Int32) (10 : Int32) (fun (T_56 : zMem) => zw_X6_times T_56 (10 : Int32) (30 : Int32) (27 : Int32) (fun (T_57 : zMem) => zw_X6_minus T_57 (35 : Int32) (35 : Int32) (10 : Int32) (fun (T_58 : zMem) => zw_X6_toldPart T_58 (35 : Int32) (36 : Int32) a2 a3 (fun (v_60 : Int32) (T_59 : zMem) => post v_60 T_59))))))) ∧ (a1 = (2 : Int32) → zw_X6_toldPart T_50 (30 : Int32) (31 : Int32) a2 a3 (fun (v_62 : Int32) (T_61 : zMem) => post v_62 T_61)))) ∧ (a1 = (1 : Int32) → zw_X6_toldPart T_50 (28 : Int32) (29 : Int32) a2 a3 (fun (v_64 : Int32) (T_63 : zMem) => post v_64 T_63)))) ∧ (a1 = 0 → zw_X6_toldPart T_50 (26 : Int32) (27 : Int32) a2 a3 (fun (v_66 : Int32) (T_65 : zMem) => post v_66 T_65))))) ∧ (v_48 = 0 → post (0 : Int32) T_47)))) ∧ ((v_43 = 0 → (KJ_46 (0 : Int32))) ∧ (¬ v_43 = 0 → (KJ_46 (1 : Int32))))))))))
theorem zy_X6_layerOn : yX6_layerOn.cls = RX6 ∧ yX6_layerOn.cls ≠ "java/lang/invoke/MethodHandle" ∧ yX6_layerOn.cls ≠ "java/lang/invoke/VarHandle" ∧ (parseMethodDescriptor yX6_layerOn.desc).map (fun d => d.parameters.length) = some 5 := by decide +kernel
set_option maxHeartbeats 4000000 in
set_option maxRecDepth 100000 in
theorem zc_X6_layerOn (l : Launch) (G : va_G) (cI : ClassId) (adM qM1 qM2 qM3 qM4 qM5 qM6 qM7 qM8 qM12 qM13 qM15 qM16 qM17 qM18 qM19 qM20 qM21 : Nat) (M : zMem) (a1 : Int32) (a2 : Int32) (a3 : Int32) (a4 : Int32) (a5 : Int32) (post : zMem → Prop) (hF : zw_X6_layerOn M a1 a2 a3 a4 a5 post) (sz : Nat) : Met l yX6_layerOn wsX6_layerOn rmX6_layerOn (va_Pc [.ref adM, .int a1, .int a2, .int a3, .int a4, .int a5] (zv_in G cI (zd_X6_layerOn cI adM qM1 qM2 qM3 qM4 qM5 qM6 qM7 qM8 qM12 qM13 qM15 qM16 qM17 qM18 qM19 qM20 qM21 M) sz)) (va_Qv (fun uz : zMem => post uz) (fun (uz : zMem) t => zv_out G cI (va_A (zd_X6_layerOn cI adM qM1 qM2 qM3 qM4 qM5 qM6 qM7 qM8 qM12 qM13 qM15 qM16 qM17 qM18 qM19 qM20 qM21 M) sz) (zd_X6_layerOn cI adM qM1 qM2 qM3 qM4 qM5 qM6 qM7 qM8 qM12 qM13 qM15 qM16 qM17 qM18 qM19 qM20 qM21 uz) t) (va_A (zd_X6_layerOn cI adM qM1 qM2 qM3 qM4 qM5 qM6 qM7 qM8 qM12 qM13 qM15 qM16 qM17 qM18 qM19 qM20 qM21 M) sz)) 0 0 (va_A (zd_X6_layerOn cI adM qM1 qM2 qM3 qM4 qM5 qM6 qM7 qM8 qM12 qM13 qM15 qM16 qM17 qM18 qM19 qM20 qM21 M) sz) := by
  refine zv_met (cc := cX6_layerOn) (maxL := 12) (ret := none) (lv0 := [(0, .ref adM), (1, .int a1), (2, .int a2), (3, .int a3), (4, .int a4), (5, .int a5)]) (Qc := fun A => va_Qv (fun uz : zMem => post uz) (fun (uz : zMem) t => zv_out G cI A (zd_X6_layerOn cI adM qM1 qM2 qM3 qM4 qM5 qM6 qM7 qM8 qM12 qM13 qM15 qM16 qM17 qM18 qM19 qM20 qM21 uz) t) A) (by decide) rfl (Nat.le_of_ble_eq_true rfl) rfl ?_ sz
  intro p e s m below meth c A C hr hlk
  clear sz
  refine zv_iload_n (pc := 0) C rfl 3 rfl dX6_layerOn_0 ?_
  refine zv_iload (pc := 1) C 4 rfl dX6_layerOn_1 ?_
  refine zv_i2l (pc := 3) C  dX6_layerOn_3 ?_
  refine zv_iload (pc := 4) C 5 rfl dX6_layerOn_4 ?_
  refine zv_i2l (pc := 6) C  dX6_layerOn_6 ?_
  refine zv_cl0 (pc := 7) (ws' := (fun uz : Unit => (zd_X6_layerOn cI adM qM1 qM2 qM3 qM4 qM5 qM6 qM7 qM8 qM12 qM13 qM15 qM16 qM17 qM18 qM19 qM20 qM21 M))) C (zv_runS (As := [.int a3, .long (Int32.toInt64 a4), .long (Int32.toInt64 a5)]) (rest := []) C (zc_X6_first l G cI a3 (Int32.toInt64 a4) (Int32.toInt64 a5) _ hF) (va_cwS 3 C.2.2.2.2.1 gX6_layerOn_X6_first rfl rfl rfl zy_X6_first ⟨Nat.le_of_ble_eq_true rfl, Nat.le_of_ble_eq_true rfl⟩) rfl rfl (Nat.le_of_ble_eq_true rfl) ⟨Nat.zero_le _, Nat.zero_le _⟩ dX6_layerOn_7) [] [0, 1, 2, 3, 4, 5, 6, 7, 8, 9, 10, 11, 12, 13, 14, 15, 16, 17] rfl rfl rfl rfl rfl (fun _ => rfl) (fun _ => rfl) (fun _ => rfl) (fun v_1 uz hF => ?_)
  refine zv_iload_n (pc := 10) C rfl 1 rfl dX6_layerOn_10 ?_
  refine zv_i2l (pc := 11) C  dX6_layerOn_11 ?_
  refine zv_lmul (pc := 12) C  dX6_layerOn_12 ?_
  refine zv_iload_n (pc := 13) C rfl 2 rfl dX6_layerOn_13 ?_
  refine zv_i2l (pc := 14) C  dX6_layerOn_14 ?_
  refine zv_lmul (pc := 15) C  dX6_layerOn_15 ?_
  refine zv_topl (fun x6_2 ex6_2 => ?_)
  replace hF := hF x6_2 ex6_2
  refine zv_lstore (pc := 16) (lv' := [(6, .long x6_2), (0, .ref adM), (1, .int a1), (2, .int a2), (3, .int a3), (4, .int a4), (5, .int a5)]) C (by decide) rfl dX6_layerOn_16 ?_
  refine zv_iload_n (pc := 18) C rfl 4 rfl dX6_layerOn_18 ?_
  refine zv_iload (pc := 19) C 5 rfl dX6_layerOn_19 ?_
  refine zv_i2l (pc := 21) C  dX6_layerOn_21 ?_
  refine zv_iload (pc := 22) C 6 rfl dX6_layerOn_22 ?_
  refine zv_i2l (pc := 24) C  dX6_layerOn_24 ?_
  refine zv_cl0 (pc := 25) (ws' := (fun uz : Unit => (zd_X6_layerOn cI adM qM1 qM2 qM3 qM4 qM5 qM6 qM7 qM8 qM12 qM13 qM15 qM16 qM17 qM18 qM19 qM20 qM21 M))) C (zv_runS (As := [.int a3, .long (Int32.toInt64 a4), .long (Int32.toInt64 a5)]) (rest := []) C (zc_X6_second l G cI a3 (Int32.toInt64 a4) (Int32.toInt64 a5) _ hF) (va_cwS 3 C.2.2.2.2.1 gX6_layerOn_X6_second rfl rfl rfl zy_X6_second ⟨Nat.le_of_ble_eq_true rfl, Nat.le_of_ble_eq_true rfl⟩) rfl rfl (Nat.le_of_ble_eq_true rfl) ⟨Nat.zero_le _, Nat.zero_le _⟩ dX6_layerOn_25) [] [0, 1, 2, 3, 4, 5, 6, 7, 8, 9, 10, 11, 12, 13, 14, 15, 16, 17] rfl rfl rfl rfl rfl (fun _ => rfl) (fun _ => rfl) (fun _ => rfl) (fun v_3 uz hF => ?_)
  refine zv_lstore (pc := 28) (lv' := [(8, .long v_3), (6, .long x6_2), (0, .ref adM), (1, .int a1), (2, .int a2), (3, .int a3), (4, .int a4), (5, .int a5)]) C (by decide) rfl dX6_layerOn_28 ?_
  refine zv_aload_n (pc := 30) C rfl 2 rfl dX6_layerOn_30 ?_
  refine zv_bipush (pc := 31) (v := 10) C (by decide) dX6_layerOn_31 ?_
  refine zv_lload (pc := 33) C 1 rfl dX6_layerOn_33 ?_
  refine zv_cv0 (pc := 35) (ws' := (fun uz : zMem => (zd_X6_layerOn cI adM qM1 qM2 qM3 qM4 qM5 qM6 qM7 qM8 qM12 qM13 qM15 qM16 qM17 qM18 qM19 qM20 qM21 uz))) C (zv_runV (As := [.int (10 : Int32), .long x6_2]) (b := adM) (rest := []) (ci := 5) (q0 := 0) C (zc_X6_set l G cI adM qM1 qM2 qM3 qM4 qM5 qM6 qM7 qM8 qM12 qM13 qM15 qM16 qM17 qM18 qM19 qM20 qM21 M (10 : Int32) x6_2 _ hF) (cwV 2 C.2.2.2.2.1 gX6_layerOn_X6_set rfl rfl rfl zy_X6_set ⟨Nat.le_of_ble_eq_true rfl, Nat.le_of_ble_eq_true rfl⟩) rfl rfl rfl rfl rfl (Nat.le_of_ble_eq_true rfl) ⟨Nat.zero_le _, Nat.zero_le _⟩ dX6_layerOn_35) [0, 1, 2, 3, 4, 5, 6, 7, 8, 9, 10, 11, 12, 13, 14, 15, 16, 17] [] rfl rfl rfl rfl rfl (fun _ => rfl) (fun _ => rfl) (fun _ => rfl) (fun uz hF => ?_)
  obtain ⟨T_4, hE⟩ : ∃ z, z = uz := ⟨_, rfl⟩; subst hE
  refine zv_aload_n (pc := 38) C rfl 2 rfl dX6_layerOn_38 ?_
  refine zv_bipush (pc := 39) (v := 11) C (by decide) dX6_layerOn_39 ?_
  refine zv_lload (pc := 41) C 0 rfl dX6_layerOn_41 ?_
  refine zv_iload_n (pc := 43) C rfl 4 rfl dX6_layerOn_43 ?_
  refine zv_i2l (pc := 44) C  dX6_layerOn_44 ?_
  refine zv_lmul (pc := 45) C  dX6_layerOn_45 ?_
  refine zv_iload_n (pc := 46) C rfl 4 rfl dX6_layerOn_46 ?_
  refine zv_i2l (pc := 47) C  dX6_layerOn_47 ?_
  refine zv_lmul (pc := 48) C  dX6_layerOn_48 ?_
  refine zv_cv0 (pc := 49) (ws' := (fun uz : zMem => (zd_X6_layerOn cI adM qM1 qM2 qM3 qM4 qM5 qM6 qM7 qM8 qM12 qM13 qM15 qM16 qM17 qM18 qM19 qM20 qM21 uz))) C (zv_runV (As := [.int (11 : Int32), .long ((v_3 * (Int32.toInt64 a2)) * (Int32.toInt64 a2))]) (b := adM) (rest := []) (ci := 5) (q0 := 0) C (zc_X6_set l G cI adM qM1 qM2 qM3 qM4 qM5 qM6 qM7 qM8 qM12 qM13 qM15 qM16 qM17 qM18 qM19 qM20 qM21 T_4 (11 : Int32) ((v_3 * (Int32.toInt64 a2)) * (Int32.toInt64 a2)) _ hF) (cwV 2 C.2.2.2.2.1 gX6_layerOn_X6_set rfl rfl rfl zy_X6_set ⟨Nat.le_of_ble_eq_true rfl, Nat.le_of_ble_eq_true rfl⟩) rfl rfl rfl rfl rfl (Nat.le_of_ble_eq_true rfl) ⟨Nat.zero_le _, Nat.zero_le _⟩ dX6_layerOn_49) [0, 1, 2, 3, 4, 5, 6, 7, 8, 9, 10, 11, 12, 13, 14, 15, 16, 17] [] rfl rfl rfl rfl rfl (fun _ => rfl) (fun _ => rfl) (fun _ => rfl) (fun uz hF => ?_)
  obtain ⟨T_5, hE⟩ : ∃ z, z = uz := ⟨_, rfl⟩; subst hE
  refine zv_aload_n (pc := 52) C rfl 2 rfl dX6_layerOn_52 ?_
  refine zv_bipush (pc := 53) (v := 12) C (by decide) dX6_layerOn_53 ?_
  refine zv_lload (pc := 55) C 0 rfl dX6_layerOn_55 ?_
  refine zv_iload_n (pc := 57) C rfl 3 rfl dX6_layerOn_57 ?_
  refine zv_i2l (pc := 58) C  dX6_layerOn_58 ?_
  refine zv_lmul (pc := 59) C  dX6_layerOn_59 ?_
  refine zv_iload_n (pc := 60) C rfl 3 rfl dX6_layerOn_60 ?_
  refine zv_i2l (pc := 61) C  dX6_layerOn_61 ?_
  refine zv_lmul (pc := 62) C  dX6_layerOn_62 ?_
  refine zv_cv0 (pc := 63) (ws' := (fun uz : zMem => (zd_X6_layerOn cI adM qM1 qM2 qM3 qM4 qM5 qM6 qM7 qM8 qM12 qM13 qM15 qM16 qM17 qM18 qM19 qM20 qM21 uz))) C (zv_runV (As := [.int (12 : Int32), .long ((v_3 * (Int32.toInt64 a1)) * (Int32.toInt64 a1))]) (b := adM) (rest := []) (ci := 5) (q0 := 0) C (zc_X6_set l G cI adM qM1 qM2 qM3 qM4 qM5 qM6 qM7 qM8 qM12 qM13 qM15 qM16 qM17 qM18 qM19 qM20 qM21 T_5 (12 : Int32) ((v_3 * (Int32.toInt64 a1)) * (Int32.toInt64 a1)) _ hF) (cwV 2 C.2.2.2.2.1 gX6_layerOn_X6_set rfl rfl rfl zy_X6_set ⟨Nat.le_of_ble_eq_true rfl, Nat.le_of_ble_eq_true rfl⟩) rfl rfl rfl rfl rfl (Nat.le_of_ble_eq_true rfl) ⟨Nat.zero_le _, Nat.zero_le _⟩ dX6_layerOn_63) [0, 1, 2, 3, 4, 5, 6, 7, 8, 9, 10, 11, 12, 13, 14, 15, 16, 17] [] rfl rfl rfl rfl rfl (fun _ => rfl) (fun _ => rfl) (fun _ => rfl) (fun uz hF => ?_)
  obtain ⟨T_6, hE⟩ : ∃ z, z = uz := ⟨_, rfl⟩; subst hE
  refine zv_iload (pc := 66) C 7 rfl dX6_layerOn_66 ?_
  refine zv_i2l (pc := 68) C  dX6_layerOn_68 ?_
  refine zv_iload (pc := 69) C 7 rfl dX6_layerOn_69 ?_
  refine zv_i2l (pc := 71) C  dX6_layerOn_71 ?_
  refine zv_lmul (pc := 72) C  dX6_layerOn_72 ?_
  refine zv_iload (pc := 73) C 6 rfl dX6_layerOn_73 ?_
  refine zv_i2l (pc := 75) C  dX6_layerOn_75 ?_
  refine zv_iload (pc := 76) C 6 rfl dX6_layerOn_76 ?_
  refine zv_i2l (pc := 78) C  dX6_layerOn_78 ?_
  refine zv_lmul (pc := 79) C  dX6_layerOn_79 ?_
  refine zv_lsub (pc := 80) C  dX6_layerOn_80 ?_
  refine zv_topl (fun x10_7 ex10_7 => ?_)
  replace hF := hF x10_7 ex10_7
  refine zv_lstore (pc := 81) (lv' := [(10, .long x10_7), (8, .long v_3), (6, .long x6_2), (0, .ref adM), (1, .int a1), (2, .int a2), (3, .int a3), (4, .int a4), (5, .int a5)]) C (by decide) rfl dX6_layerOn_81 ?_
  refine zv_aload_n (pc := 83) C rfl 3 rfl dX6_layerOn_83 ?_
  refine zv_bipush (pc := 84) (v := 6) C (by decide) dX6_layerOn_84 ?_
  refine zv_iconst (pc := 86) (v := 0) C (by decide) dX6_layerOn_86 ?_
  refine zv_bipush (pc := 87) (v := 10) C (by decide) dX6_layerOn_87 ?_
  refine zv_cv0 (pc := 89) (ws' := (fun uz : zMem => (zd_X6_layerOn cI adM qM1 qM2 qM3 qM4 qM5 qM6 qM7 qM8 qM12 qM13 qM15 qM16 qM17 qM18 qM19 qM20 qM21 uz))) C (zv_runV (As := [.int (6 : Int32), .int (0 : Int32), .int (10 : Int32)]) (b := adM) (rest := []) (ci := 5) (q0 := 0) C (zc_X6_times l G cI adM qM1 qM2 qM3 qM4 qM5 qM6 qM7 qM8 qM12 qM13 qM15 qM16 qM17 qM18 qM19 qM20 qM21 T_6 (6 : Int32) (0 : Int32) (10 : Int32) _ hF) (cwV 3 C.2.2.2.2.1 gX6_layerOn_X6_times rfl rfl rfl zy_X6_times ⟨Nat.le_of_ble_eq_true rfl, Nat.le_of_ble_eq_true rfl⟩) rfl rfl rfl rfl rfl (Nat.le_of_ble_eq_true rfl) ⟨Nat.zero_le _, Nat.zero_le _⟩ dX6_layerOn_89) [0, 1, 2, 3, 4, 5, 6, 7, 8, 9, 10, 11, 12, 13, 14, 15, 16, 17] [] rfl rfl rfl rfl rfl (fun _ => rfl) (fun _ => rfl) (fun _ => rfl) (fun uz hF => ?_)
  obtain ⟨T_8, hE⟩ : ∃ z, z = uz := ⟨_, rfl⟩; subst hE
  refine zv_aload_n (pc := 92) C rfl 3 rfl dX6_layerOn_92 ?_
  refine zv_bipush (pc := 93) (v := 33) C (by decide) dX6_layerOn_93 ?_
  refine zv_iconst (pc := 95) (v := 1) C (by decide) dX6_layerOn_95 ?_
  refine zv_bipush (pc := 96) (v := 12) C (by decide) dX6_layerOn_96 ?_
  refine zv_cv0 (pc := 98) (ws' := (fun uz : zMem => (zd_X6_layerOn cI adM qM1 qM2 qM3 qM4 qM5 qM6 qM7 qM8 qM12 qM13 qM15 qM16 qM17 qM18 qM19 qM20 qM21 uz))) C (zv_runV (As := [.int (33 : Int32), .int (1 : Int32), .int (12 : Int32)]) (b := adM) (rest := []) (ci := 5) (q0 := 0) C (zc_X6_times l G cI adM qM1 qM2 qM3 qM4 qM5 qM6 qM7 qM8 qM12 qM13 qM15 qM16 qM17 qM18 qM19 qM20 qM21 T_8 (33 : Int32) (1 : Int32) (12 : Int32) _ hF) (cwV 3 C.2.2.2.2.1 gX6_layerOn_X6_times rfl rfl rfl zy_X6_times ⟨Nat.le_of_ble_eq_true rfl, Nat.le_of_ble_eq_true rfl⟩) rfl rfl rfl rfl rfl (Nat.le_of_ble_eq_true rfl) ⟨Nat.zero_le _, Nat.zero_le _⟩ dX6_layerOn_98) [0, 1, 2, 3, 4, 5, 6, 7, 8, 9, 10, 11, 12, 13, 14, 15, 16, 17] [] rfl rfl rfl rfl rfl (fun _ => rfl) (fun _ => rfl) (fun _ => rfl) (fun uz hF => ?_)
  obtain ⟨T_9, hE⟩ : ∃ z, z = uz := ⟨_, rfl⟩; subst hE
  refine zv_aload_n (pc := 101) C rfl 3 rfl dX6_layerOn_101 ?_
  refine zv_bipush (pc := 102) (v := 33) C (by decide) dX6_layerOn_102 ?_
  refine zv_lload (pc := 104) C 0 rfl dX6_layerOn_104 ?_
  refine zv_cv0 (pc := 106) (ws' := (fun uz : zMem => (zd_X6_layerOn cI adM qM1 qM2 qM3 qM4 qM5 qM6 qM7 qM8 qM12 qM13 qM15 qM16 qM17 qM18 qM19 qM20 qM21 uz))) C (zv_runV (As := [.int (33 : Int32), .long x10_7]) (b := adM) (rest := []) (ci := 5) (q0 := 0) C (zc_X6_by l G cI adM qM1 qM2 qM3 qM4 qM5 qM6 qM7 qM8 qM12 qM13 qM15 qM16 qM17 qM18 qM19 qM20 qM21 T_9 (33 : Int32) x10_7 _ hF) (cwV 2 C.2.2.2.2.1 gX6_layerOn_X6_by rfl rfl rfl zy_X6_by ⟨Nat.le_of_ble_eq_true rfl, Nat.le_of_ble_eq_true rfl⟩) rfl rfl rfl rfl rfl (Nat.le_of_ble_eq_true rfl) ⟨Nat.zero_le _, Nat.zero_le _⟩ dX6_layerOn_106) [0, 1, 2, 3, 4, 5, 6, 7, 8, 9, 10, 11, 12, 13, 14, 15, 16, 17] [] rfl rfl rfl rfl rfl (fun _ => rfl) (fun _ => rfl) (fun _ => rfl) (fun uz hF => ?_)
  obtain ⟨T_10, hE⟩ : ∃ z, z = uz := ⟨_, rfl⟩; subst hE
  refine zv_aload_n (pc := 109) C rfl 3 rfl dX6_layerOn_109 ?_
  refine zv_bipush (pc := 110) (v := 6) C (by decide) dX6_layerOn_110 ?_
  refine zv_bipush (pc := 112) (v := 6) C (by decide) dX6_layerOn_112 ?_
  refine zv_bipush (pc := 114) (v := 33) C (by decide) dX6_layerOn_114 ?_
  refine zv_cv0 (pc := 116) (ws' := (fun uz : zMem => (zd_X6_layerOn cI adM qM1 qM2 qM3 qM4 qM5 qM6 qM7 qM8 qM12 qM13 qM15 qM16 qM17 qM18 qM19 qM20 qM21 uz))) C (zv_runV (As := [.int (6 : Int32), .int (6 : Int32), .int (33 : Int32)]) (b := adM) (rest := []) (ci := 5) (q0 := 0) C (zc_X6_minus l G cI adM qM1 qM2 qM3 qM4 qM5 qM6 qM7 qM8 qM12 qM13 qM15 qM16 qM17 qM18 qM19 qM20 qM21 T_10 (6 : Int32) (6 : Int32) (33 : Int32) _ hF) (cwV 3 C.2.2.2.2.1 gX6_layerOn_X6_minus rfl rfl rfl zy_X6_minus ⟨Nat.le_of_ble_eq_true rfl, Nat.le_of_ble_eq_true rfl⟩) rfl rfl rfl rfl rfl (Nat.le_of_ble_eq_true rfl) ⟨Nat.zero_le _, Nat.zero_le _⟩ dX6_layerOn_116) [0, 1, 2, 3, 4, 5, 6, 7, 8, 9, 10, 11, 12, 13, 14, 15, 16, 17] [] rfl rfl rfl rfl rfl (fun _ => rfl) (fun _ => rfl) (fun _ => rfl) (fun uz hF => ?_)
  obtain ⟨T_11, hE⟩ : ∃ z, z = uz := ⟨_, rfl⟩; subst hE
  refine zv_aload_n (pc := 119) C rfl 3 rfl dX6_layerOn_119 ?_
  refine zv_bipush (pc := 120) (v := 7) C (by decide) dX6_layerOn_120 ?_
  refine zv_iconst (pc := 122) (v := 0) C (by decide) dX6_layerOn_122 ?_
  refine zv_bipush (pc := 123) (v := 11) C (by decide) dX6_layerOn_123 ?_
  refine zv_cv0 (pc := 125) (ws' := (fun uz : zMem => (zd_X6_layerOn cI adM qM1 qM2 qM3 qM4 qM5 qM6 qM7 qM8 qM12 qM13 qM15 qM16 qM17 qM18 qM19 qM20 qM21 uz))) C (zv_runV (As := [.int (7 : Int32), .int (0 : Int32), .int (11 : Int32)]) (b := adM) (rest := []) (ci := 5) (q0 := 0) C (zc_X6_times l G cI adM qM1 qM2 qM3 qM4 qM5 qM6 qM7 qM8 qM12 qM13 qM15 qM16 qM17 qM18 qM19 qM20 qM21 T_11 (7 : Int32) (0 : Int32) (11 : Int32) _ hF) (cwV 3 C.2.2.2.2.1 gX6_layerOn_X6_times rfl rfl rfl zy_X6_times ⟨Nat.le_of_ble_eq_true rfl, Nat.le_of_ble_eq_true rfl⟩) rfl rfl rfl rfl rfl (Nat.le_of_ble_eq_true rfl) ⟨Nat.zero_le _, Nat.zero_le _⟩ dX6_layerOn_125) [0, 1, 2, 3, 4, 5, 6, 7, 8, 9, 10, 11, 12, 13, 14, 15, 16, 17] [] rfl rfl rfl rfl rfl (fun _ => rfl) (fun _ => rfl) (fun _ => rfl) (fun uz hF => ?_)
  obtain ⟨T_12, hE⟩ : ∃ z, z = uz := ⟨_, rfl⟩; subst hE
  refine zv_aload_n (pc := 128) C rfl 3 rfl dX6_layerOn_128 ?_
  refine zv_bipush (pc := 129) (v := 33) C (by decide) dX6_layerOn_129 ?_
  refine zv_iconst (pc := 131) (v := 1) C (by decide) dX6_layerOn_131 ?_
  refine zv_bipush (pc := 132) (v := 10) C (by decide) dX6_layerOn_132 ?_
  refine zv_cv0 (pc := 134) (ws' := (fun uz : zMem => (zd_X6_layerOn cI adM qM1 qM2 qM3 qM4 qM5 qM6 qM7 qM8 qM12 qM13 qM15 qM16 qM17 qM18 qM19 qM20 qM21 uz))) C (zv_runV (As := [.int (33 : Int32), .int (1 : Int32), .int (10 : Int32)]) (b := adM) (rest := []) (ci := 5) (q0 := 0) C (zc_X6_times l G cI adM qM1 qM2 qM3 qM4 qM5 qM6 qM7 qM8 qM12 qM13 qM15 qM16 qM17 qM18 qM19 qM20 qM21 T_12 (33 : Int32) (1 : Int32) (10 : Int32) _ hF) (cwV 3 C.2.2.2.2.1 gX6_layerOn_X6_times rfl rfl rfl zy_X6_times ⟨Nat.le_of_ble_eq_true rfl, Nat.le_of_ble_eq_true rfl⟩) rfl rfl rfl rfl rfl (Nat.le_of_ble_eq_true rfl) ⟨Nat.zero_le _, Nat.zero_le _⟩ dX6_layerOn_134) [0, 1, 2, 3, 4, 5, 6, 7, 8, 9, 10, 11, 12, 13, 14, 15, 16, 17] [] rfl rfl rfl rfl rfl (fun _ => rfl) (fun _ => rfl) (fun _ => rfl) (fun uz hF => ?_)
  obtain ⟨T_13, hE⟩ : ∃ z, z = uz := ⟨_, rfl⟩; subst hE
  refine zv_aload_n (pc := 137) C rfl 3 rfl dX6_layerOn_137 ?_
  refine zv_bipush (pc := 138) (v := 7) C (by decide) dX6_layerOn_138 ?_
  refine zv_bipush (pc := 140) (v := 7) C (by decide) dX6_layerOn_140 ?_
  refine zv_bipush (pc := 142) (v := 33) C (by decide) dX6_layerOn_142 ?_
  refine zv_cv0 (pc := 144) (ws' := (fun uz : zMem => (zd_X6_layerOn cI adM qM1 qM2 qM3 qM4 qM5 qM6 qM7 qM8 qM12 qM13 qM15 qM16 qM17 qM18 qM19 qM20 qM21 uz))) C (zv_runV (As := [.int (7 : Int32), .int (7 : Int32), .int (33 : Int32)]) (b := adM) (rest := []) (ci := 5) (q0 := 0) C (zc_X6_plus l G cI adM qM1 qM2 qM3 qM4 qM5 qM6 qM7 qM8 qM12 qM13 qM15 qM16 qM17 qM18 qM19 qM20 qM21 T_13 (7 : Int32) (7 : Int32) (33 : Int32) _ hF) (cwV 3 C.2.2.2.2.1 gX6_layerOn_X6_plus rfl rfl rfl zy_X6_plus ⟨Nat.le_of_ble_eq_true rfl, Nat.le_of_ble_eq_true rfl⟩) rfl rfl rfl rfl rfl (Nat.le_of_ble_eq_true rfl) ⟨Nat.zero_le _, Nat.zero_le _⟩ dX6_layerOn_144) [0, 1, 2, 3, 4, 5, 6, 7, 8, 9, 10, 11, 12, 13, 14, 15, 16, 17] [] rfl rfl rfl rfl rfl (fun _ => rfl) (fun _ => rfl) (fun _ => rfl) (fun uz hF => ?_)
  obtain ⟨T_14, hE⟩ : ∃ z, z = uz := ⟨_, rfl⟩; subst hE
  refine zv_aload_n (pc := 147) C rfl 3 rfl dX6_layerOn_147 ?_
  refine zv_bipush (pc := 148) (v := 8) C (by decide) dX6_layerOn_148 ?_
  refine zv_iconst (pc := 150) (v := 2) C (by decide) dX6_layerOn_150 ?_
  refine zv_bipush (pc := 151) (v := 10) C (by decide) dX6_layerOn_151 ?_
  refine zv_cv0 (pc := 153) (ws' := (fun uz : zMem => (zd_X6_layerOn cI adM qM1 qM2 qM3 qM4 qM5 qM6 qM7 qM8 qM12 qM13 qM15 qM16 qM17 qM18 qM19 qM20 qM21 uz))) C (zv_runV (As := [.int (8 : Int32), .int (2 : Int32), .int (10 : Int32)]) (b := adM) (rest := []) (ci := 5) (q0 := 0) C (zc_X6_times l G cI adM qM1 qM2 qM3 qM4 qM5 qM6 qM7 qM8 qM12 qM13 qM15 qM16 qM17 qM18 qM19 qM20 qM21 T_14 (8 : Int32) (2 : Int32) (10 : Int32) _ hF) (cwV 3 C.2.2.2.2.1 gX6_layerOn_X6_times rfl rfl rfl zy_X6_times ⟨Nat.le_of_ble_eq_true rfl, Nat.le_of_ble_eq_true rfl⟩) rfl rfl rfl rfl rfl (Nat.le_of_ble_eq_true rfl) ⟨Nat.zero_le _, Nat.zero_le _⟩ dX6_layerOn_153) [0, 1, 2, 3, 4, 5, 6, 7, 8, 9, 10, 11, 12, 13, 14, 15, 16, 17] [] rfl rfl rfl rfl rfl (fun _ => rfl) (fun _ => rfl) (fun _ => rfl) (fun uz hF => ?_)
  obtain ⟨T_15, hE⟩ : ∃ z, z = uz := ⟨_, rfl⟩; subst hE
  refine zv_aload_n (pc := 156) C rfl 3 rfl dX6_layerOn_156 ?_
  refine zv_bipush (pc := 157) (v := 33) C (by decide) dX6_layerOn_157 ?_
  refine zv_iconst (pc := 159) (v := 3) C (by decide) dX6_layerOn_159 ?_
  refine zv_bipush (pc := 160) (v := 12) C (by decide) dX6_layerOn_160 ?_
  refine zv_cv0 (pc := 162) (ws' := (fun uz : zMem => (zd_X6_layerOn cI adM qM1 qM2 qM3 qM4 qM5 qM6 qM7 qM8 qM12 qM13 qM15 qM16 qM17 qM18 qM19 qM20 qM21 uz))) C (zv_runV (As := [.int (33 : Int32), .int (3 : Int32), .int (12 : Int32)]) (b := adM) (rest := []) (ci := 5) (q0 := 0) C (zc_X6_times l G cI adM qM1 qM2 qM3 qM4 qM5 qM6 qM7 qM8 qM12 qM13 qM15 qM16 qM17 qM18 qM19 qM20 qM21 T_15 (33 : Int32) (3 : Int32) (12 : Int32) _ hF) (cwV 3 C.2.2.2.2.1 gX6_layerOn_X6_times rfl rfl rfl zy_X6_times ⟨Nat.le_of_ble_eq_true rfl, Nat.le_of_ble_eq_true rfl⟩) rfl rfl rfl rfl rfl (Nat.le_of_ble_eq_true rfl) ⟨Nat.zero_le _, Nat.zero_le _⟩ dX6_layerOn_162) [0, 1, 2, 3, 4, 5, 6, 7, 8, 9, 10, 11, 12, 13, 14, 15, 16, 17] [] rfl rfl rfl rfl rfl (fun _ => rfl) (fun _ => rfl) (fun _ => rfl) (fun uz hF => ?_)
  obtain ⟨T_16, hE⟩ : ∃ z, z = uz := ⟨_, rfl⟩; subst hE
  refine zv_aload_n (pc := 165) C rfl 3 rfl dX6_layerOn_165 ?_
  refine zv_bipush (pc := 166) (v := 8) C (by decide) dX6_layerOn_166 ?_
  refine zv_bipush (pc := 168) (v := 8) C (by decide) dX6_layerOn_168 ?_
  refine zv_bipush (pc := 170) (v := 33) C (by decide) dX6_layerOn_170 ?_
  refine zv_cv0 (pc := 172) (ws' := (fun uz : zMem => (zd_X6_layerOn cI adM qM1 qM2 qM3 qM4 qM5 qM6 qM7 qM8 qM12 qM13 qM15 qM16 qM17 qM18 qM19 qM20 qM21 uz))) C (zv_runV (As := [.int (8 : Int32), .int (8 : Int32), .int (33 : Int32)]) (b := adM) (rest := []) (ci := 5) (q0 := 0) C (zc_X6_plus l G cI adM qM1 qM2 qM3 qM4 qM5 qM6 qM7 qM8 qM12 qM13 qM15 qM16 qM17 qM18 qM19 qM20 qM21 T_16 (8 : Int32) (8 : Int32) (33 : Int32) _ hF) (cwV 3 C.2.2.2.2.1 gX6_layerOn_X6_plus rfl rfl rfl zy_X6_plus ⟨Nat.le_of_ble_eq_true rfl, Nat.le_of_ble_eq_true rfl⟩) rfl rfl rfl rfl rfl (Nat.le_of_ble_eq_true rfl) ⟨Nat.zero_le _, Nat.zero_le _⟩ dX6_layerOn_172) [0, 1, 2, 3, 4, 5, 6, 7, 8, 9, 10, 11, 12, 13, 14, 15, 16, 17] [] rfl rfl rfl rfl rfl (fun _ => rfl) (fun _ => rfl) (fun _ => rfl) (fun uz hF => ?_)
  obtain ⟨T_17, hE⟩ : ∃ z, z = uz := ⟨_, rfl⟩; subst hE
  refine zv_aload_n (pc := 175) C rfl 3 rfl dX6_layerOn_175 ?_
  refine zv_bipush (pc := 176) (v := 9) C (by decide) dX6_layerOn_176 ?_
  refine zv_iconst (pc := 178) (v := 3) C (by decide) dX6_layerOn_178 ?_
  refine zv_bipush (pc := 179) (v := 10) C (by decide) dX6_layerOn_179 ?_
  refine zv_cv0 (pc := 181) (ws' := (fun uz : zMem => (zd_X6_layerOn cI adM qM1 qM2 qM3 qM4 qM5 qM6 qM7 qM8 qM12 qM13 qM15 qM16 qM17 qM18 qM19 qM20 qM21 uz))) C (zv_runV (As := [.int (9 : Int32), .int (3 : Int32), .int (10 : Int32)]) (b := adM) (rest := []) (ci := 5) (q0 := 0) C (zc_X6_times l G cI adM qM1 qM2 qM3 qM4 qM5 qM6 qM7 qM8 qM12 qM13 qM15 qM16 qM17 qM18 qM19 qM20 qM21 T_17 (9 : Int32) (3 : Int32) (10 : Int32) _ hF) (cwV 3 C.2.2.2.2.1 gX6_layerOn_X6_times rfl rfl rfl zy_X6_times ⟨Nat.le_of_ble_eq_true rfl, Nat.le_of_ble_eq_true rfl⟩) rfl rfl rfl rfl rfl (Nat.le_of_ble_eq_true rfl) ⟨Nat.zero_le _, Nat.zero_le _⟩ dX6_layerOn_181) [0, 1, 2, 3, 4, 5, 6, 7, 8, 9, 10, 11, 12, 13, 14, 15, 16, 17] [] rfl rfl rfl rfl rfl (fun _ => rfl) (fun _ => rfl) (fun _ => rfl) (fun uz hF => ?_)
  obtain ⟨T_18, hE⟩ : ∃ z, z = uz := ⟨_, rfl⟩; subst hE
  refine zv_aload_n (pc := 184) C rfl 3 rfl dX6_layerOn_184 ?_
  refine zv_bipush (pc := 185) (v := 33) C (by decide) dX6_layerOn_185 ?_
  refine zv_iconst (pc := 187) (v := 2) C (by decide) dX6_layerOn_187 ?_
  refine zv_bipush (pc := 188) (v := 11) C (by decide) dX6_layerOn_188 ?_
  refine zv_cv0 (pc := 190) (ws' := (fun uz : zMem => (zd_X6_layerOn cI adM qM1 qM2 qM3 qM4 qM5 qM6 qM7 qM8 qM12 qM13 qM15 qM16 qM17 qM18 qM19 qM20 qM21 uz))) C (zv_runV (As := [.int (33 : Int32), .int (2 : Int32), .int (11 : Int32)]) (b := adM) (rest := []) (ci := 5) (q0 := 0) C (zc_X6_times l G cI adM qM1 qM2 qM3 qM4 qM5 qM6 qM7 qM8 qM12 qM13 qM15 qM16 qM17 qM18 qM19 qM20 qM21 T_18 (33 : Int32) (2 : Int32) (11 : Int32) _ hF) (cwV 3 C.2.2.2.2.1 gX6_layerOn_X6_times rfl rfl rfl zy_X6_times ⟨Nat.le_of_ble_eq_true rfl, Nat.le_of_ble_eq_true rfl⟩) rfl rfl rfl rfl rfl (Nat.le_of_ble_eq_true rfl) ⟨Nat.zero_le _, Nat.zero_le _⟩ dX6_layerOn_190) [0, 1, 2, 3, 4, 5, 6, 7, 8, 9, 10, 11, 12, 13, 14, 15, 16, 17] [] rfl rfl rfl rfl rfl (fun _ => rfl) (fun _ => rfl) (fun _ => rfl) (fun uz hF => ?_)
  obtain ⟨T_19, hE⟩ : ∃ z, z = uz := ⟨_, rfl⟩; subst hE
  refine zv_aload_n (pc := 193) C rfl 3 rfl dX6_layerOn_193 ?_
  refine zv_bipush (pc := 194) (v := 33) C (by decide) dX6_layerOn_194 ?_
  refine zv_lload (pc := 196) C 0 rfl dX6_layerOn_196 ?_
  refine zv_cv0 (pc := 198) (ws' := (fun uz : zMem => (zd_X6_layerOn cI adM qM1 qM2 qM3 qM4 qM5 qM6 qM7 qM8 qM12 qM13 qM15 qM16 qM17 qM18 qM19 qM20 qM21 uz))) C (zv_runV (As := [.int (33 : Int32), .long x10_7]) (b := adM) (rest := []) (ci := 5) (q0 := 0) C (zc_X6_by l G cI adM qM1 qM2 qM3 qM4 qM5 qM6 qM7 qM8 qM12 qM13 qM15 qM16 qM17 qM18 qM19 qM20 qM21 T_19 (33 : Int32) x10_7 _ hF) (cwV 2 C.2.2.2.2.1 gX6_layerOn_X6_by rfl rfl rfl zy_X6_by ⟨Nat.le_of_ble_eq_true rfl, Nat.le_of_ble_eq_true rfl⟩) rfl rfl rfl rfl rfl (Nat.le_of_ble_eq_true rfl) ⟨Nat.zero_le _, Nat.zero_le _⟩ dX6_layerOn_198) [0, 1, 2, 3, 4, 5, 6, 7, 8, 9, 10, 11, 12, 13, 14, 15, 16, 17] [] rfl rfl rfl rfl rfl (fun _ => rfl) (fun _ => rfl) (fun _ => rfl) (fun uz hF => ?_)
  obtain ⟨T_20, hE⟩ : ∃ z, z = uz := ⟨_, rfl⟩; subst hE
  refine zv_aload_n (pc := 201) C rfl 3 rfl dX6_layerOn_201 ?_
  refine zv_bipush (pc := 202) (v := 9) C (by decide) dX6_layerOn_202 ?_
  refine zv_bipush (pc := 204) (v := 9) C (by decide) dX6_layerOn_204 ?_
  refine zv_bipush (pc := 206) (v := 33) C (by decide) dX6_layerOn_206 ?_
  refine zv_cv0 (pc := 208) (ws' := (fun uz : zMem => (zd_X6_layerOn cI adM qM1 qM2 qM3 qM4 qM5 qM6 qM7 qM8 qM12 qM13 qM15 qM16 qM17 qM18 qM19 qM20 qM21 uz))) C (zv_runV (As := [.int (9 : Int32), .int (9 : Int32), .int (33 : Int32)]) (b := adM) (rest := []) (ci := 5) (q0 := 0) C (zc_X6_minus l G cI adM qM1 qM2 qM3 qM4 qM5 qM6 qM7 qM8 qM12 qM13 qM15 qM16 qM17 qM18 qM19 qM20 qM21 T_20 (9 : Int32) (9 : Int32) (33 : Int32) _ hF) (cwV 3 C.2.2.2.2.1 gX6_layerOn_X6_minus rfl rfl rfl zy_X6_minus ⟨Nat.le_of_ble_eq_true rfl, Nat.le_of_ble_eq_true rfl⟩) rfl rfl rfl rfl rfl (Nat.le_of_ble_eq_true rfl) ⟨Nat.zero_le _, Nat.zero_le _⟩ dX6_layerOn_208) [0, 1, 2, 3, 4, 5, 6, 7, 8, 9, 10, 11, 12, 13, 14, 15, 16, 17] [] rfl rfl rfl rfl rfl (fun _ => rfl) (fun _ => rfl) (fun _ => rfl) (fun uz hF => ?_)
  obtain ⟨T_21, hE⟩ : ∃ z, z = uz := ⟨_, rfl⟩; subst hE
  refine zv_aload_n (pc := 211) C rfl 3 rfl dX6_layerOn_211 ?_
  refine zv_iconst (pc := 212) (v := 0) C (by decide) dX6_layerOn_212 ?_
  refine zv_bipush (pc := 213) (v := 6) C (by decide) dX6_layerOn_213 ?_
  refine zv_cv0 (pc := 215) (ws' := (fun uz : zMem => (zd_X6_layerOn cI adM qM1 qM2 qM3 qM4 qM5 qM6 qM7 qM8 qM12 qM13 qM15 qM16 qM17 qM18 qM19 qM20 qM21 uz))) C (zv_runV (As := [.int (0 : Int32), .int (6 : Int32)]) (b := adM) (rest := []) (ci := 5) (q0 := 0) C (zc_X6_copy l G cI adM qM1 qM2 qM3 qM4 qM5 qM6 qM7 qM8 qM12 qM13 qM15 qM16 qM17 qM18 qM19 qM20 qM21 T_21 (0 : Int32) (6 : Int32) _ hF) (cwV 2 C.2.2.2.2.1 gX6_layerOn_X6_copy rfl rfl rfl zy_X6_copy ⟨Nat.le_of_ble_eq_true rfl, Nat.le_of_ble_eq_true rfl⟩) rfl rfl rfl rfl rfl (Nat.le_of_ble_eq_true rfl) ⟨Nat.zero_le _, Nat.zero_le _⟩ dX6_layerOn_215) [0, 1, 2, 3, 4, 5, 6, 7, 8, 9, 10, 11, 12, 13, 14, 15, 16, 17] [] rfl rfl rfl rfl rfl (fun _ => rfl) (fun _ => rfl) (fun _ => rfl) (fun uz hF => ?_)
  obtain ⟨T_22, hE⟩ : ∃ z, z = uz := ⟨_, rfl⟩; subst hE
  refine zv_aload_n (pc := 218) C rfl 3 rfl dX6_layerOn_218 ?_
  refine zv_iconst (pc := 219) (v := 1) C (by decide) dX6_layerOn_219 ?_
  refine zv_bipush (pc := 220) (v := 7) C (by decide) dX6_layerOn_220 ?_
  refine zv_cv0 (pc := 222) (ws' := (fun uz : zMem => (zd_X6_layerOn cI adM qM1 qM2 qM3 qM4 qM5 qM6 qM7 qM8 qM12 qM13 qM15 qM16 qM17 qM18 qM19 qM20 qM21 uz))) C (zv_runV (As := [.int (1 : Int32), .int (7 : Int32)]) (b := adM) (rest := []) (ci := 5) (q0 := 0) C (zc_X6_copy l G cI adM qM1 qM2 qM3 qM4 qM5 qM6 qM7 qM8 qM12 qM13 qM15 qM16 qM17 qM18 qM19 qM20 qM21 T_22 (1 : Int32) (7 : Int32) _ hF) (cwV 2 C.2.2.2.2.1 gX6_layerOn_X6_copy rfl rfl rfl zy_X6_copy ⟨Nat.le_of_ble_eq_true rfl, Nat.le_of_ble_eq_true rfl⟩) rfl rfl rfl rfl rfl (Nat.le_of_ble_eq_true rfl) ⟨Nat.zero_le _, Nat.zero_le _⟩ dX6_layerOn_222) [0, 1, 2, 3, 4, 5, 6, 7, 8, 9, 10, 11, 12, 13, 14, 15, 16, 17] [] rfl rfl rfl rfl rfl (fun _ => rfl) (fun _ => rfl) (fun _ => rfl) (fun uz hF => ?_)
  obtain ⟨T_23, hE⟩ : ∃ z, z = uz := ⟨_, rfl⟩; subst hE
  refine zv_aload_n (pc := 225) C rfl 3 rfl dX6_layerOn_225 ?_
  refine zv_iconst (pc := 226) (v := 2) C (by decide) dX6_layerOn_226 ?_
  refine zv_bipush (pc := 227) (v := 8) C (by decide) dX6_layerOn_227 ?_
  refine zv_cv0 (pc := 229) (ws' := (fun uz : zMem => (zd_X6_layerOn cI adM qM1 qM2 qM3 qM4 qM5 qM6 qM7 qM8 qM12 qM13 qM15 qM16 qM17 qM18 qM19 qM20 qM21 uz))) C (zv_runV (As := [.int (2 : Int32), .int (8 : Int32)]) (b := adM) (rest := []) (ci := 5) (q0 := 0) C (zc_X6_copy l G cI adM qM1 qM2 qM3 qM4 qM5 qM6 qM7 qM8 qM12 qM13 qM15 qM16 qM17 qM18 qM19 qM20 qM21 T_23 (2 : Int32) (8 : Int32) _ hF) (cwV 2 C.2.2.2.2.1 gX6_layerOn_X6_copy rfl rfl rfl zy_X6_copy ⟨Nat.le_of_ble_eq_true rfl, Nat.le_of_ble_eq_true rfl⟩) rfl rfl rfl rfl rfl (Nat.le_of_ble_eq_true rfl) ⟨Nat.zero_le _, Nat.zero_le _⟩ dX6_layerOn_229) [0, 1, 2, 3, 4, 5, 6, 7, 8, 9, 10, 11, 12, 13, 14, 15, 16, 17] [] rfl rfl rfl rfl rfl (fun _ => rfl) (fun _ => rfl) (fun _ => rfl) (fun uz hF => ?_)
  obtain ⟨T_24, hE⟩ : ∃ z, z = uz := ⟨_, rfl⟩; subst hE
  refine zv_aload_n (pc := 232) C rfl 3 rfl dX6_layerOn_232 ?_
  refine zv_iconst (pc := 233) (v := 3) C (by decide) dX6_layerOn_233 ?_
  refine zv_bipush (pc := 234) (v := 9) C (by decide) dX6_layerOn_234 ?_
  refine zv_cv0 (pc := 236) (ws' := (fun uz : zMem => (zd_X6_layerOn cI adM qM1 qM2 qM3 qM4 qM5 qM6 qM7 qM8 qM12 qM13 qM15 qM16 qM17 qM18 qM19 qM20 qM21 uz))) C (zv_runV (As := [.int (3 : Int32), .int (9 : Int32)]) (b := adM) (rest := []) (ci := 5) (q0 := 0) C (zc_X6_copy l G cI adM qM1 qM2 qM3 qM4 qM5 qM6 qM7 qM8 qM12 qM13 qM15 qM16 qM17 qM18 qM19 qM20 qM21 T_24 (3 : Int32) (9 : Int32) _ hF) (cwV 2 C.2.2.2.2.1 gX6_layerOn_X6_copy rfl rfl rfl zy_X6_copy ⟨Nat.le_of_ble_eq_true rfl, Nat.le_of_ble_eq_true rfl⟩) rfl rfl rfl rfl rfl (Nat.le_of_ble_eq_true rfl) ⟨Nat.zero_le _, Nat.zero_le _⟩ dX6_layerOn_236) [0, 1, 2, 3, 4, 5, 6, 7, 8, 9, 10, 11, 12, 13, 14, 15, 16, 17] [] rfl rfl rfl rfl rfl (fun _ => rfl) (fun _ => rfl) (fun _ => rfl) (fun uz hF => ?_)
  obtain ⟨T_25, hE⟩ : ∃ z, z = uz := ⟨_, rfl⟩; subst hE
  refine zv_aload_n (pc := 239) C rfl 3 rfl dX6_layerOn_239 ?_
  refine zv_iconst (pc := 240) (v := 4) C (by decide) dX6_layerOn_240 ?_
  refine zv_iload (pc := 241) C 8 rfl dX6_layerOn_241 ?_
  refine zv_i2l (pc := 243) C  dX6_layerOn_243 ?_
  refine zv_iload_n (pc := 244) C rfl 6 rfl dX6_layerOn_244 ?_
  refine zv_cl0 (pc := 245) (ws' := (fun uz : Unit => (zd_X6_layerOn cI adM qM1 qM2 qM3 qM4 qM5 qM6 qM7 qM8 qM12 qM13 qM15 qM16 qM17 qM18 qM19 qM20 qM21 T_25))) C (zv_runS (As := [.long (Int32.toInt64 a5), .int a3]) (rest := [.int (4 : Int32), .ref adM]) C (zc_X6_power l G cI (Int32.toInt64 a5) a3 _ hF) (va_cwS 2 C.2.2.2.2.1 gX6_layerOn_X6_power rfl rfl rfl zy_X6_power ⟨Nat.le_of_ble_eq_true rfl, Nat.le_of_ble_eq_true rfl⟩) rfl rfl (Nat.le_of_ble_eq_true rfl) ⟨Nat.zero_le _, Nat.zero_le _⟩ dX6_layerOn_245) [] [0, 1, 2, 3, 4, 5, 6, 7, 8, 9, 10, 11, 12, 13, 14, 15, 16, 17] rfl rfl rfl rfl rfl (fun _ => rfl) (fun _ => rfl) (fun _ => rfl) (fun v_26 uz hF => ?_)
  refine zv_iload_n (pc := 248) C rfl 4 rfl dX6_layerOn_248 ?_
  refine zv_i2l (pc := 249) C  dX6_layerOn_249 ?_
  refine zv_lmul (pc := 250) C  dX6_layerOn_250 ?_
  refine zv_iload_n (pc := 251) C rfl 5 rfl dX6_layerOn_251 ?_
  refine zv_i2l (pc := 252) C  dX6_layerOn_252 ?_
  refine zv_lmul (pc := 253) C  dX6_layerOn_253 ?_
  refine zv_cv0 (pc := 254) (ws' := (fun uz : zMem => (zd_X6_layerOn cI adM qM1 qM2 qM3 qM4 qM5 qM6 qM7 qM8 qM12 qM13 qM15 qM16 qM17 qM18 qM19 qM20 qM21 uz))) C (zv_runV (As := [.int (4 : Int32), .long ((v_26 * (Int32.toInt64 a1)) * (Int32.toInt64 a2))]) (b := adM) (rest := []) (ci := 5) (q0 := 0) C (zc_X6_by l G cI adM qM1 qM2 qM3 qM4 qM5 qM6 qM7 qM8 qM12 qM13 qM15 qM16 qM17 qM18 qM19 qM20 qM21 T_25 (4 : Int32) ((v_26 * (Int32.toInt64 a1)) * (Int32.toInt64 a2)) _ hF) (cwV 2 C.2.2.2.2.1 gX6_layerOn_X6_by rfl rfl rfl zy_X6_by ⟨Nat.le_of_ble_eq_true rfl, Nat.le_of_ble_eq_true rfl⟩) rfl rfl rfl rfl rfl (Nat.le_of_ble_eq_true rfl) ⟨Nat.zero_le _, Nat.zero_le _⟩ dX6_layerOn_254) [0, 1, 2, 3, 4, 5, 6, 7, 8, 9, 10, 11, 12, 13, 14, 15, 16, 17] [] rfl rfl rfl rfl rfl (fun _ => rfl) (fun _ => rfl) (fun _ => rfl) (fun uz hF => ?_)
  obtain ⟨T_27, hE⟩ : ∃ z, z = uz := ⟨_, rfl⟩; subst hE
  exact zv_vret (pc := 257) C hr hlk T_27 hF rfl dX6_layerOn_257
theorem zf_X6_table_22 : Cond.fieldLink RX6 22 "GlassStackModel" "many" "[I" ∈ wsX6_table := (List.mem_of_getElem? (i := 1) rfl)
theorem zf_X6_table_25 : Cond.fieldLink RX6 25 "GlassStackModel" "up" "[I" ∈ wsX6_table := (List.mem_of_getElem? (i := 2) rfl)
theorem zf_X6_table_28 : Cond.fieldLink RX6 28 "GlassStackModel" "low" "[I" ∈ wsX6_table := (List.mem_of_getElem? (i := 3) rfl)
theorem zf_X6_table_31 : Cond.fieldLink RX6 31 "GlassStackModel" "wide" "[I" ∈ wsX6_table := (List.mem_of_getElem? (i := 4) rfl)
theorem zi_X6_table_X6 : ∀ w ∈ wsX60, w ∈ wsX6_table := fun w h => List.mem_cons_of_mem _ (List.mem_append_right _ h)
theorem zy_X6_table : yX6_table.cls = RX6 ∧ yX6_table.cls ≠ "java/lang/invoke/MethodHandle" ∧ yX6_table.cls ≠ "java/lang/invoke/VarHandle" ∧ (parseMethodDescriptor yX6_table.desc).map (fun d => d.parameters.length) = some 3 := by decide +kernel
set_option maxHeartbeats 4000000 in
set_option maxRecDepth 100000 in
theorem zl_X6_table_33 {p : Program} {l : Launch} {e : Env} {s : State} {m : MethodId} {args : Array Value} {below : List Frame} {meth : Method} {c : Code} {G : va_G} {cI : ClassId} {A : Nat → Prop} {Q : State → Prop} (adM qM1 qM2 qM3 qM4 qM5 qM6 qM7 qM8 qM12 qM13 qM15 qM16 qM17 qM18 qM19 qM20 qM21 : Nat) (c1 : Int32) (c2 : Int32) (c3 : Int32) (K92 : zMem → Prop) (C : zv_C p s m args c cX6_table 5 RX6 wsX6_table G cI A) (hK92 : ∀ (M : zMem), K92 M → zv_V p l e (headSpec wsX6_table rmX6_table).room s m args below meth c Q G A 5 0 0 (zd_X6_table cI adM qM1 qM2 qM3 qM4 qM5 qM6 qM7 qM8 qM12 qM13 qM15 qM16 qM17 qM18 qM19 qM20 qM21 M) 92 [(0, .ref adM), (1, .int c1), (3, .int c3)] []) : ∀ (k : Nat) (p4 : Int32) (M : zMem), zw_X6_table_33 c1 c2 c3 K92 k p4 M → zv_V p l e (headSpec wsX6_table rmX6_table).room s m args below meth c Q G A 5 0 0 (zd_X6_table cI adM qM1 qM2 qM3 qM4 qM5 qM6 qM7 qM8 qM12 qM13 qM15 qM16 qM17 qM18 qM19 qM20 qM21 M) 33 [(0, .ref adM), (1, .int c1), (2, .int c2), (3, .int c3), (4, .int p4)] [] := by
  intro k
  induction k with
  | zero => intro p4 M hF; exact (show False from hF).elim
  | succ k ih =>
    intro p4 M hF
    refine zv_iload (pc := 33) C 4 rfl dX6_table_33 ?_
    refine zv_aload_n (pc := 35) C rfl 0 rfl dX6_table_35 ?_
    refine zv_get (pc := 36) (CC := RX6) (T := TX6) (N := 22) (ci := 5) (v := .ref qM5) C zi_X6_table_X6 0 rfl 5 (by decide) zf_X6_table_22 rfl rfl dX6_table_36 ?_
    refine zv_iload_n (pc := 39) C rfl 1 rfl dX6_table_39 ?_
    obtain ⟨h_6, hF⟩ := hF
    refine zv_iald (pc := 40) (n := 2) (f := (M 5)) C 5 h_6 rfl dX6_table_40 ?_
    refine zv_icmp_ge (pc := 41) (tgt := 92) C dX6_table_41 (by decide) (fun c_7 => ?_) (fun c_7 => ?_)
    · replace hF := And.left hF c_7
      exact zv_lvs [0, 1, 3] rfl (hK92 M hF)
    · replace hF := And.right hF c_7
      refine zv_aload_n (pc := 44) C rfl 0 rfl dX6_table_44 ?_
      refine zv_aload_n (pc := 45) C rfl 0 rfl dX6_table_45 ?_
      refine zv_get (pc := 46) (CC := RX6) (T := TX6) (N := 22) (ci := 5) (v := .ref qM6) C zi_X6_table_X6 0 rfl 6 (by decide) zf_X6_table_25 rfl rfl dX6_table_46 ?_
      refine zv_bipush (pc := 49) (v := 6) C (by decide) dX6_table_49 ?_
      refine zv_iload_n (pc := 51) C rfl 1 rfl dX6_table_51 ?_
      refine zv_imul (pc := 52) C  dX6_table_52 ?_
      refine zv_iload (pc := 53) C 4 rfl dX6_table_53 ?_
      refine zv_iadd (pc := 55) C  dX6_table_55 ?_
      obtain ⟨h_8, hF⟩ := hF
      refine zv_iald (pc := 56) (n := 12) (f := (M 6)) C 6 h_8 rfl dX6_table_56 ?_
      refine zv_aload_n (pc := 57) C rfl 0 rfl dX6_table_57 ?_
      refine zv_get (pc := 58) (CC := RX6) (T := TX6) (N := 22) (ci := 5) (v := .ref qM7) C zi_X6_table_X6 0 rfl 7 (by decide) zf_X6_table_28 rfl rfl dX6_table_58 ?_
      refine zv_bipush (pc := 61) (v := 6) C (by decide) dX6_table_61 ?_
      refine zv_iload_n (pc := 63) C rfl 1 rfl dX6_table_63 ?_
      refine zv_imul (pc := 64) C  dX6_table_64 ?_
      refine zv_iload (pc := 65) C 4 rfl dX6_table_65 ?_
      refine zv_iadd (pc := 67) C  dX6_table_67 ?_
      obtain ⟨h_9, hF⟩ := hF
      refine zv_iald (pc := 68) (n := 12) (f := (M 7)) C 7 h_9 rfl dX6_table_68 ?_
      refine zv_aload_n (pc := 69) C rfl 0 rfl dX6_table_69 ?_
      refine zv_get (pc := 70) (CC := RX6) (T := TX6) (N := 22) (ci := 5) (v := .ref qM8) C zi_X6_table_X6 0 rfl 8 (by decide) zf_X6_table_31 rfl rfl dX6_table_70 ?_
      refine zv_bipush (pc := 73) (v := 6) C (by decide) dX6_table_73 ?_
      refine zv_iload_n (pc := 75) C rfl 1 rfl dX6_table_75 ?_
      refine zv_imul (pc := 76) C  dX6_table_76 ?_
      refine zv_iload (pc := 77) C 4 rfl dX6_table_77 ?_
      refine zv_iadd (pc := 79) C  dX6_table_79 ?_
      obtain ⟨h_10, hF⟩ := hF
      refine zv_iald (pc := 80) (n := 12) (f := (M 8)) C 8 h_10 rfl dX6_table_80 ?_
      refine zv_iload_n (pc := 81) C rfl 2 rfl dX6_table_81 ?_
      refine zv_iload_n (pc := 82) C rfl 3 rfl dX6_table_82 ?_
      refine zv_cv0 (pc := 83) (ws' := (fun uz : zMem => (zd_X6_table cI adM qM1 qM2 qM3 qM4 qM5 qM6 qM7 qM8 qM12 qM13 qM15 qM16 qM17 qM18 qM19 qM20 qM21 uz))) C (zv_runV (As := [.int ((M 6) (Int32.toNatClampNeg (((6 : Int32) * c1) + p4))), .int ((M 7) (Int32.toNatClampNeg (((6 : Int32) * c1) + p4))), .int ((M 8) (Int32.toNatClampNeg (((6 : Int32) * c1) + p4))), .int c2, .int c3]) (b := adM) (rest := []) (ci := 5) (q0 := 0) C (zc_X6_layerOn l G cI adM qM1 qM2 qM3 qM4 qM5 qM6 qM7 qM8 qM12 qM13 qM15 qM16 qM17 qM18 qM19 qM20 qM21 M ((M 6) (Int32.toNatClampNeg (((6 : Int32) * c1) + p4))) ((M 7) (Int32.toNatClampNeg (((6 : Int32) * c1) + p4))) ((M 8) (Int32.toNatClampNeg (((6 : Int32) * c1) + p4))) c2 c3 _ hF) (cwV 5 C.2.2.2.2.1 gX6_table_X6_layerOn rfl rfl rfl zy_X6_layerOn ⟨Nat.le_of_ble_eq_true rfl, Nat.le_of_ble_eq_true rfl⟩) rfl rfl rfl rfl rfl (Nat.le_of_ble_eq_true rfl) ⟨Nat.zero_le _, Nat.zero_le _⟩ dX6_table_83) [0, 1, 2, 3, 4, 5, 6, 7, 8, 9, 10, 11, 12, 13, 14, 15, 16, 17] [] rfl rfl rfl rfl rfl (fun _ => rfl) (fun _ => rfl) (fun _ => rfl) (fun uz hF => ?_)
      obtain ⟨T_11, hE⟩ : ∃ z, z = uz := ⟨_, rfl⟩; subst hE
      obtain ⟨x4_12, ex4_12⟩ : ∃ y : Int32, y = p4 + (1 : Int32) := ⟨_, rfl⟩
      replace hF := hF x4_12 ex4_12
      refine zv_iinc (pc := 86) (v := x4_12) (lv' := [(4, .int x4_12), (0, .ref adM), (1, .int c1), (2, .int c2), (3, .int c3)]) C 4 rfl (by rw [ex4_12]; rfl) (by decide) rfl dX6_table_86 ?_
      refine zv_goto (pc := 89) (tgt := 33) C dX6_table_89 (by decide) ?_
      exact zv_lvs [1, 2, 3, 4, 0] rfl (ih x4_12 T_11 hF)
set_option maxHeartbeats 4000000 in
set_option maxRecDepth 100000 in
theorem zc_X6_table (l : Launch) (G : va_G) (cI : ClassId) (adM qM1 qM2 qM3 qM4 qM5 qM6 qM7 qM8 qM12 qM13 qM15 qM16 qM17 qM18 qM19 qM20 qM21 : Nat) (M : zMem) (a1 : Int32) (a2 : Int32) (a3 : Int32) (post : zMem → Prop) (hF : zw_X6_table M a1 a2 a3 post) (sz : Nat) : Met l yX6_table wsX6_table rmX6_table (va_Pc [.ref adM, .int a1, .int a2, .int a3] (zv_in G cI (zd_X6_table cI adM qM1 qM2 qM3 qM4 qM5 qM6 qM7 qM8 qM12 qM13 qM15 qM16 qM17 qM18 qM19 qM20 qM21 M) sz)) (va_Qv (fun uz : zMem => post uz) (fun (uz : zMem) t => zv_out G cI (va_A (zd_X6_table cI adM qM1 qM2 qM3 qM4 qM5 qM6 qM7 qM8 qM12 qM13 qM15 qM16 qM17 qM18 qM19 qM20 qM21 M) sz) (zd_X6_table cI adM qM1 qM2 qM3 qM4 qM5 qM6 qM7 qM8 qM12 qM13 qM15 qM16 qM17 qM18 qM19 qM20 qM21 uz) t) (va_A (zd_X6_table cI adM qM1 qM2 qM3 qM4 qM5 qM6 qM7 qM8 qM12 qM13 qM15 qM16 qM17 qM18 qM19 qM20 qM21 M) sz)) 0 0 (va_A (zd_X6_table cI adM qM1 qM2 qM3 qM4 qM5 qM6 qM7 qM8 qM12 qM13 qM15 qM16 qM17 qM18 qM19 qM20 qM21 M) sz) := by
  refine zv_met (cc := cX6_table) (maxL := 5) (ret := none) (lv0 := [(0, .ref adM), (1, .int a1), (2, .int a2), (3, .int a3)]) (Qc := fun A => va_Qv (fun uz : zMem => post uz) (fun (uz : zMem) t => zv_out G cI A (zd_X6_table cI adM qM1 qM2 qM3 qM4 qM5 qM6 qM7 qM8 qM12 qM13 qM15 qM16 qM17 qM18 qM19 qM20 qM21 uz) t) A) (by decide) rfl (Nat.le_of_ble_eq_true rfl) rfl ?_ sz
  intro p e s m below meth c A C hr hlk
  clear sz
  refine zv_aload_n (pc := 0) C rfl 0 rfl dX6_table_0 ?_
  refine zv_iconst (pc := 1) (v := 0) C (by decide) dX6_table_1 ?_
  refine zv_lconst (pc := 2) (v := 1) C (by decide) dX6_table_2 ?_
  refine zv_cv0 (pc := 3) (ws' := (fun uz : zMem => (zd_X6_table cI adM qM1 qM2 qM3 qM4 qM5 qM6 qM7 qM8 qM12 qM13 qM15 qM16 qM17 qM18 qM19 qM20 qM21 uz))) C (zv_runV (As := [.int (0 : Int32), .long (1 : Int64)]) (b := adM) (rest := []) (ci := 5) (q0 := 0) C (zc_X6_set l G cI adM qM1 qM2 qM3 qM4 qM5 qM6 qM7 qM8 qM12 qM13 qM15 qM16 qM17 qM18 qM19 qM20 qM21 M (0 : Int32) (1 : Int64) _ hF) (cwV 2 C.2.2.2.2.1 gX6_table_X6_set rfl rfl rfl zy_X6_set ⟨Nat.le_of_ble_eq_true rfl, Nat.le_of_ble_eq_true rfl⟩) rfl rfl rfl rfl rfl (Nat.le_of_ble_eq_true rfl) ⟨Nat.zero_le _, Nat.zero_le _⟩ dX6_table_3) [0, 1, 2, 3, 4, 5, 6, 7, 8, 9, 10, 11, 12, 13, 14, 15, 16, 17] [] rfl rfl rfl rfl rfl (fun _ => rfl) (fun _ => rfl) (fun _ => rfl) (fun uz hF => ?_)
  obtain ⟨T_1, hE⟩ : ∃ z, z = uz := ⟨_, rfl⟩; subst hE
  refine zv_aload_n (pc := 6) C rfl 0 rfl dX6_table_6 ?_
  refine zv_iconst (pc := 7) (v := 3) C (by decide) dX6_table_7 ?_
  refine zv_lconst (pc := 8) (v := 1) C (by decide) dX6_table_8 ?_
  refine zv_cv0 (pc := 9) (ws' := (fun uz : zMem => (zd_X6_table cI adM qM1 qM2 qM3 qM4 qM5 qM6 qM7 qM8 qM12 qM13 qM15 qM16 qM17 qM18 qM19 qM20 qM21 uz))) C (zv_runV (As := [.int (3 : Int32), .long (1 : Int64)]) (b := adM) (rest := []) (ci := 5) (q0 := 0) C (zc_X6_set l G cI adM qM1 qM2 qM3 qM4 qM5 qM6 qM7 qM8 qM12 qM13 qM15 qM16 qM17 qM18 qM19 qM20 qM21 T_1 (3 : Int32) (1 : Int64) _ hF) (cwV 2 C.2.2.2.2.1 gX6_table_X6_set rfl rfl rfl zy_X6_set ⟨Nat.le_of_ble_eq_true rfl, Nat.le_of_ble_eq_true rfl⟩) rfl rfl rfl rfl rfl (Nat.le_of_ble_eq_true rfl) ⟨Nat.zero_le _, Nat.zero_le _⟩ dX6_table_9) [0, 1, 2, 3, 4, 5, 6, 7, 8, 9, 10, 11, 12, 13, 14, 15, 16, 17] [] rfl rfl rfl rfl rfl (fun _ => rfl) (fun _ => rfl) (fun _ => rfl) (fun uz hF => ?_)
  obtain ⟨T_2, hE⟩ : ∃ z, z = uz := ⟨_, rfl⟩; subst hE
  refine zv_aload_n (pc := 12) C rfl 0 rfl dX6_table_12 ?_
  refine zv_iconst (pc := 13) (v := 1) C (by decide) dX6_table_13 ?_
  refine zv_lconst (pc := 14) (v := 0) C (by decide) dX6_table_14 ?_
  refine zv_cv0 (pc := 15) (ws' := (fun uz : zMem => (zd_X6_table cI adM qM1 qM2 qM3 qM4 qM5 qM6 qM7 qM8 qM12 qM13 qM15 qM16 qM17 qM18 qM19 qM20 qM21 uz))) C (zv_runV (As := [.int (1 : Int32), .long (0 : Int64)]) (b := adM) (rest := []) (ci := 5) (q0 := 0) C (zc_X6_set l G cI adM qM1 qM2 qM3 qM4 qM5 qM6 qM7 qM8 qM12 qM13 qM15 qM16 qM17 qM18 qM19 qM20 qM21 T_2 (1 : Int32) (0 : Int64) _ hF) (cwV 2 C.2.2.2.2.1 gX6_table_X6_set rfl rfl rfl zy_X6_set ⟨Nat.le_of_ble_eq_true rfl, Nat.le_of_ble_eq_true rfl⟩) rfl rfl rfl rfl rfl (Nat.le_of_ble_eq_true rfl) ⟨Nat.zero_le _, Nat.zero_le _⟩ dX6_table_15) [0, 1, 2, 3, 4, 5, 6, 7, 8, 9, 10, 11, 12, 13, 14, 15, 16, 17] [] rfl rfl rfl rfl rfl (fun _ => rfl) (fun _ => rfl) (fun _ => rfl) (fun uz hF => ?_)
  obtain ⟨T_3, hE⟩ : ∃ z, z = uz := ⟨_, rfl⟩; subst hE
  refine zv_aload_n (pc := 18) C rfl 0 rfl dX6_table_18 ?_
  refine zv_iconst (pc := 19) (v := 2) C (by decide) dX6_table_19 ?_
  refine zv_lconst (pc := 20) (v := 0) C (by decide) dX6_table_20 ?_
  refine zv_cv0 (pc := 21) (ws' := (fun uz : zMem => (zd_X6_table cI adM qM1 qM2 qM3 qM4 qM5 qM6 qM7 qM8 qM12 qM13 qM15 qM16 qM17 qM18 qM19 qM20 qM21 uz))) C (zv_runV (As := [.int (2 : Int32), .long (0 : Int64)]) (b := adM) (rest := []) (ci := 5) (q0 := 0) C (zc_X6_set l G cI adM qM1 qM2 qM3 qM4 qM5 qM6 qM7 qM8 qM12 qM13 qM15 qM16 qM17 qM18 qM19 qM20 qM21 T_3 (2 : Int32) (0 : Int64) _ hF) (cwV 2 C.2.2.2.2.1 gX6_table_X6_set rfl rfl rfl zy_X6_set ⟨Nat.le_of_ble_eq_true rfl, Nat.le_of_ble_eq_true rfl⟩) rfl rfl rfl rfl rfl (Nat.le_of_ble_eq_true rfl) ⟨Nat.zero_le _, Nat.zero_le _⟩ dX6_table_21) [0, 1, 2, 3, 4, 5, 6, 7, 8, 9, 10, 11, 12, 13, 14, 15, 16, 17] [] rfl rfl rfl rfl rfl (fun _ => rfl) (fun _ => rfl) (fun _ => rfl) (fun uz hF => ?_)
  obtain ⟨T_4, hE⟩ : ∃ z, z = uz := ⟨_, rfl⟩; subst hE
  refine zv_aload_n (pc := 24) C rfl 0 rfl dX6_table_24 ?_
  refine zv_iconst (pc := 25) (v := 4) C (by decide) dX6_table_25 ?_
  refine zv_lconst (pc := 26) (v := 1) C (by decide) dX6_table_26 ?_
  refine zv_cv0 (pc := 27) (ws' := (fun uz : zMem => (zd_X6_table cI adM qM1 qM2 qM3 qM4 qM5 qM6 qM7 qM8 qM12 qM13 qM15 qM16 qM17 qM18 qM19 qM20 qM21 uz))) C (zv_runV (As := [.int (4 : Int32), .long (1 : Int64)]) (b := adM) (rest := []) (ci := 5) (q0 := 0) C (zc_X6_set l G cI adM qM1 qM2 qM3 qM4 qM5 qM6 qM7 qM8 qM12 qM13 qM15 qM16 qM17 qM18 qM19 qM20 qM21 T_4 (4 : Int32) (1 : Int64) _ hF) (cwV 2 C.2.2.2.2.1 gX6_table_X6_set rfl rfl rfl zy_X6_set ⟨Nat.le_of_ble_eq_true rfl, Nat.le_of_ble_eq_true rfl⟩) rfl rfl rfl rfl rfl (Nat.le_of_ble_eq_true rfl) ⟨Nat.zero_le _, Nat.zero_le _⟩ dX6_table_27) [0, 1, 2, 3, 4, 5, 6, 7, 8, 9, 10, 11, 12, 13, 14, 15, 16, 17] [] rfl rfl rfl rfl rfl (fun _ => rfl) (fun _ => rfl) (fun _ => rfl) (fun uz hF => ?_)
  obtain ⟨T_5, hE⟩ : ∃ z, z = uz := ⟨_, rfl⟩; subst hE
  refine zv_iconst (pc := 30) (v := 0) C (by decide) dX6_table_30 ?_
  refine zv_istore (pc := 31) (lv' := [(4, .int (0 : Int32)), (0, .ref adM), (1, .int a1), (2, .int a2), (3, .int a3)]) C (by decide) rfl dX6_table_31 ?_
  obtain ⟨kf, hF⟩ := hF
  refine zv_lvs [1, 2, 3, 4, 0] rfl (zl_X6_table_33 adM qM1 qM2 qM3 qM4 qM5 qM6 qM7 qM8 qM12 qM13 qM15 qM16 qM17 qM18 qM19 qM20 qM21 a1 a2 a3 _ C ?_ kf (0 : Int32) T_5 hF)
  · intro T_13 hF
    refine zv_aload_n (pc := 92) C rfl 0 rfl dX6_table_92 ?_
    refine zv_iconst (pc := 93) (v := 5) C (by decide) dX6_table_93 ?_
    refine zv_iconst (pc := 94) (v := 4) C (by decide) dX6_table_94 ?_
    refine zv_cv0 (pc := 95) (ws' := (fun uz : zMem => (zd_X6_table cI adM qM1 qM2 qM3 qM4 qM5 qM6 qM7 qM8 qM12 qM13 qM15 qM16 qM17 qM18 qM19 qM20 qM21 uz))) C (zv_runV (As := [.int (5 : Int32), .int (4 : Int32)]) (b := adM) (rest := []) (ci := 5) (q0 := 0) C (zc_X6_copy l G cI adM qM1 qM2 qM3 qM4 qM5 qM6 qM7 qM8 qM12 qM13 qM15 qM16 qM17 qM18 qM19 qM20 qM21 T_13 (5 : Int32) (4 : Int32) _ hF) (cwV 2 C.2.2.2.2.1 gX6_table_X6_copy rfl rfl rfl zy_X6_copy ⟨Nat.le_of_ble_eq_true rfl, Nat.le_of_ble_eq_true rfl⟩) rfl rfl rfl rfl rfl (Nat.le_of_ble_eq_true rfl) ⟨Nat.zero_le _, Nat.zero_le _⟩ dX6_table_95) [0, 1, 2, 3, 4, 5, 6, 7, 8, 9, 10, 11, 12, 13, 14, 15, 16, 17] [] rfl rfl rfl rfl rfl (fun _ => rfl) (fun _ => rfl) (fun _ => rfl) (fun uz hF => ?_)
    obtain ⟨T_14, hE⟩ : ∃ z, z = uz := ⟨_, rfl⟩; subst hE
    refine zv_aload_n (pc := 98) C rfl 0 rfl dX6_table_98 ?_
    refine zv_get (pc := 99) (CC := RX6) (T := TX6) (N := 22) (ci := 5) (v := .ref qM5) C zi_X6_table_X6 0 rfl 5 (by decide) zf_X6_table_22 rfl rfl dX6_table_99 ?_
    refine zv_iload_n (pc := 102) C rfl 1 rfl dX6_table_102 ?_
    obtain ⟨h_15, hF⟩ := hF
    refine zv_iald (pc := 103) (n := 2) (f := (T_14 5)) C 5 h_15 rfl dX6_table_103 ?_
    refine zv_if_le (pc := 104) (tgt := 122) C dX6_table_104 (by decide) (fun c_16 => ?_) (fun c_16 => ?_)
    · replace hF := And.left hF c_16
      exact zv_vret (pc := 122) C hr hlk T_14 hF rfl dX6_table_122
    · replace hF := And.right hF c_16
      refine zv_aload_n (pc := 107) C rfl 0 rfl dX6_table_107 ?_
      refine zv_bipush (pc := 108) (v := 32) C (by decide) dX6_table_108 ?_
      refine zv_iload_n (pc := 110) C rfl 2 rfl dX6_table_110 ?_
      refine zv_i2l (pc := 111) C  dX6_table_111 ?_
      refine zv_cv0 (pc := 112) (ws' := (fun uz : zMem => (zd_X6_table cI adM qM1 qM2 qM3 qM4 qM5 qM6 qM7 qM8 qM12 qM13 qM15 qM16 qM17 qM18 qM19 qM20 qM21 uz))) C (zv_runV (As := [.int (32 : Int32), .long (Int32.toInt64 a3)]) (b := adM) (rest := []) (ci := 5) (q0 := 0) C (zc_X6_set l G cI adM qM1 qM2 qM3 qM4 qM5 qM6 qM7 qM8 qM12 qM13 qM15 qM16 qM17 qM18 qM19 qM20 qM21 T_14 (32 : Int32) (Int32.toInt64 a3) _ hF) (cwV 2 C.2.2.2.2.1 gX6_table_X6_set rfl rfl rfl zy_X6_set ⟨Nat.le_of_ble_eq_true rfl, Nat.le_of_ble_eq_true rfl⟩) rfl rfl rfl rfl rfl (Nat.le_of_ble_eq_true rfl) ⟨Nat.zero_le _, Nat.zero_le _⟩ dX6_table_112) [0, 1, 2, 3, 4, 5, 6, 7, 8, 9, 10, 11, 12, 13, 14, 15, 16, 17] [] rfl rfl rfl rfl rfl (fun _ => rfl) (fun _ => rfl) (fun _ => rfl) (fun uz hF => ?_)
      obtain ⟨T_17, hE⟩ : ∃ z, z = uz := ⟨_, rfl⟩; subst hE
      refine zv_aload_n (pc := 115) C rfl 0 rfl dX6_table_115 ?_
      refine zv_iconst (pc := 116) (v := 5) C (by decide) dX6_table_116 ?_
      refine zv_bipush (pc := 117) (v := 32) C (by decide) dX6_table_117 ?_
      refine zv_cv0 (pc := 119) (ws' := (fun uz : zMem => (zd_X6_table cI adM qM1 qM2 qM3 qM4 qM5 qM6 qM7 qM8 qM12 qM13 qM15 qM16 qM17 qM18 qM19 qM20 qM21 uz))) C (zv_runV (As := [.int (5 : Int32), .int (32 : Int32)]) (b := adM) (rest := []) (ci := 5) (q0 := 0) C (zc_X6_divide l G cI adM qM1 qM2 qM3 qM4 qM5 qM6 qM7 qM8 qM12 qM13 qM15 qM16 qM17 qM18 qM19 qM20 qM21 T_17 (5 : Int32) (32 : Int32) _ hF) (cwV 2 C.2.2.2.2.1 gX6_table_X6_divide rfl rfl rfl zy_X6_divide ⟨Nat.le_of_ble_eq_true rfl, Nat.le_of_ble_eq_true rfl⟩) rfl rfl rfl rfl rfl (Nat.le_of_ble_eq_true rfl) ⟨Nat.zero_le _, Nat.zero_le _⟩ dX6_table_119) [0, 1, 2, 3, 4, 5, 6, 7, 8, 9, 10, 11, 12, 13, 14, 15, 16, 17] [] rfl rfl rfl rfl rfl (fun _ => rfl) (fun _ => rfl) (fun _ => rfl) (fun uz hF => ?_)
      obtain ⟨T_18, hE⟩ : ∃ z, z = uz := ⟨_, rfl⟩; subst hE
      exact zv_vret (pc := 122) C hr hlk T_18 hF rfl dX6_table_122
theorem zf_X6_backOf_13 : Cond.fieldLink RX6 13 "GlassStackModel" "airLow" "[I" ∈ wsX6_backOf := (List.mem_of_getElem? (i := 4) rfl)
theorem zf_X6_backOf_16 : Cond.fieldLink RX6 16 "GlassStackModel" "groundUp" "[I" ∈ wsX6_backOf := (List.mem_of_getElem? (i := 3) rfl)
theorem zf_X6_backOf_19 : Cond.fieldLink RX6 19 "GlassStackModel" "groundLow" "[I" ∈ wsX6_backOf := (List.mem_of_getElem? (i := 2) rfl)
theorem zf_X6_backOf_7 : Cond.fieldLink RX6 7 "GlassStackModel" "airUp" "[I" ∈ wsX6_backOf := (List.mem_of_getElem? (i := 1) rfl)
theorem zi_X6_backOf_X6 : ∀ w ∈ wsX60, w ∈ wsX6_backOf := fun w h => List.mem_cons_of_mem _ (List.mem_append_right _ h)
theorem zy_X6_backOf : yX6_backOf.cls = RX6 ∧ yX6_backOf.cls ≠ "java/lang/invoke/MethodHandle" ∧ yX6_backOf.cls ≠ "java/lang/invoke/VarHandle" ∧ (parseMethodDescriptor yX6_backOf.desc).map (fun d => d.parameters.length) = some 3 := by decide +kernel
set_option maxHeartbeats 4000000 in
set_option maxRecDepth 100000 in
theorem zl_X6_backOf_23 {p : Program} {l : Launch} {e : Env} {s : State} {m : MethodId} {args : Array Value} {below : List Frame} {meth : Method} {c : Code} {G : va_G} {cI : ClassId} {A : Nat → Prop} {Q : State → Prop} (adM qM1 qM2 qM3 qM4 qM5 qM6 qM7 qM8 qM12 qM13 qM15 qM16 qM17 qM18 qM19 qM20 qM21 : Nat) (c1 : Int32) (c4 : Int64) (K251 : zMem → Prop) (C : zv_C p s m args c cX6_backOf 8 RX6 wsX6_backOf G cI A) (hK251 : ∀ (M : zMem), K251 M → zv_V p l e (headSpec wsX6_backOf rmX6_backOf).room s m args below meth c Q G A 8 0 0 (zd_X6_backOf cI adM qM1 qM2 qM3 qM4 qM5 qM6 qM7 qM8 qM12 qM13 qM15 qM16 qM17 qM18 qM19 qM20 qM21 M) 251 [] []) : ∀ (k : Nat) (p6 : Int32) (M : zMem), zw_X6_backOf_23 c1 c4 K251 k p6 M → zv_V p l e (headSpec wsX6_backOf rmX6_backOf).room s m args below meth c Q G A 8 0 0 (zd_X6_backOf cI adM qM1 qM2 qM3 qM4 qM5 qM6 qM7 qM8 qM12 qM13 qM15 qM16 qM17 qM18 qM19 qM20 qM21 M) 23 [(0, .ref adM), (1, .int c1), (4, .long c4), (6, .int p6)] [] := by
  intro k
  induction k with
  | zero => intro p6 M hF; exact (show False from hF).elim
  | succ k ih =>
    intro p6 M hF
    refine zv_iload (pc := 23) C 3 rfl dX6_backOf_23 ?_
    refine zv_iconst (pc := 25) (v := 2) C (by decide) dX6_backOf_25 ?_
    refine zv_icmp_ge (pc := 26) (tgt := 251) C dX6_backOf_26 (by decide) (fun c_3 => ?_) (fun c_3 => ?_)
    · replace hF := And.left hF c_3
      exact zv_lvs [] rfl (hK251 M hF)
    · replace hF := And.right hF c_3
      refine zv_iload (pc := 29) C 3 rfl dX6_backOf_29 ?_
      obtain ⟨KJ_6, h0KJ_6, hF⟩ := hF
      refine zv_join (α := Int32) (KK := fun uz => KJ_6 uz) (wsJ := fun uz => (zd_X6_backOf cI adM qM1 qM2 qM3 qM4 qM5 qM6 qM7 qM8 qM12 qM13 qM15 qM16 qM17 qM18 qM19 qM20 qM21 M)) (pcJ := 41) (lvJ := fun uz => [(0, .ref adM), (1, .int c1), (4, .long c4), (6, .int p6)]) (stJ := fun uz => [.int uz]) ?_ (fun hKJ_6 => ?_)
      · rintro v_5 hF
        replace hF := h0KJ_6 v_5 hF
        refine zv_istore (pc := 41) (lv' := [(7, .int v_5), (0, .ref adM), (1, .int c1), (4, .long c4), (6, .int p6)]) C (by decide) rfl dX6_backOf_41 ?_
        refine zv_aload_n (pc := 43) C rfl 1 rfl dX6_backOf_43 ?_
        refine zv_bipush (pc := 44) (v := 10) C (by decide) dX6_backOf_44 ?_
        refine zv_iconst (pc := 46) (v := 0) C (by decide) dX6_backOf_46 ?_
        refine zv_cv0 (pc := 47) (ws' := (fun uz : zMem => (zd_X6_backOf cI adM qM1 qM2 qM3 qM4 qM5 qM6 qM7 qM8 qM12 qM13 qM15 qM16 qM17 qM18 qM19 qM20 qM21 uz))) C (zv_runV (As := [.int (10 : Int32), .int (0 : Int32)]) (b := adM) (rest := []) (ci := 5) (q0 := 0) C (zc_X6_copy l G cI adM qM1 qM2 qM3 qM4 qM5 qM6 qM7 qM8 qM12 qM13 qM15 qM16 qM17 qM18 qM19 qM20 qM21 M (10 : Int32) (0 : Int32) _ hF) (cwV 2 C.2.2.2.2.1 gX6_backOf_X6_copy rfl rfl rfl zy_X6_copy ⟨Nat.le_of_ble_eq_true rfl, Nat.le_of_ble_eq_true rfl⟩) rfl rfl rfl rfl rfl (Nat.le_of_ble_eq_true rfl) ⟨Nat.zero_le _, Nat.zero_le _⟩ dX6_backOf_47) [0, 1, 2, 3, 4, 5, 6, 7, 8, 9, 10, 11, 12, 13, 14, 15, 16, 17] [] rfl rfl rfl rfl rfl (fun _ => rfl) (fun _ => rfl) (fun _ => rfl) (fun uz hF => ?_)
        obtain ⟨T_7, hE⟩ : ∃ z, z = uz := ⟨_, rfl⟩; subst hE
        refine zv_aload_n (pc := 50) C rfl 1 rfl dX6_backOf_50 ?_
        refine zv_bipush (pc := 51) (v := 10) C (by decide) dX6_backOf_51 ?_
        refine zv_aload_n (pc := 53) C rfl 1 rfl dX6_backOf_53 ?_
        refine zv_get (pc := 54) (CC := RX6) (T := TX6) (N := 22) (ci := 5) (v := .ref qM1) C zi_X6_backOf_X6 0 rfl 1 (by decide) zf_X6_backOf_7 rfl rfl dX6_backOf_54 ?_
        refine zv_iload_n (pc := 57) C rfl 2 rfl dX6_backOf_57 ?_
        obtain ⟨h_8, hF⟩ := hF
        refine zv_iald (pc := 58) (n := 2) (f := (T_7 1)) C 1 h_8 rfl dX6_backOf_58 ?_
        refine zv_aload_n (pc := 59) C rfl 1 rfl dX6_backOf_59 ?_
        refine zv_get (pc := 60) (CC := RX6) (T := TX6) (N := 22) (ci := 5) (v := .ref qM4) C zi_X6_backOf_X6 0 rfl 4 (by decide) zf_X6_backOf_19 rfl rfl dX6_backOf_60 ?_
        refine zv_iload_n (pc := 63) C rfl 2 rfl dX6_backOf_63 ?_
        obtain ⟨h_9, hF⟩ := hF
        refine zv_iald (pc := 64) (n := 2) (f := (T_7 4)) C 4 h_9 rfl dX6_backOf_64 ?_
        refine zv_imul (pc := 65) C  dX6_backOf_65 ?_
        refine zv_i2l (pc := 66) C  dX6_backOf_66 ?_
        refine zv_cv0 (pc := 67) (ws' := (fun uz : zMem => (zd_X6_backOf cI adM qM1 qM2 qM3 qM4 qM5 qM6 qM7 qM8 qM12 qM13 qM15 qM16 qM17 qM18 qM19 qM20 qM21 uz))) C (zv_runV (As := [.int (10 : Int32), .long (Int32.toInt64 (((T_7 1) (Int32.toNatClampNeg c1)) * ((T_7 4) (Int32.toNatClampNeg c1))))]) (b := adM) (rest := []) (ci := 5) (q0 := 0) C (zc_X6_by l G cI adM qM1 qM2 qM3 qM4 qM5 qM6 qM7 qM8 qM12 qM13 qM15 qM16 qM17 qM18 qM19 qM20 qM21 T_7 (10 : Int32) (Int32.toInt64 (((T_7 1) (Int32.toNatClampNeg c1)) * ((T_7 4) (Int32.toNatClampNeg c1)))) _ hF) (cwV 2 C.2.2.2.2.1 gX6_backOf_X6_by rfl rfl rfl zy_X6_by ⟨Nat.le_of_ble_eq_true rfl, Nat.le_of_ble_eq_true rfl⟩) rfl rfl rfl rfl rfl (Nat.le_of_ble_eq_true rfl) ⟨Nat.zero_le _, Nat.zero_le _⟩ dX6_backOf_67) [0, 1, 2, 3, 4, 5, 6, 7, 8, 9, 10, 11, 12, 13, 14, 15, 16, 17] [] rfl rfl rfl rfl rfl (fun _ => rfl) (fun _ => rfl) (fun _ => rfl) (fun uz hF => ?_)
        obtain ⟨T_10, hE⟩ : ∃ z, z = uz := ⟨_, rfl⟩; subst hE
        refine zv_aload_n (pc := 70) C rfl 1 rfl dX6_backOf_70 ?_
        refine zv_bipush (pc := 71) (v := 33) C (by decide) dX6_backOf_71 ?_
        refine zv_iconst (pc := 73) (v := 3) C (by decide) dX6_backOf_73 ?_
        refine zv_cv0 (pc := 74) (ws' := (fun uz : zMem => (zd_X6_backOf cI adM qM1 qM2 qM3 qM4 qM5 qM6 qM7 qM8 qM12 qM13 qM15 qM16 qM17 qM18 qM19 qM20 qM21 uz))) C (zv_runV (As := [.int (33 : Int32), .int (3 : Int32)]) (b := adM) (rest := []) (ci := 5) (q0 := 0) C (zc_X6_copy l G cI adM qM1 qM2 qM3 qM4 qM5 qM6 qM7 qM8 qM12 qM13 qM15 qM16 qM17 qM18 qM19 qM20 qM21 T_10 (33 : Int32) (3 : Int32) _ hF) (cwV 2 C.2.2.2.2.1 gX6_backOf_X6_copy rfl rfl rfl zy_X6_copy ⟨Nat.le_of_ble_eq_true rfl, Nat.le_of_ble_eq_true rfl⟩) rfl rfl rfl rfl rfl (Nat.le_of_ble_eq_true rfl) ⟨Nat.zero_le _, Nat.zero_le _⟩ dX6_backOf_74) [0, 1, 2, 3, 4, 5, 6, 7, 8, 9, 10, 11, 12, 13, 14, 15, 16, 17] [] rfl rfl rfl rfl rfl (fun _ => rfl) (fun _ => rfl) (fun _ => rfl) (fun uz hF => ?_)
        obtain ⟨T_11, hE⟩ : ∃ z, z = uz := ⟨_, rfl⟩; subst hE
        refine zv_aload_n (pc := 77) C rfl 1 rfl dX6_backOf_77 ?_
        refine zv_bipush (pc := 78) (v := 33) C (by decide) dX6_backOf_78 ?_
        refine zv_aload_n (pc := 80) C rfl 1 rfl dX6_backOf_80 ?_
        refine zv_get (pc := 81) (CC := RX6) (T := TX6) (N := 22) (ci := 5) (v := .ref qM3) C zi_X6_backOf_X6 0 rfl 3 (by decide) zf_X6_backOf_16 rfl rfl dX6_backOf_81 ?_
        refine zv_iload_n (pc := 84) C rfl 2 rfl dX6_backOf_84 ?_
        obtain ⟨h_12, hF⟩ := hF
        refine zv_iald (pc := 85) (n := 2) (f := (T_11 3)) C 3 h_12 rfl dX6_backOf_85 ?_
        refine zv_aload_n (pc := 86) C rfl 1 rfl dX6_backOf_86 ?_
        refine zv_get (pc := 87) (CC := RX6) (T := TX6) (N := 22) (ci := 5) (v := .ref qM2) C zi_X6_backOf_X6 0 rfl 2 (by decide) zf_X6_backOf_13 rfl rfl dX6_backOf_87 ?_
        refine zv_iload_n (pc := 90) C rfl 2 rfl dX6_backOf_90 ?_
        obtain ⟨h_13, hF⟩ := hF
        refine zv_iald (pc := 91) (n := 2) (f := (T_11 2)) C 2 h_13 rfl dX6_backOf_91 ?_
        refine zv_imul (pc := 92) C  dX6_backOf_92 ?_
        refine zv_i2l (pc := 93) C  dX6_backOf_93 ?_
        refine zv_cv0 (pc := 94) (ws' := (fun uz : zMem => (zd_X6_backOf cI adM qM1 qM2 qM3 qM4 qM5 qM6 qM7 qM8 qM12 qM13 qM15 qM16 qM17 qM18 qM19 qM20 qM21 uz))) C (zv_runV (As := [.int (33 : Int32), .long (Int32.toInt64 (((T_11 3) (Int32.toNatClampNeg c1)) * ((T_11 2) (Int32.toNatClampNeg c1))))]) (b := adM) (rest := []) (ci := 5) (q0 := 0) C (zc_X6_by l G cI adM qM1 qM2 qM3 qM4 qM5 qM6 qM7 qM8 qM12 qM13 qM15 qM16 qM17 qM18 qM19 qM20 qM21 T_11 (33 : Int32) (Int32.toInt64 (((T_11 3) (Int32.toNatClampNeg c1)) * ((T_11 2) (Int32.toNatClampNeg c1)))) _ hF) (cwV 2 C.2.2.2.2.1 gX6_backOf_X6_by rfl rfl rfl zy_X6_by ⟨Nat.le_of_ble_eq_true rfl, Nat.le_of_ble_eq_true rfl⟩) rfl rfl rfl rfl rfl (Nat.le_of_ble_eq_true rfl) ⟨Nat.zero_le _, Nat.zero_le _⟩ dX6_backOf_94) [0, 1, 2, 3, 4, 5, 6, 7, 8, 9, 10, 11, 12, 13, 14, 15, 16, 17] [] rfl rfl rfl rfl rfl (fun _ => rfl) (fun _ => rfl) (fun _ => rfl) (fun uz hF => ?_)
        obtain ⟨T_14, hE⟩ : ∃ z, z = uz := ⟨_, rfl⟩; subst hE
        refine zv_iload (pc := 97) C 4 rfl dX6_backOf_97 ?_
        obtain ⟨KJ_17, h0KJ_17, hF⟩ := hF
        refine zv_join (α := zMem) (KK := fun uz => KJ_17 uz) (wsJ := fun uz => (zd_X6_backOf cI adM qM1 qM2 qM3 qM4 qM5 qM6 qM7 qM8 qM12 qM13 qM15 qM16 qM17 qM18 qM19 qM20 qM21 uz)) (pcJ := 125) (lvJ := fun uz => [(0, .ref adM), (1, .int c1), (4, .long c4), (6, .int p6), (7, .int v_5)]) (stJ := fun uz => []) ?_ (fun hKJ_17 => ?_)
        · rintro T_16 hF
          replace hF := h0KJ_17 T_16 hF
          refine zv_aload_n (pc := 125) C rfl 0 rfl dX6_backOf_125 ?_
          refine zv_bipush (pc := 126) (v := 11) C (by decide) dX6_backOf_126 ?_
          refine zv_iconst (pc := 128) (v := 1) C (by decide) dX6_backOf_128 ?_
          refine zv_cv0 (pc := 129) (ws' := (fun uz : zMem => (zd_X6_backOf cI adM qM1 qM2 qM3 qM4 qM5 qM6 qM7 qM8 qM12 qM13 qM15 qM16 qM17 qM18 qM19 qM20 qM21 uz))) C (zv_runV (As := [.int (11 : Int32), .int (1 : Int32)]) (b := adM) (rest := []) (ci := 5) (q0 := 0) C (zc_X6_copy l G cI adM qM1 qM2 qM3 qM4 qM5 qM6 qM7 qM8 qM12 qM13 qM15 qM16 qM17 qM18 qM19 qM20 qM21 T_16 (11 : Int32) (1 : Int32) _ hF) (cwV 2 C.2.2.2.2.1 gX6_backOf_X6_copy rfl rfl rfl zy_X6_copy ⟨Nat.le_of_ble_eq_true rfl, Nat.le_of_ble_eq_true rfl⟩) rfl rfl rfl rfl rfl (Nat.le_of_ble_eq_true rfl) ⟨Nat.zero_le _, Nat.zero_le _⟩ dX6_backOf_129) [0, 1, 2, 3, 4, 5, 6, 7, 8, 9, 10, 11, 12, 13, 14, 15, 16, 17] [] rfl rfl rfl rfl rfl (fun _ => rfl) (fun _ => rfl) (fun _ => rfl) (fun uz hF => ?_)
          obtain ⟨T_18, hE⟩ : ∃ z, z = uz := ⟨_, rfl⟩; subst hE
          refine zv_aload_n (pc := 132) C rfl 0 rfl dX6_backOf_132 ?_
          refine zv_bipush (pc := 133) (v := 11) C (by decide) dX6_backOf_133 ?_
          refine zv_aload_n (pc := 135) C rfl 0 rfl dX6_backOf_135 ?_
          refine zv_get (pc := 136) (CC := RX6) (T := TX6) (N := 22) (ci := 5) (v := .ref qM1) C zi_X6_backOf_X6 0 rfl 1 (by decide) zf_X6_backOf_7 rfl rfl dX6_backOf_136 ?_
          refine zv_iload_n (pc := 139) C rfl 1 rfl dX6_backOf_139 ?_
          obtain ⟨h_19, hF⟩ := hF
          refine zv_iald (pc := 140) (n := 2) (f := (T_18 1)) C 1 h_19 rfl dX6_backOf_140 ?_
          refine zv_aload_n (pc := 141) C rfl 0 rfl dX6_backOf_141 ?_
          refine zv_get (pc := 142) (CC := RX6) (T := TX6) (N := 22) (ci := 5) (v := .ref qM3) C zi_X6_backOf_X6 0 rfl 3 (by decide) zf_X6_backOf_16 rfl rfl dX6_backOf_142 ?_
          refine zv_iload_n (pc := 145) C rfl 1 rfl dX6_backOf_145 ?_
          obtain ⟨h_20, hF⟩ := hF
          refine zv_iald (pc := 146) (n := 2) (f := (T_18 3)) C 3 h_20 rfl dX6_backOf_146 ?_
          refine zv_imul (pc := 147) C  dX6_backOf_147 ?_
          refine zv_i2l (pc := 148) C  dX6_backOf_148 ?_
          refine zv_cv0 (pc := 149) (ws' := (fun uz : zMem => (zd_X6_backOf cI adM qM1 qM2 qM3 qM4 qM5 qM6 qM7 qM8 qM12 qM13 qM15 qM16 qM17 qM18 qM19 qM20 qM21 uz))) C (zv_runV (As := [.int (11 : Int32), .long (Int32.toInt64 (((T_18 1) (Int32.toNatClampNeg c1)) * ((T_18 3) (Int32.toNatClampNeg c1))))]) (b := adM) (rest := []) (ci := 5) (q0 := 0) C (zc_X6_by l G cI adM qM1 qM2 qM3 qM4 qM5 qM6 qM7 qM8 qM12 qM13 qM15 qM16 qM17 qM18 qM19 qM20 qM21 T_18 (11 : Int32) (Int32.toInt64 (((T_18 1) (Int32.toNatClampNeg c1)) * ((T_18 3) (Int32.toNatClampNeg c1)))) _ hF) (cwV 2 C.2.2.2.2.1 gX6_backOf_X6_by rfl rfl rfl zy_X6_by ⟨Nat.le_of_ble_eq_true rfl, Nat.le_of_ble_eq_true rfl⟩) rfl rfl rfl rfl rfl (Nat.le_of_ble_eq_true rfl) ⟨Nat.zero_le _, Nat.zero_le _⟩ dX6_backOf_149) [0, 1, 2, 3, 4, 5, 6, 7, 8, 9, 10, 11, 12, 13, 14, 15, 16, 17] [] rfl rfl rfl rfl rfl (fun _ => rfl) (fun _ => rfl) (fun _ => rfl) (fun uz hF => ?_)
          obtain ⟨T_21, hE⟩ : ∃ z, z = uz := ⟨_, rfl⟩; subst hE
          refine zv_aload_n (pc := 152) C rfl 0 rfl dX6_backOf_152 ?_
          refine zv_bipush (pc := 153) (v := 33) C (by decide) dX6_backOf_153 ?_
          refine zv_iconst (pc := 155) (v := 2) C (by decide) dX6_backOf_155 ?_
          refine zv_cv0 (pc := 156) (ws' := (fun uz : zMem => (zd_X6_backOf cI adM qM1 qM2 qM3 qM4 qM5 qM6 qM7 qM8 qM12 qM13 qM15 qM16 qM17 qM18 qM19 qM20 qM21 uz))) C (zv_runV (As := [.int (33 : Int32), .int (2 : Int32)]) (b := adM) (rest := []) (ci := 5) (q0 := 0) C (zc_X6_copy l G cI adM qM1 qM2 qM3 qM4 qM5 qM6 qM7 qM8 qM12 qM13 qM15 qM16 qM17 qM18 qM19 qM20 qM21 T_21 (33 : Int32) (2 : Int32) _ hF) (cwV 2 C.2.2.2.2.1 gX6_backOf_X6_copy rfl rfl rfl zy_X6_copy ⟨Nat.le_of_ble_eq_true rfl, Nat.le_of_ble_eq_true rfl⟩) rfl rfl rfl rfl rfl (Nat.le_of_ble_eq_true rfl) ⟨Nat.zero_le _, Nat.zero_le _⟩ dX6_backOf_156) [0, 1, 2, 3, 4, 5, 6, 7, 8, 9, 10, 11, 12, 13, 14, 15, 16, 17] [] rfl rfl rfl rfl rfl (fun _ => rfl) (fun _ => rfl) (fun _ => rfl) (fun uz hF => ?_)
          obtain ⟨T_22, hE⟩ : ∃ z, z = uz := ⟨_, rfl⟩; subst hE
          refine zv_aload_n (pc := 159) C rfl 0 rfl dX6_backOf_159 ?_
          refine zv_bipush (pc := 160) (v := 33) C (by decide) dX6_backOf_160 ?_
          refine zv_aload_n (pc := 162) C rfl 0 rfl dX6_backOf_162 ?_
          refine zv_get (pc := 163) (CC := RX6) (T := TX6) (N := 22) (ci := 5) (v := .ref qM2) C zi_X6_backOf_X6 0 rfl 2 (by decide) zf_X6_backOf_13 rfl rfl dX6_backOf_163 ?_
          refine zv_iload_n (pc := 166) C rfl 1 rfl dX6_backOf_166 ?_
          obtain ⟨h_23, hF⟩ := hF
          refine zv_iald (pc := 167) (n := 2) (f := (T_22 2)) C 2 h_23 rfl dX6_backOf_167 ?_
          refine zv_aload_n (pc := 168) C rfl 0 rfl dX6_backOf_168 ?_
          refine zv_get (pc := 169) (CC := RX6) (T := TX6) (N := 22) (ci := 5) (v := .ref qM4) C zi_X6_backOf_X6 0 rfl 4 (by decide) zf_X6_backOf_19 rfl rfl dX6_backOf_169 ?_
          refine zv_iload_n (pc := 172) C rfl 1 rfl dX6_backOf_172 ?_
          obtain ⟨h_24, hF⟩ := hF
          refine zv_iald (pc := 173) (n := 2) (f := (T_22 4)) C 4 h_24 rfl dX6_backOf_173 ?_
          refine zv_imul (pc := 174) C  dX6_backOf_174 ?_
          refine zv_i2l (pc := 175) C  dX6_backOf_175 ?_
          refine zv_cv0 (pc := 176) (ws' := (fun uz : zMem => (zd_X6_backOf cI adM qM1 qM2 qM3 qM4 qM5 qM6 qM7 qM8 qM12 qM13 qM15 qM16 qM17 qM18 qM19 qM20 qM21 uz))) C (zv_runV (As := [.int (33 : Int32), .long (Int32.toInt64 (((T_22 2) (Int32.toNatClampNeg c1)) * ((T_22 4) (Int32.toNatClampNeg c1))))]) (b := adM) (rest := []) (ci := 5) (q0 := 0) C (zc_X6_by l G cI adM qM1 qM2 qM3 qM4 qM5 qM6 qM7 qM8 qM12 qM13 qM15 qM16 qM17 qM18 qM19 qM20 qM21 T_22 (33 : Int32) (Int32.toInt64 (((T_22 2) (Int32.toNatClampNeg c1)) * ((T_22 4) (Int32.toNatClampNeg c1)))) _ hF) (cwV 2 C.2.2.2.2.1 gX6_backOf_X6_by rfl rfl rfl zy_X6_by ⟨Nat.le_of_ble_eq_true rfl, Nat.le_of_ble_eq_true rfl⟩) rfl rfl rfl rfl rfl (Nat.le_of_ble_eq_true rfl) ⟨Nat.zero_le _, Nat.zero_le _⟩ dX6_backOf_176) [0, 1, 2, 3, 4, 5, 6, 7, 8, 9, 10, 11, 12, 13, 14, 15, 16, 17] [] rfl rfl rfl rfl rfl (fun _ => rfl) (fun _ => rfl) (fun _ => rfl) (fun uz hF => ?_)
          obtain ⟨T_25, hE⟩ : ∃ z, z = uz := ⟨_, rfl⟩; subst hE
          refine zv_iload (pc := 179) C 3 rfl dX6_backOf_179 ?_
          obtain ⟨KJ_28, h0KJ_28, hF⟩ := hF
          refine zv_join (α := zMem) (KK := fun uz => KJ_28 uz) (wsJ := fun uz => (zd_X6_backOf cI adM qM1 qM2 qM3 qM4 qM5 qM6 qM7 qM8 qM12 qM13 qM15 qM16 qM17 qM18 qM19 qM20 qM21 uz)) (pcJ := 207) (lvJ := fun uz => [(0, .ref adM), (1, .int c1), (4, .long c4), (6, .int p6), (7, .int v_5)]) (stJ := fun uz => []) ?_ (fun hKJ_28 => ?_)
          · rintro T_27 hF
            replace hF := h0KJ_28 T_27 hF
            refine zv_aload_n (pc := 207) C rfl 0 rfl dX6_backOf_207 ?_
            refine zv_bipush (pc := 208) (v := 12) C (by decide) dX6_backOf_208 ?_
            refine zv_bipush (pc := 210) (v := 10) C (by decide) dX6_backOf_210 ?_
            refine zv_bipush (pc := 212) (v := 10) C (by decide) dX6_backOf_212 ?_
            refine zv_cv0 (pc := 214) (ws' := (fun uz : zMem => (zd_X6_backOf cI adM qM1 qM2 qM3 qM4 qM5 qM6 qM7 qM8 qM12 qM13 qM15 qM16 qM17 qM18 qM19 qM20 qM21 uz))) C (zv_runV (As := [.int (12 : Int32), .int (10 : Int32), .int (10 : Int32)]) (b := adM) (rest := []) (ci := 5) (q0 := 0) C (zc_X6_times l G cI adM qM1 qM2 qM3 qM4 qM5 qM6 qM7 qM8 qM12 qM13 qM15 qM16 qM17 qM18 qM19 qM20 qM21 T_27 (12 : Int32) (10 : Int32) (10 : Int32) _ hF) (cwV 3 C.2.2.2.2.1 gX6_backOf_X6_times rfl rfl rfl zy_X6_times ⟨Nat.le_of_ble_eq_true rfl, Nat.le_of_ble_eq_true rfl⟩) rfl rfl rfl rfl rfl (Nat.le_of_ble_eq_true rfl) ⟨Nat.zero_le _, Nat.zero_le _⟩ dX6_backOf_214) [0, 1, 2, 3, 4, 5, 6, 7, 8, 9, 10, 11, 12, 13, 14, 15, 16, 17] [] rfl rfl rfl rfl rfl (fun _ => rfl) (fun _ => rfl) (fun _ => rfl) (fun uz hF => ?_)
            obtain ⟨T_29, hE⟩ : ∃ z, z = uz := ⟨_, rfl⟩; subst hE
            refine zv_aload_n (pc := 217) C rfl 0 rfl dX6_backOf_217 ?_
            refine zv_bipush (pc := 218) (v := 13) C (by decide) dX6_backOf_218 ?_
            refine zv_bipush (pc := 220) (v := 11) C (by decide) dX6_backOf_220 ?_
            refine zv_bipush (pc := 222) (v := 11) C (by decide) dX6_backOf_222 ?_
            refine zv_cv0 (pc := 224) (ws' := (fun uz : zMem => (zd_X6_backOf cI adM qM1 qM2 qM3 qM4 qM5 qM6 qM7 qM8 qM12 qM13 qM15 qM16 qM17 qM18 qM19 qM20 qM21 uz))) C (zv_runV (As := [.int (13 : Int32), .int (11 : Int32), .int (11 : Int32)]) (b := adM) (rest := []) (ci := 5) (q0 := 0) C (zc_X6_times l G cI adM qM1 qM2 qM3 qM4 qM5 qM6 qM7 qM8 qM12 qM13 qM15 qM16 qM17 qM18 qM19 qM20 qM21 T_29 (13 : Int32) (11 : Int32) (11 : Int32) _ hF) (cwV 3 C.2.2.2.2.1 gX6_backOf_X6_times rfl rfl rfl zy_X6_times ⟨Nat.le_of_ble_eq_true rfl, Nat.le_of_ble_eq_true rfl⟩) rfl rfl rfl rfl rfl (Nat.le_of_ble_eq_true rfl) ⟨Nat.zero_le _, Nat.zero_le _⟩ dX6_backOf_224) [0, 1, 2, 3, 4, 5, 6, 7, 8, 9, 10, 11, 12, 13, 14, 15, 16, 17] [] rfl rfl rfl rfl rfl (fun _ => rfl) (fun _ => rfl) (fun _ => rfl) (fun uz hF => ?_)
            obtain ⟨T_30, hE⟩ : ∃ z, z = uz := ⟨_, rfl⟩; subst hE
            refine zv_aload_n (pc := 227) C rfl 0 rfl dX6_backOf_227 ?_
            refine zv_bipush (pc := 228) (v := 13) C (by decide) dX6_backOf_228 ?_
            refine zv_lload (pc := 230) C 2 rfl dX6_backOf_230 ?_
            refine zv_cv0 (pc := 232) (ws' := (fun uz : zMem => (zd_X6_backOf cI adM qM1 qM2 qM3 qM4 qM5 qM6 qM7 qM8 qM12 qM13 qM15 qM16 qM17 qM18 qM19 qM20 qM21 uz))) C (zv_runV (As := [.int (13 : Int32), .long c4]) (b := adM) (rest := []) (ci := 5) (q0 := 0) C (zc_X6_by l G cI adM qM1 qM2 qM3 qM4 qM5 qM6 qM7 qM8 qM12 qM13 qM15 qM16 qM17 qM18 qM19 qM20 qM21 T_30 (13 : Int32) c4 _ hF) (cwV 2 C.2.2.2.2.1 gX6_backOf_X6_by rfl rfl rfl zy_X6_by ⟨Nat.le_of_ble_eq_true rfl, Nat.le_of_ble_eq_true rfl⟩) rfl rfl rfl rfl rfl (Nat.le_of_ble_eq_true rfl) ⟨Nat.zero_le _, Nat.zero_le _⟩ dX6_backOf_232) [0, 1, 2, 3, 4, 5, 6, 7, 8, 9, 10, 11, 12, 13, 14, 15, 16, 17] [] rfl rfl rfl rfl rfl (fun _ => rfl) (fun _ => rfl) (fun _ => rfl) (fun uz hF => ?_)
            obtain ⟨T_31, hE⟩ : ∃ z, z = uz := ⟨_, rfl⟩; subst hE
            refine zv_aload_n (pc := 235) C rfl 0 rfl dX6_backOf_235 ?_
            refine zv_iload (pc := 236) C 4 rfl dX6_backOf_236 ?_
            refine zv_bipush (pc := 238) (v := 12) C (by decide) dX6_backOf_238 ?_
            refine zv_bipush (pc := 240) (v := 13) C (by decide) dX6_backOf_240 ?_
            refine zv_cv0 (pc := 242) (ws' := (fun uz : zMem => (zd_X6_backOf cI adM qM1 qM2 qM3 qM4 qM5 qM6 qM7 qM8 qM12 qM13 qM15 qM16 qM17 qM18 qM19 qM20 qM21 uz))) C (zv_runV (As := [.int v_5, .int (12 : Int32), .int (13 : Int32)]) (b := adM) (rest := []) (ci := 5) (q0 := 0) C (zc_X6_plus l G cI adM qM1 qM2 qM3 qM4 qM5 qM6 qM7 qM8 qM12 qM13 qM15 qM16 qM17 qM18 qM19 qM20 qM21 T_31 v_5 (12 : Int32) (13 : Int32) _ hF) (cwV 3 C.2.2.2.2.1 gX6_backOf_X6_plus rfl rfl rfl zy_X6_plus ⟨Nat.le_of_ble_eq_true rfl, Nat.le_of_ble_eq_true rfl⟩) rfl rfl rfl rfl rfl (Nat.le_of_ble_eq_true rfl) ⟨Nat.zero_le _, Nat.zero_le _⟩ dX6_backOf_242) [0, 1, 2, 3, 4, 5, 6, 7, 8, 9, 10, 11, 12, 13, 14, 15, 16, 17] [] rfl rfl rfl rfl rfl (fun _ => rfl) (fun _ => rfl) (fun _ => rfl) (fun uz hF => ?_)
            obtain ⟨T_32, hE⟩ : ∃ z, z = uz := ⟨_, rfl⟩; subst hE
            obtain ⟨x6_33, ex6_33⟩ : ∃ y : Int32, y = p6 + (1 : Int32) := ⟨_, rfl⟩
            replace hF := hF x6_33 ex6_33
            refine zv_iinc (pc := 245) (v := x6_33) (lv' := [(6, .int x6_33), (0, .ref adM), (1, .int c1), (4, .long c4), (7, .int v_5)]) C 3 rfl (by rw [ex6_33]; rfl) (by decide) rfl dX6_backOf_245 ?_
            refine zv_goto (pc := 248) (tgt := 23) C dX6_backOf_248 (by decide) ?_
            exact zv_lvs [1, 2, 3, 0] rfl (ih x6_33 T_32 hF)
          · skip
            refine zv_if_ne (pc := 181) (tgt := 197) C dX6_backOf_181 (by decide) (fun c_26 => ?_) (fun c_26 => ?_)
            · replace hF := And.left hF c_26
              refine zv_aload_n (pc := 197) C rfl 0 rfl dX6_backOf_197 ?_
              refine zv_bipush (pc := 198) (v := 11) C (by decide) dX6_backOf_198 ?_
              refine zv_bipush (pc := 200) (v := 11) C (by decide) dX6_backOf_200 ?_
              refine zv_bipush (pc := 202) (v := 33) C (by decide) dX6_backOf_202 ?_
              refine zv_cv0 (pc := 204) (ws' := (fun uz : zMem => (zd_X6_backOf cI adM qM1 qM2 qM3 qM4 qM5 qM6 qM7 qM8 qM12 qM13 qM15 qM16 qM17 qM18 qM19 qM20 qM21 uz))) C (zv_runV (As := [.int (11 : Int32), .int (11 : Int32), .int (33 : Int32)]) (b := adM) (rest := []) (ci := 5) (q0 := 0) C (zc_X6_plus l G cI adM qM1 qM2 qM3 qM4 qM5 qM6 qM7 qM8 qM12 qM13 qM15 qM16 qM17 qM18 qM19 qM20 qM21 T_25 (11 : Int32) (11 : Int32) (33 : Int32) _ hF) (cwV 3 C.2.2.2.2.1 gX6_backOf_X6_plus rfl rfl rfl zy_X6_plus ⟨Nat.le_of_ble_eq_true rfl, Nat.le_of_ble_eq_true rfl⟩) rfl rfl rfl rfl rfl (Nat.le_of_ble_eq_true rfl) ⟨Nat.zero_le _, Nat.zero_le _⟩ dX6_backOf_204) [0, 1, 2, 3, 4, 5, 6, 7, 8, 9, 10, 11, 12, 13, 14, 15, 16, 17] [] rfl rfl rfl rfl rfl (fun _ => rfl) (fun _ => rfl) (fun _ => rfl) (fun uz hF => ?_)
              obtain ⟨T_34, hE⟩ : ∃ z, z = uz := ⟨_, rfl⟩; subst hE
              exact zv_lvs [0, 1, 2, 3, 4] rfl (hKJ_28 T_34 hF)
            · replace hF := And.right hF c_26
              refine zv_aload_n (pc := 184) C rfl 0 rfl dX6_backOf_184 ?_
              refine zv_bipush (pc := 185) (v := 11) C (by decide) dX6_backOf_185 ?_
              refine zv_bipush (pc := 187) (v := 11) C (by decide) dX6_backOf_187 ?_
              refine zv_bipush (pc := 189) (v := 33) C (by decide) dX6_backOf_189 ?_
              refine zv_cv0 (pc := 191) (ws' := (fun uz : zMem => (zd_X6_backOf cI adM qM1 qM2 qM3 qM4 qM5 qM6 qM7 qM8 qM12 qM13 qM15 qM16 qM17 qM18 qM19 qM20 qM21 uz))) C (zv_runV (As := [.int (11 : Int32), .int (11 : Int32), .int (33 : Int32)]) (b := adM) (rest := []) (ci := 5) (q0 := 0) C (zc_X6_minus l G cI adM qM1 qM2 qM3 qM4 qM5 qM6 qM7 qM8 qM12 qM13 qM15 qM16 qM17 qM18 qM19 qM20 qM21 T_25 (11 : Int32) (11 : Int32) (33 : Int32) _ hF) (cwV 3 C.2.2.2.2.1 gX6_backOf_X6_minus rfl rfl rfl zy_X6_minus ⟨Nat.le_of_ble_eq_true rfl, Nat.le_of_ble_eq_true rfl⟩) rfl rfl rfl rfl rfl (Nat.le_of_ble_eq_true rfl) ⟨Nat.zero_le _, Nat.zero_le _⟩ dX6_backOf_191) [0, 1, 2, 3, 4, 5, 6, 7, 8, 9, 10, 11, 12, 13, 14, 15, 16, 17] [] rfl rfl rfl rfl rfl (fun _ => rfl) (fun _ => rfl) (fun _ => rfl) (fun uz hF => ?_)
              obtain ⟨T_35, hE⟩ : ∃ z, z = uz := ⟨_, rfl⟩; subst hE
              refine zv_goto (pc := 194) (tgt := 207) C dX6_backOf_194 (by decide) ?_
              exact zv_lvs [0, 1, 2, 3, 4] rfl (hKJ_28 T_35 hF)
        · skip
          refine zv_if_ne (pc := 99) (tgt := 115) C dX6_backOf_99 (by decide) (fun c_15 => ?_) (fun c_15 => ?_)
          · replace hF := And.left hF c_15
            refine zv_aload_n (pc := 115) C rfl 1 rfl dX6_backOf_115 ?_
            refine zv_bipush (pc := 116) (v := 10) C (by decide) dX6_backOf_116 ?_
            refine zv_bipush (pc := 118) (v := 10) C (by decide) dX6_backOf_118 ?_
            refine zv_bipush (pc := 120) (v := 33) C (by decide) dX6_backOf_120 ?_
            refine zv_cv0 (pc := 122) (ws' := (fun uz : zMem => (zd_X6_backOf cI adM qM1 qM2 qM3 qM4 qM5 qM6 qM7 qM8 qM12 qM13 qM15 qM16 qM17 qM18 qM19 qM20 qM21 uz))) C (zv_runV (As := [.int (10 : Int32), .int (10 : Int32), .int (33 : Int32)]) (b := adM) (rest := []) (ci := 5) (q0 := 0) C (zc_X6_plus l G cI adM qM1 qM2 qM3 qM4 qM5 qM6 qM7 qM8 qM12 qM13 qM15 qM16 qM17 qM18 qM19 qM20 qM21 T_14 (10 : Int32) (10 : Int32) (33 : Int32) _ hF) (cwV 3 C.2.2.2.2.1 gX6_backOf_X6_plus rfl rfl rfl zy_X6_plus ⟨Nat.le_of_ble_eq_true rfl, Nat.le_of_ble_eq_true rfl⟩) rfl rfl rfl rfl rfl (Nat.le_of_ble_eq_true rfl) ⟨Nat.zero_le _, Nat.zero_le _⟩ dX6_backOf_122) [0, 1, 2, 3, 4, 5, 6, 7, 8, 9, 10, 11, 12, 13, 14, 15, 16, 17] [] rfl rfl rfl rfl rfl (fun _ => rfl) (fun _ => rfl) (fun _ => rfl) (fun uz hF => ?_)
            obtain ⟨T_36, hE⟩ : ∃ z, z = uz := ⟨_, rfl⟩; subst hE
            exact zv_lvs [1, 2, 3, 4, 0] rfl (hKJ_17 T_36 hF)
          · replace hF := And.right hF c_15
            refine zv_aload_n (pc := 102) C rfl 1 rfl dX6_backOf_102 ?_
            refine zv_bipush (pc := 103) (v := 10) C (by decide) dX6_backOf_103 ?_
            refine zv_bipush (pc := 105) (v := 10) C (by decide) dX6_backOf_105 ?_
            refine zv_bipush (pc := 107) (v := 33) C (by decide) dX6_backOf_107 ?_
            refine zv_cv0 (pc := 109) (ws' := (fun uz : zMem => (zd_X6_backOf cI adM qM1 qM2 qM3 qM4 qM5 qM6 qM7 qM8 qM12 qM13 qM15 qM16 qM17 qM18 qM19 qM20 qM21 uz))) C (zv_runV (As := [.int (10 : Int32), .int (10 : Int32), .int (33 : Int32)]) (b := adM) (rest := []) (ci := 5) (q0 := 0) C (zc_X6_minus l G cI adM qM1 qM2 qM3 qM4 qM5 qM6 qM7 qM8 qM12 qM13 qM15 qM16 qM17 qM18 qM19 qM20 qM21 T_14 (10 : Int32) (10 : Int32) (33 : Int32) _ hF) (cwV 3 C.2.2.2.2.1 gX6_backOf_X6_minus rfl rfl rfl zy_X6_minus ⟨Nat.le_of_ble_eq_true rfl, Nat.le_of_ble_eq_true rfl⟩) rfl rfl rfl rfl rfl (Nat.le_of_ble_eq_true rfl) ⟨Nat.zero_le _, Nat.zero_le _⟩ dX6_backOf_109) [0, 1, 2, 3, 4, 5, 6, 7, 8, 9, 10, 11, 12, 13, 14, 15, 16, 17] [] rfl rfl rfl rfl rfl (fun _ => rfl) (fun _ => rfl) (fun _ => rfl) (fun uz hF => ?_)
            obtain ⟨T_37, hE⟩ : ∃ z, z = uz := ⟨_, rfl⟩; subst hE
            refine zv_goto (pc := 112) (tgt := 125) C dX6_backOf_112 (by decide) ?_
            exact zv_lvs [1, 2, 3, 4, 0] rfl (hKJ_17 T_37 hF)
      · skip
        refine zv_if_ne (pc := 31) (tgt := 39) C dX6_backOf_31 (by decide) (fun c_4 => ?_) (fun c_4 => ?_)
        · replace hF := And.left hF c_4
          refine zv_bipush (pc := 39) (v := 15) C (by decide) dX6_backOf_39 ?_
          exact zv_lvs [0, 1, 2, 3] rfl (hKJ_6 (15 : Int32) hF)
        · replace hF := And.right hF c_4
          refine zv_bipush (pc := 34) (v := 14) C (by decide) dX6_backOf_34 ?_
          refine zv_goto (pc := 36) (tgt := 41) C dX6_backOf_36 (by decide) ?_
          exact zv_lvs [0, 1, 2, 3] rfl (hKJ_6 (14 : Int32) hF)
set_option maxHeartbeats 4000000 in
set_option maxRecDepth 100000 in
theorem zc_X6_backOf (l : Launch) (G : va_G) (cI : ClassId) (adM qM1 qM2 qM3 qM4 qM5 qM6 qM7 qM8 qM12 qM13 qM15 qM16 qM17 qM18 qM19 qM20 qM21 : Nat) (M : zMem) (a1 : Int32) (a2 : Int32) (a3 : Int32) (post : zMem → Prop) (hF : zw_X6_backOf M a1 a2 a3 post) (sz : Nat) : Met l yX6_backOf wsX6_backOf rmX6_backOf (va_Pc [.ref adM, .int a1, .int a2, .int a3] (zv_in G cI (zd_X6_backOf cI adM qM1 qM2 qM3 qM4 qM5 qM6 qM7 qM8 qM12 qM13 qM15 qM16 qM17 qM18 qM19 qM20 qM21 M) sz)) (va_Qv (fun uz : zMem => post uz) (fun (uz : zMem) t => zv_out G cI (va_A (zd_X6_backOf cI adM qM1 qM2 qM3 qM4 qM5 qM6 qM7 qM8 qM12 qM13 qM15 qM16 qM17 qM18 qM19 qM20 qM21 M) sz) (zd_X6_backOf cI adM qM1 qM2 qM3 qM4 qM5 qM6 qM7 qM8 qM12 qM13 qM15 qM16 qM17 qM18 qM19 qM20 qM21 uz) t) (va_A (zd_X6_backOf cI adM qM1 qM2 qM3 qM4 qM5 qM6 qM7 qM8 qM12 qM13 qM15 qM16 qM17 qM18 qM19 qM20 qM21 M) sz)) 0 0 (va_A (zd_X6_backOf cI adM qM1 qM2 qM3 qM4 qM5 qM6 qM7 qM8 qM12 qM13 qM15 qM16 qM17 qM18 qM19 qM20 qM21 M) sz) := by
  refine zv_met (cc := cX6_backOf) (maxL := 8) (ret := none) (lv0 := [(0, .ref adM), (1, .int a1), (2, .int a2), (3, .int a3)]) (Qc := fun A => va_Qv (fun uz : zMem => post uz) (fun (uz : zMem) t => zv_out G cI A (zd_X6_backOf cI adM qM1 qM2 qM3 qM4 qM5 qM6 qM7 qM8 qM12 qM13 qM15 qM16 qM17 qM18 qM19 qM20 qM21 uz) t) A) (by decide) rfl (Nat.le_of_ble_eq_true rfl) rfl ?_ sz
  intro p e s m below meth c A C hr hlk
  clear sz
  refine zv_aload_n (pc := 0) C rfl 0 rfl dX6_backOf_0 ?_
  refine zv_iload_n (pc := 1) C rfl 1 rfl dX6_backOf_1 ?_
  refine zv_iload_n (pc := 2) C rfl 2 rfl dX6_backOf_2 ?_
  refine zv_iload_n (pc := 3) C rfl 3 rfl dX6_backOf_3 ?_
  refine zv_cv0 (pc := 4) (ws' := (fun uz : zMem => (zd_X6_backOf cI adM qM1 qM2 qM3 qM4 qM5 qM6 qM7 qM8 qM12 qM13 qM15 qM16 qM17 qM18 qM19 qM20 qM21 uz))) C (zv_runV (As := [.int a1, .int a2, .int a3]) (b := adM) (rest := []) (ci := 5) (q0 := 0) C (zc_X6_table l G cI adM qM1 qM2 qM3 qM4 qM5 qM6 qM7 qM8 qM12 qM13 qM15 qM16 qM17 qM18 qM19 qM20 qM21 M a1 a2 a3 _ hF) (cwV 3 C.2.2.2.2.1 gX6_backOf_X6_table rfl rfl rfl zy_X6_table ⟨Nat.le_of_ble_eq_true rfl, Nat.le_of_ble_eq_true rfl⟩) rfl rfl rfl rfl rfl (Nat.le_of_ble_eq_true rfl) ⟨Nat.zero_le _, Nat.zero_le _⟩ dX6_backOf_4) [0, 1, 2, 3, 4, 5, 6, 7, 8, 9, 10, 11, 12, 13, 14, 15, 16, 17] [] rfl rfl rfl rfl rfl (fun _ => rfl) (fun _ => rfl) (fun _ => rfl) (fun uz hF => ?_)
  obtain ⟨T_1, hE⟩ : ∃ z, z = uz := ⟨_, rfl⟩; subst hE
  refine zv_iload_n (pc := 7) C rfl 3 rfl dX6_backOf_7 ?_
  refine zv_i2l (pc := 8) C  dX6_backOf_8 ?_
  refine zv_iload_n (pc := 9) C rfl 3 rfl dX6_backOf_9 ?_
  refine zv_i2l (pc := 10) C  dX6_backOf_10 ?_
  refine zv_lmul (pc := 11) C  dX6_backOf_11 ?_
  refine zv_iload_n (pc := 12) C rfl 2 rfl dX6_backOf_12 ?_
  refine zv_i2l (pc := 13) C  dX6_backOf_13 ?_
  refine zv_iload_n (pc := 14) C rfl 2 rfl dX6_backOf_14 ?_
  refine zv_i2l (pc := 15) C  dX6_backOf_15 ?_
  refine zv_lmul (pc := 16) C  dX6_backOf_16 ?_
  refine zv_lsub (pc := 17) C  dX6_backOf_17 ?_
  refine zv_topl (fun x4_2 ex4_2 => ?_)
  replace hF := hF x4_2 ex4_2
  refine zv_lstore (pc := 18) (lv' := [(4, .long x4_2), (0, .ref adM), (1, .int a1), (2, .int a2), (3, .int a3)]) C (by decide) rfl dX6_backOf_18 ?_
  refine zv_iconst (pc := 20) (v := 0) C (by decide) dX6_backOf_20 ?_
  refine zv_istore (pc := 21) (lv' := [(6, .int (0 : Int32)), (4, .long x4_2), (0, .ref adM), (1, .int a1), (2, .int a2), (3, .int a3)]) C (by decide) rfl dX6_backOf_21 ?_
  obtain ⟨kf, hF⟩ := hF
  refine zv_lvs [2, 3, 1, 0] rfl (zl_X6_backOf_23 adM qM1 qM2 qM3 qM4 qM5 qM6 qM7 qM8 qM12 qM13 qM15 qM16 qM17 qM18 qM19 qM20 qM21 a1 x4_2 _ C ?_ kf (0 : Int32) T_1 hF)
  · intro T_38 hF
    exact zv_vret (pc := 251) C hr hlk T_38 hF rfl dX6_backOf_251
theorem zy_X6_against : yX6_against.cls = RX6 ∧ yX6_against.cls ≠ "java/lang/invoke/MethodHandle" ∧ yX6_against.cls ≠ "java/lang/invoke/VarHandle" ∧ (parseMethodDescriptor yX6_against.desc).map (fun d => d.parameters.length) = some 2 := by decide +kernel
set_option maxHeartbeats 4000000 in
set_option maxRecDepth 100000 in
theorem zc_X6_against (l : Launch) (G : va_G) (cI : ClassId) (adM qM1 qM2 qM3 qM4 qM5 qM6 qM7 qM8 qM12 qM13 qM15 qM16 qM17 qM18 qM19 qM20 qM21 : Nat) (M : zMem) (a1 : Int32) (a2 : Int32) (post : Int32 → zMem → Prop) (hF : zw_X6_against M a1 a2 post) (sz : Nat) : Met l yX6_against wsX6_against rmX6_against (va_Pc [.ref adM, .int a1, .int a2] (zv_in G cI (zd_X6_against cI adM qM1 qM2 qM3 qM4 qM5 qM6 qM7 qM8 qM12 qM13 qM15 qM16 qM17 qM18 qM19 qM20 qM21 M) sz)) (va_Qi (fun (rz : Int32) (uz : zMem) => post rz uz) (fun (uz : zMem) t => zv_out G cI (va_A (zd_X6_against cI adM qM1 qM2 qM3 qM4 qM5 qM6 qM7 qM8 qM12 qM13 qM15 qM16 qM17 qM18 qM19 qM20 qM21 M) sz) (zd_X6_against cI adM qM1 qM2 qM3 qM4 qM5 qM6 qM7 qM8 qM12 qM13 qM15 qM16 qM17 qM18 qM19 qM20 qM21 uz) t) (va_A (zd_X6_against cI adM qM1 qM2 qM3 qM4 qM5 qM6 qM7 qM8 qM12 qM13 qM15 qM16 qM17 qM18 qM19 qM20 qM21 M) sz)) 0 0 (va_A (zd_X6_against cI adM qM1 qM2 qM3 qM4 qM5 qM6 qM7 qM8 qM12 qM13 qM15 qM16 qM17 qM18 qM19 qM20 qM21 M) sz) := by
  refine zv_met (cc := cX6_against) (maxL := 3) (ret := (some .int)) (lv0 := [(0, .ref adM), (1, .int a1), (2, .int a2)]) (Qc := fun A => va_Qi (fun (rz : Int32) (uz : zMem) => post rz uz) (fun (uz : zMem) t => zv_out G cI A (zd_X6_against cI adM qM1 qM2 qM3 qM4 qM5 qM6 qM7 qM8 qM12 qM13 qM15 qM16 qM17 qM18 qM19 qM20 qM21 uz) t) A) (by decide) rfl (Nat.le_of_ble_eq_true rfl) rfl ?_ sz
  intro p e s m below meth c A C hr hlk
  clear sz
  refine zv_aload_n (pc := 0) C rfl 0 rfl dX6_against_0 ?_
  refine zv_bipush (pc := 1) (v := 32) C (by decide) dX6_against_1 ?_
  refine zv_bipush (pc := 3) (v := 14) C (by decide) dX6_against_3 ?_
  refine zv_iload_n (pc := 5) C rfl 2 rfl dX6_against_5 ?_
  refine zv_cv0 (pc := 6) (ws' := (fun uz : zMem => (zd_X6_against cI adM qM1 qM2 qM3 qM4 qM5 qM6 qM7 qM8 qM12 qM13 qM15 qM16 qM17 qM18 qM19 qM20 qM21 uz))) C (zv_runV (As := [.int (32 : Int32), .int (14 : Int32), .int a2]) (b := adM) (rest := []) (ci := 5) (q0 := 0) C (zc_X6_times l G cI adM qM1 qM2 qM3 qM4 qM5 qM6 qM7 qM8 qM12 qM13 qM15 qM16 qM17 qM18 qM19 qM20 qM21 M (32 : Int32) (14 : Int32) a2 _ hF) (cwV 3 C.2.2.2.2.1 gX6_against_X6_times rfl rfl rfl zy_X6_times ⟨Nat.le_of_ble_eq_true rfl, Nat.le_of_ble_eq_true rfl⟩) rfl rfl rfl rfl rfl (Nat.le_of_ble_eq_true rfl) ⟨Nat.zero_le _, Nat.zero_le _⟩ dX6_against_6) [0, 1, 2, 3, 4, 5, 6, 7, 8, 9, 10, 11, 12, 13, 14, 15, 16, 17] [] rfl rfl rfl rfl rfl (fun _ => rfl) (fun _ => rfl) (fun _ => rfl) (fun uz hF => ?_)
  obtain ⟨T_1, hE⟩ : ∃ z, z = uz := ⟨_, rfl⟩; subst hE
  refine zv_aload_n (pc := 9) C rfl 0 rfl dX6_against_9 ?_
  refine zv_bipush (pc := 10) (v := 33) C (by decide) dX6_against_10 ?_
  refine zv_iload_n (pc := 12) C rfl 1 rfl dX6_against_12 ?_
  refine zv_bipush (pc := 13) (v := 15) C (by decide) dX6_against_13 ?_
  refine zv_cv0 (pc := 15) (ws' := (fun uz : zMem => (zd_X6_against cI adM qM1 qM2 qM3 qM4 qM5 qM6 qM7 qM8 qM12 qM13 qM15 qM16 qM17 qM18 qM19 qM20 qM21 uz))) C (zv_runV (As := [.int (33 : Int32), .int a1, .int (15 : Int32)]) (b := adM) (rest := []) (ci := 5) (q0 := 0) C (zc_X6_times l G cI adM qM1 qM2 qM3 qM4 qM5 qM6 qM7 qM8 qM12 qM13 qM15 qM16 qM17 qM18 qM19 qM20 qM21 T_1 (33 : Int32) a1 (15 : Int32) _ hF) (cwV 3 C.2.2.2.2.1 gX6_against_X6_times rfl rfl rfl zy_X6_times ⟨Nat.le_of_ble_eq_true rfl, Nat.le_of_ble_eq_true rfl⟩) rfl rfl rfl rfl rfl (Nat.le_of_ble_eq_true rfl) ⟨Nat.zero_le _, Nat.zero_le _⟩ dX6_against_15) [0, 1, 2, 3, 4, 5, 6, 7, 8, 9, 10, 11, 12, 13, 14, 15, 16, 17] [] rfl rfl rfl rfl rfl (fun _ => rfl) (fun _ => rfl) (fun _ => rfl) (fun uz hF => ?_)
  obtain ⟨T_2, hE⟩ : ∃ z, z = uz := ⟨_, rfl⟩; subst hE
  refine zv_aload_n (pc := 18) C rfl 0 rfl dX6_against_18 ?_
  refine zv_bipush (pc := 19) (v := 32) C (by decide) dX6_against_19 ?_
  refine zv_bipush (pc := 21) (v := 33) C (by decide) dX6_against_21 ?_
  refine zv_ci0 (pc := 23) (ws' := (fun uz : Unit => (zd_X6_against cI adM qM1 qM2 qM3 qM4 qM5 qM6 qM7 qM8 qM12 qM13 qM15 qM16 qM17 qM18 qM19 qM20 qM21 T_2))) C (zv_runV (As := [.int (32 : Int32), .int (33 : Int32)]) (b := adM) (rest := []) (ci := 5) (q0 := 0) C (zc_X6_compare l G cI adM qM1 qM2 qM3 qM4 qM5 qM6 qM7 qM8 qM12 qM13 qM15 qM16 qM17 qM18 qM19 qM20 qM21 T_2 (32 : Int32) (33 : Int32) _ hF) (cwV 2 C.2.2.2.2.1 gX6_against_X6_compare rfl rfl rfl zy_X6_compare ⟨Nat.le_of_ble_eq_true rfl, Nat.le_of_ble_eq_true rfl⟩) rfl rfl rfl rfl rfl (Nat.le_of_ble_eq_true rfl) ⟨Nat.zero_le _, Nat.zero_le _⟩ dX6_against_23) [0, 1, 2, 3, 4, 5, 6, 7, 8, 9, 10, 11, 12, 13, 14, 15, 16, 17] [] rfl rfl rfl rfl rfl (fun _ => rfl) (fun _ => rfl) (fun _ => rfl) (fun v_3 uz hF => ?_)
  exact zv_iret (pc := 26) C hr hlk v_3 T_2 hF rfl dX6_against_26
theorem zy_X6_isIndex : yX6_isIndex.cls ≠ "java/lang/invoke/MethodHandle" ∧ yX6_isIndex.cls ≠ "java/lang/invoke/VarHandle" ∧ (parseMethodDescriptor yX6_isIndex.desc).map (fun d => d.parameters.length) = some 2 := by decide +kernel
set_option maxHeartbeats 4000000 in
set_option maxRecDepth 100000 in
theorem zc_X6_isIndex (l : Launch) (G : va_G) (cI : ClassId) (a1 : Int32) (a2 : Int32) (post : Int32 → Prop) (hF : zw_X6_isIndex a1 a2 post) (sz : Nat) : Met l yX6_isIndex wsX6_isIndex rmX6_isIndex (va_Pc [.int a1, .int a2] (zv_in G cI (zd_X6_isIndex cI ) sz)) (va_Qi (fun (rz : Int32) (uz : Unit) => post rz ) (fun (uz : Unit) t => zv_out G cI (va_A (zd_X6_isIndex cI ) sz) (zd_X6_isIndex cI ) t) (va_A (zd_X6_isIndex cI ) sz)) 0 0 (va_A (zd_X6_isIndex cI ) sz) := by
  refine zv_met (cc := cX6_isIndex) (maxL := 2) (ret := (some .boolean)) (lv0 := [(0, .int a1), (1, .int a2)]) (Qc := fun A => va_Qi (fun (rz : Int32) (uz : Unit) => post rz ) (fun (uz : Unit) t => zv_out G cI A (zd_X6_isIndex cI ) t) A) (by decide) rfl (Nat.le_of_ble_eq_true rfl) rfl ?_ sz
  intro p e s m below meth c A C hr hlk
  clear sz
  refine zv_iload_n (pc := 0) C rfl 0 rfl dX6_isIndex_0 ?_
  refine zv_iconst (pc := 1) (v := 1) C (by decide) dX6_isIndex_1 ?_
  refine zv_icmp_lt (pc := 2) (tgt := 26) C dX6_isIndex_2 (by decide) (fun c_1 => ?_) (fun c_1 => ?_)
  · replace hF := And.left hF c_1
    refine zv_iconst (pc := 26) (v := 0) C (by decide) dX6_isIndex_26 ?_
    obtain ⟨hn_2, hF⟩ := hF
    exact zv_zret (pc := 27) C hr hlk (0 : Int32) () hn_2 hF rfl dX6_isIndex_27
  · replace hF := And.right hF c_1
    refine zv_iload_n (pc := 5) C rfl 0 rfl dX6_isIndex_5 ?_
    refine zv_bipush (pc := 6) (v := 9) C (by decide) dX6_isIndex_6 ?_
    refine zv_icmp_gt (pc := 8) (tgt := 26) C dX6_isIndex_8 (by decide) (fun c_3 => ?_) (fun c_3 => ?_)
    · replace hF := And.left hF c_3
      refine zv_iconst (pc := 26) (v := 0) C (by decide) dX6_isIndex_26 ?_
      obtain ⟨hn_4, hF⟩ := hF
      exact zv_zret (pc := 27) C hr hlk (0 : Int32) () hn_4 hF rfl dX6_isIndex_27
    · replace hF := And.right hF c_3
      refine zv_iload_n (pc := 11) C rfl 1 rfl dX6_isIndex_11 ?_
      refine zv_iconst (pc := 12) (v := 1) C (by decide) dX6_isIndex_12 ?_
      refine zv_icmp_lt (pc := 13) (tgt := 26) C dX6_isIndex_13 (by decide) (fun c_5 => ?_) (fun c_5 => ?_)
      · replace hF := And.left hF c_5
        refine zv_iconst (pc := 26) (v := 0) C (by decide) dX6_isIndex_26 ?_
        obtain ⟨hn_6, hF⟩ := hF
        exact zv_zret (pc := 27) C hr hlk (0 : Int32) () hn_6 hF rfl dX6_isIndex_27
      · replace hF := And.right hF c_5
        refine zv_iload_n (pc := 16) C rfl 1 rfl dX6_isIndex_16 ?_
        refine zv_bipush (pc := 17) (v := 9) C (by decide) dX6_isIndex_17 ?_
        refine zv_icmp_gt (pc := 19) (tgt := 26) C dX6_isIndex_19 (by decide) (fun c_7 => ?_) (fun c_7 => ?_)
        · replace hF := And.left hF c_7
          refine zv_iconst (pc := 26) (v := 0) C (by decide) dX6_isIndex_26 ?_
          obtain ⟨hn_8, hF⟩ := hF
          exact zv_zret (pc := 27) C hr hlk (0 : Int32) () hn_8 hF rfl dX6_isIndex_27
        · replace hF := And.right hF c_7
          refine zv_iconst (pc := 22) (v := 1) C (by decide) dX6_isIndex_22 ?_
          refine zv_goto (pc := 23) (tgt := 27) C dX6_isIndex_23 (by decide) ?_
          obtain ⟨hn_9, hF⟩ := hF
          exact zv_zret (pc := 27) C hr hlk (1 : Int32) () hn_9 hF rfl dX6_isIndex_27
theorem zy_X6_shared : yX6_shared.cls ≠ "java/lang/invoke/MethodHandle" ∧ yX6_shared.cls ≠ "java/lang/invoke/VarHandle" ∧ (parseMethodDescriptor yX6_shared.desc).map (fun d => d.parameters.length) = some 2 := by decide +kernel
set_option maxHeartbeats 4000000 in
set_option maxRecDepth 100000 in
theorem zl_X6_shared_4 {p : Program} {l : Launch} {e : Env} {s : State} {m : MethodId} {args : Array Value} {below : List Frame} {meth : Method} {c : Code} {G : va_G} {cI : ClassId} {A : Nat → Prop} {Q : State → Prop} (K21 : Int32 → Prop) (C : zv_C p s m args c cX6_shared 5 RX6 wsX6_shared G cI A) (hK21 : ∀ (p2 : Int32), K21 p2 → zv_V p l e (headSpec wsX6_shared rmX6_shared).room s m args below meth c Q G A 5 0 0 (zd_X6_shared cI ) 21 [(2, .int p2)] []) : ∀ (k : Nat) (p2 : Int32) (p3 : Int32), zw_X6_shared_4 K21 k p2 p3 → zv_V p l e (headSpec wsX6_shared rmX6_shared).room s m args below meth c Q G A 5 0 0 (zd_X6_shared cI ) 4 [(2, .int p2), (3, .int p3)] [] := by
  intro k
  induction k with
  | zero => intro p2 p3 hF; exact (show False from hF).elim
  | succ k ih =>
    intro p2 p3 hF
    refine zv_iload_n (pc := 4) C rfl 1 rfl dX6_shared_4 ?_
    refine zv_if_le (pc := 5) (tgt := 21) C dX6_shared_5 (by decide) (fun c_1 => ?_) (fun c_1 => ?_)
    · replace hF := And.left hF c_1
      exact zv_lvs [0] rfl (hK21 p2 hF)
    · replace hF := And.right hF c_1
      refine zv_iload_n (pc := 8) C rfl 0 rfl dX6_shared_8 ?_
      refine zv_iload_n (pc := 9) C rfl 1 rfl dX6_shared_9 ?_
      obtain ⟨hz_2, hF⟩ := hF
      refine zv_irem (pc := 10) C hz_2 dX6_shared_10 ?_
      refine zv_topi (fun x4_3 ex4_3 => ?_)
      replace hF := hF x4_3 ex4_3
      refine zv_istore (pc := 11) (lv' := [(4, .int x4_3), (2, .int p2), (3, .int p3)]) C (by decide) rfl dX6_shared_11 ?_
      refine zv_iload_n (pc := 13) C rfl 2 rfl dX6_shared_13 ?_
      refine zv_istore_n (pc := 14) (lv' := [(2, .int p3), (4, .int x4_3), (3, .int p3)]) C rfl (by decide) rfl dX6_shared_14 ?_
      refine zv_iload (pc := 15) C 1 rfl dX6_shared_15 ?_
      refine zv_istore_n (pc := 17) (lv' := [(3, .int x4_3), (2, .int p3), (4, .int x4_3)]) C rfl (by decide) rfl dX6_shared_17 ?_
      refine zv_goto (pc := 18) (tgt := 4) C dX6_shared_18 (by decide) ?_
      exact zv_lvs [1, 0] rfl (ih p3 x4_3 hF)
set_option maxHeartbeats 4000000 in
set_option maxRecDepth 100000 in
theorem zc_X6_shared (l : Launch) (G : va_G) (cI : ClassId) (a1 : Int32) (a2 : Int32) (post : Int32 → Prop) (hF : zw_X6_shared a1 a2 post) (sz : Nat) : Met l yX6_shared wsX6_shared rmX6_shared (va_Pc [.int a1, .int a2] (zv_in G cI (zd_X6_shared cI ) sz)) (va_Qi (fun (rz : Int32) (uz : Unit) => post rz ) (fun (uz : Unit) t => zv_out G cI (va_A (zd_X6_shared cI ) sz) (zd_X6_shared cI ) t) (va_A (zd_X6_shared cI ) sz)) 0 0 (va_A (zd_X6_shared cI ) sz) := by
  refine zv_met (cc := cX6_shared) (maxL := 5) (ret := (some .int)) (lv0 := [(0, .int a1), (1, .int a2)]) (Qc := fun A => va_Qi (fun (rz : Int32) (uz : Unit) => post rz ) (fun (uz : Unit) t => zv_out G cI A (zd_X6_shared cI ) t) A) (by decide) rfl (Nat.le_of_ble_eq_true rfl) rfl ?_ sz
  intro p e s m below meth c A C hr hlk
  clear sz
  refine zv_iload_n (pc := 0) C rfl 0 rfl dX6_shared_0 ?_
  refine zv_istore_n (pc := 1) (lv' := [(2, .int a1), (0, .int a1), (1, .int a2)]) C rfl (by decide) rfl dX6_shared_1 ?_
  refine zv_iload_n (pc := 2) C rfl 2 rfl dX6_shared_2 ?_
  refine zv_istore_n (pc := 3) (lv' := [(3, .int a2), (2, .int a1), (0, .int a1), (1, .int a2)]) C rfl (by decide) rfl dX6_shared_3 ?_
  obtain ⟨kf, hF⟩ := hF
  refine zv_lvs [1, 0] rfl (zl_X6_shared_4  _ C ?_ kf a1 a2 hF)
  · intro x2_4 hF
    refine zv_iload_n (pc := 21) C rfl 0 rfl dX6_shared_21 ?_
    exact zv_iret (pc := 22) C hr hlk x2_4 () hF rfl dX6_shared_22
theorem zf_X6_edge_13 : Cond.fieldLink RX6 13 "GlassStackModel" "airLow" "[I" ∈ wsX6_edge := (List.mem_of_getElem? (i := 2) rfl)
theorem zf_X6_edge_16 : Cond.fieldLink RX6 16 "GlassStackModel" "groundUp" "[I" ∈ wsX6_edge := (List.mem_of_getElem? (i := 3) rfl)
theorem zf_X6_edge_19 : Cond.fieldLink RX6 19 "GlassStackModel" "groundLow" "[I" ∈ wsX6_edge := (List.mem_of_getElem? (i := 4) rfl)
theorem zf_X6_edge_7 : Cond.fieldLink RX6 7 "GlassStackModel" "airUp" "[I" ∈ wsX6_edge := (List.mem_of_getElem? (i := 1) rfl)
theorem zi_X6_edge_X6 : ∀ w ∈ wsX60, w ∈ wsX6_edge := fun w h => List.mem_cons_of_mem _ (List.mem_append_right _ h)
theorem zy_X6_edge : yX6_edge.cls = RX6 ∧ yX6_edge.cls ≠ "java/lang/invoke/MethodHandle" ∧ yX6_edge.cls ≠ "java/lang/invoke/VarHandle" ∧ (parseMethodDescriptor yX6_edge.desc).map (fun d => d.parameters.length) = some 4 := by decide +kernel
set_option maxHeartbeats 4000000 in
set_option maxRecDepth 100000 in
theorem zc_X6_edge (l : Launch) (G : va_G) (cI : ClassId) (adM qM1 qM2 qM3 qM4 qM5 qM6 qM7 qM8 qM12 qM13 qM15 qM16 qM17 qM18 qM19 qM20 qM21 : Nat) (M : zMem) (a1 : Int32) (a2 : Int32) (a3 : Int32) (a4 : Int32) (post : zMem → Prop) (hF : zw_X6_edge M a1 a2 a3 a4 post) (sz : Nat) : Met l yX6_edge wsX6_edge rmX6_edge (va_Pc [.ref adM, .int a1, .int a2, .int a3, .int a4] (zv_in G cI (zd_X6_edge cI adM qM1 qM2 qM3 qM4 qM5 qM6 qM7 qM8 qM12 qM13 qM15 qM16 qM17 qM18 qM19 qM20 qM21 M) sz)) (va_Qv (fun uz : zMem => post uz) (fun (uz : zMem) t => zv_out G cI (va_A (zd_X6_edge cI adM qM1 qM2 qM3 qM4 qM5 qM6 qM7 qM8 qM12 qM13 qM15 qM16 qM17 qM18 qM19 qM20 qM21 M) sz) (zd_X6_edge cI adM qM1 qM2 qM3 qM4 qM5 qM6 qM7 qM8 qM12 qM13 qM15 qM16 qM17 qM18 qM19 qM20 qM21 uz) t) (va_A (zd_X6_edge cI adM qM1 qM2 qM3 qM4 qM5 qM6 qM7 qM8 qM12 qM13 qM15 qM16 qM17 qM18 qM19 qM20 qM21 M) sz)) 0 0 (va_A (zd_X6_edge cI adM qM1 qM2 qM3 qM4 qM5 qM6 qM7 qM8 qM12 qM13 qM15 qM16 qM17 qM18 qM19 qM20 qM21 M) sz) := by
  refine zv_met (cc := cX6_edge) (maxL := 6) (ret := none) (lv0 := [(0, .ref adM), (1, .int a1), (2, .int a2), (3, .int a3), (4, .int a4)]) (Qc := fun A => va_Qv (fun uz : zMem => post uz) (fun (uz : zMem) t => zv_out G cI A (zd_X6_edge cI adM qM1 qM2 qM3 qM4 qM5 qM6 qM7 qM8 qM12 qM13 qM15 qM16 qM17 qM18 qM19 qM20 qM21 uz) t) A) (by decide) rfl (Nat.le_of_ble_eq_true rfl) rfl ?_ sz
  intro p e s m below meth c A C hr hlk
  clear sz
  refine zv_aload_n (pc := 0) C rfl 0 rfl dX6_edge_0 ?_
  refine zv_iload_n (pc := 1) C rfl 1 rfl dX6_edge_1 ?_
  refine zv_ci0 (pc := 2) (ws' := (fun uz : zMem => (zd_X6_edge cI adM qM1 qM2 qM3 qM4 qM5 qM6 qM7 qM8 qM12 qM13 qM15 qM16 qM17 qM18 qM19 qM20 qM21 uz))) C (zv_runV (As := [.int a1]) (b := adM) (rest := []) (ci := 5) (q0 := 0) C (zc_X6_isStack l G cI adM qM1 qM2 qM3 qM4 qM5 qM6 qM7 qM8 qM12 qM13 qM15 qM16 qM17 qM18 qM19 qM20 qM21 M a1 _ hF) (cwV 1 C.2.2.2.2.1 gX6_edge_X6_isStack rfl rfl rfl zy_X6_isStack ⟨Nat.le_of_ble_eq_true rfl, Nat.le_of_ble_eq_true rfl⟩) rfl rfl rfl rfl rfl (Nat.le_of_ble_eq_true rfl) ⟨Nat.zero_le _, Nat.zero_le _⟩ dX6_edge_2) [0, 1, 2, 3, 4, 5, 6, 7, 8, 9, 10, 11, 12, 13, 14, 15, 16, 17] [] rfl rfl rfl rfl rfl (fun _ => rfl) (fun _ => rfl) (fun _ => rfl) (fun v_2 uz hF => ?_)
  obtain ⟨T_1, hE⟩ : ∃ z, z = uz := ⟨_, rfl⟩; subst hE
  refine zv_if_eq (pc := 5) (tgt := 39) C dX6_edge_5 (by decide) (fun c_3 => ?_) (fun c_3 => ?_)
  · replace hF := And.left hF c_3
    exact zv_vret (pc := 39) C hr hlk T_1 hF rfl dX6_edge_39
  · replace hF := And.right hF c_3
    refine zv_aload_n (pc := 8) C rfl 0 rfl dX6_edge_8 ?_
    refine zv_iload_n (pc := 9) C rfl 2 rfl dX6_edge_9 ?_
    refine zv_if_eq (pc := 10) (tgt := 18) C dX6_edge_10 (by decide) (fun c_4 => ?_) (fun c_4 => ?_)
    · replace hF := And.left hF c_4
      refine zv_iload_n (pc := 18) C rfl 3 rfl dX6_edge_18 ?_
      refine zv_iload (pc := 19) C 4 rfl dX6_edge_19 ?_
      refine zv_ci0 (pc := 21) (ws' := (fun uz : Unit => (zd_X6_edge cI adM qM1 qM2 qM3 qM4 qM5 qM6 qM7 qM8 qM12 qM13 qM15 qM16 qM17 qM18 qM19 qM20 qM21 T_1))) C (zv_runS (As := [.int a3, .int a4]) (rest := [.ref adM]) C (zc_X6_isIndex l G cI a3 a4 _ hF) (va_cwS 2 C.2.2.2.2.1 gX6_edge_X6_isIndex rfl rfl rfl zy_X6_isIndex ⟨Nat.le_of_ble_eq_true rfl, Nat.le_of_ble_eq_true rfl⟩) rfl rfl (Nat.le_of_ble_eq_true rfl) ⟨Nat.zero_le _, Nat.zero_le _⟩ dX6_edge_21) [] [0, 1, 2, 3, 4, 5, 6, 7, 8, 9, 10, 11, 12, 13, 14, 15, 16, 17] rfl rfl rfl rfl rfl (fun _ => rfl) (fun _ => rfl) (fun _ => rfl) (fun v_5 uz hF => ?_)
      obtain ⟨KJ_8, h0KJ_8, hF⟩ := hF
      refine zv_join (α := Int32) (KK := fun uz => KJ_8 uz) (wsJ := fun uz => (zd_X6_edge cI adM qM1 qM2 qM3 qM4 qM5 qM6 qM7 qM8 qM12 qM13 qM15 qM16 qM17 qM18 qM19 qM20 qM21 T_1)) (pcJ := 32) (lvJ := fun uz => [(0, .ref adM), (1, .int a1), (2, .int a2), (3, .int a3), (4, .int a4)]) (stJ := fun uz => [.int uz, .ref adM]) ?_ (fun hKJ_8 => ?_)
      · rintro v_7 hF
        replace hF := h0KJ_8 v_7 hF
        refine zv_iconst (pc := 32) (v := 2) C (by decide) dX6_edge_32 ?_
        refine zv_ci0 (pc := 33) (ws' := (fun uz : zMem => (zd_X6_edge cI adM qM1 qM2 qM3 qM4 qM5 qM6 qM7 qM8 qM12 qM13 qM15 qM16 qM17 qM18 qM19 qM20 qM21 uz))) C (zv_runV (As := [.int v_7, .int (2 : Int32)]) (b := adM) (rest := []) (ci := 5) (q0 := 0) C (zc_X6_right l G cI adM qM1 qM2 qM3 qM4 qM5 qM6 qM7 qM8 qM12 qM13 qM15 qM16 qM17 qM18 qM19 qM20 qM21 T_1 v_7 (2 : Int32) _ hF) (cwV 2 C.2.2.2.2.1 gX6_edge_X6_right rfl rfl rfl zy_X6_right ⟨Nat.le_of_ble_eq_true rfl, Nat.le_of_ble_eq_true rfl⟩) rfl rfl rfl rfl rfl (Nat.le_of_ble_eq_true rfl) ⟨Nat.zero_le _, Nat.zero_le _⟩ dX6_edge_33) [0, 1, 2, 3, 4, 5, 6, 7, 8, 9, 10, 11, 12, 13, 14, 15, 16, 17] [] rfl rfl rfl rfl rfl (fun _ => rfl) (fun _ => rfl) (fun _ => rfl) (fun v_10 uz hF => ?_)
        obtain ⟨T_9, hE⟩ : ∃ z, z = uz := ⟨_, rfl⟩; subst hE
        refine zv_if_ne (pc := 36) (tgt := 40) C dX6_edge_36 (by decide) (fun c_11 => ?_) (fun c_11 => ?_)
        · replace hF := And.left hF c_11
          refine zv_iload_n (pc := 40) C rfl 3 rfl dX6_edge_40 ?_
          refine zv_iload (pc := 41) C 4 rfl dX6_edge_41 ?_
          refine zv_ci0 (pc := 43) (ws' := (fun uz : Unit => (zd_X6_edge cI adM qM1 qM2 qM3 qM4 qM5 qM6 qM7 qM8 qM12 qM13 qM15 qM16 qM17 qM18 qM19 qM20 qM21 T_9))) C (zv_runS (As := [.int a3, .int a4]) (rest := []) C (zc_X6_shared l G cI a3 a4 _ hF) (va_cwS 2 C.2.2.2.2.1 gX6_edge_X6_shared rfl rfl rfl zy_X6_shared ⟨Nat.le_of_ble_eq_true rfl, Nat.le_of_ble_eq_true rfl⟩) rfl rfl (Nat.le_of_ble_eq_true rfl) ⟨Nat.zero_le _, Nat.zero_le _⟩ dX6_edge_43) [] [0, 1, 2, 3, 4, 5, 6, 7, 8, 9, 10, 11, 12, 13, 14, 15, 16, 17] rfl rfl rfl rfl rfl (fun _ => rfl) (fun _ => rfl) (fun _ => rfl) (fun v_12 uz hF => ?_)
          refine zv_istore (pc := 46) (lv' := [(5, .int v_12), (0, .ref adM), (1, .int a1), (2, .int a2), (3, .int a3), (4, .int a4)]) C (by decide) rfl dX6_edge_46 ?_
          refine zv_iload_n (pc := 48) C rfl 3 rfl dX6_edge_48 ?_
          refine zv_if_ne (pc := 49) (tgt := 76) C dX6_edge_49 (by decide) (fun c_13 => ?_) (fun c_13 => ?_)
          · replace hF := And.left hF c_13
            refine zv_aload_n (pc := 76) C rfl 1 rfl dX6_edge_76 ?_
            refine zv_get (pc := 77) (CC := RX6) (T := TX6) (N := 22) (ci := 5) (v := .ref qM3) C zi_X6_edge_X6 0 rfl 3 (by decide) zf_X6_edge_16 rfl rfl dX6_edge_77 ?_
            refine zv_iload_n (pc := 80) C rfl 2 rfl dX6_edge_80 ?_
            refine zv_iload_n (pc := 81) C rfl 4 rfl dX6_edge_81 ?_
            refine zv_iload (pc := 82) C 0 rfl dX6_edge_82 ?_
            obtain ⟨hz_14, hF⟩ := hF
            refine zv_idiv (pc := 84) C hz_14 dX6_edge_84 ?_
            obtain ⟨h_15, hF⟩ := hF
            obtain ⟨r_16, er_16⟩ : ∃ y : zRow, y = (upd (T_9 3) (Int32.toNatClampNeg a1) (a3 / v_12)) := ⟨_, rfl⟩
            replace hF := hF r_16 er_16
            refine zv_iast (pc := 85) (n := 2) (f := (T_9 3)) (ws' := (zd_X6_edge cI adM qM1 qM2 qM3 qM4 qM5 qM6 qM7 qM8 qM12 qM13 qM15 qM16 qM17 qM18 qM19 qM20 qM21 (zset T_9 3 r_16))) C 3 h_15 rfl (by rw [er_16]; rfl) dX6_edge_85 ?_
            refine zv_aload_n (pc := 86) C rfl 1 rfl dX6_edge_86 ?_
            refine zv_get (pc := 87) (CC := RX6) (T := TX6) (N := 22) (ci := 5) (v := .ref qM4) C zi_X6_edge_X6 0 rfl 4 (by decide) zf_X6_edge_19 rfl rfl dX6_edge_87 ?_
            refine zv_iload_n (pc := 90) C rfl 2 rfl dX6_edge_90 ?_
            refine zv_iload (pc := 91) C 5 rfl dX6_edge_91 ?_
            refine zv_iload (pc := 93) C 0 rfl dX6_edge_93 ?_
            obtain ⟨hz_17, hF⟩ := hF
            refine zv_idiv (pc := 95) C hz_17 dX6_edge_95 ?_
            obtain ⟨h_18, hF⟩ := hF
            obtain ⟨r_19, er_19⟩ : ∃ y : zRow, y = (upd (T_9 4) (Int32.toNatClampNeg a1) (a4 / v_12)) := ⟨_, rfl⟩
            replace hF := hF r_19 er_19
            refine zv_iast (pc := 96) (n := 2) (f := (T_9 4)) (ws' := (zd_X6_edge cI adM qM1 qM2 qM3 qM4 qM5 qM6 qM7 qM8 qM12 qM13 qM15 qM16 qM17 qM18 qM19 qM20 qM21 (zset (zset T_9 3 r_16) 4 r_19))) C 4 h_18 rfl (by rw [er_19]; rfl) dX6_edge_96 ?_
            exact zv_vret (pc := 97) C hr hlk (zset (zset T_9 3 r_16) 4 r_19) hF rfl dX6_edge_97
          · replace hF := And.right hF c_13
            refine zv_aload_n (pc := 52) C rfl 1 rfl dX6_edge_52 ?_
            refine zv_get (pc := 53) (CC := RX6) (T := TX6) (N := 22) (ci := 5) (v := .ref qM1) C zi_X6_edge_X6 0 rfl 1 (by decide) zf_X6_edge_7 rfl rfl dX6_edge_53 ?_
            refine zv_iload_n (pc := 56) C rfl 2 rfl dX6_edge_56 ?_
            refine zv_iload_n (pc := 57) C rfl 4 rfl dX6_edge_57 ?_
            refine zv_iload (pc := 58) C 0 rfl dX6_edge_58 ?_
            obtain ⟨hz_20, hF⟩ := hF
            refine zv_idiv (pc := 60) C hz_20 dX6_edge_60 ?_
            obtain ⟨h_21, hF⟩ := hF
            obtain ⟨r_22, er_22⟩ : ∃ y : zRow, y = (upd (T_9 1) (Int32.toNatClampNeg a1) (a3 / v_12)) := ⟨_, rfl⟩
            replace hF := hF r_22 er_22
            refine zv_iast (pc := 61) (n := 2) (f := (T_9 1)) (ws' := (zd_X6_edge cI adM qM1 qM2 qM3 qM4 qM5 qM6 qM7 qM8 qM12 qM13 qM15 qM16 qM17 qM18 qM19 qM20 qM21 (zset T_9 1 r_22))) C 1 h_21 rfl (by rw [er_22]; rfl) dX6_edge_61 ?_
            refine zv_aload_n (pc := 62) C rfl 1 rfl dX6_edge_62 ?_
            refine zv_get (pc := 63) (CC := RX6) (T := TX6) (N := 22) (ci := 5) (v := .ref qM2) C zi_X6_edge_X6 0 rfl 2 (by decide) zf_X6_edge_13 rfl rfl dX6_edge_63 ?_
            refine zv_iload_n (pc := 66) C rfl 2 rfl dX6_edge_66 ?_
            refine zv_iload (pc := 67) C 5 rfl dX6_edge_67 ?_
            refine zv_iload (pc := 69) C 0 rfl dX6_edge_69 ?_
            obtain ⟨hz_23, hF⟩ := hF
            refine zv_idiv (pc := 71) C hz_23 dX6_edge_71 ?_
            obtain ⟨h_24, hF⟩ := hF
            obtain ⟨r_25, er_25⟩ : ∃ y : zRow, y = (upd (T_9 2) (Int32.toNatClampNeg a1) (a4 / v_12)) := ⟨_, rfl⟩
            replace hF := hF r_25 er_25
            refine zv_iast (pc := 72) (n := 2) (f := (T_9 2)) (ws' := (zd_X6_edge cI adM qM1 qM2 qM3 qM4 qM5 qM6 qM7 qM8 qM12 qM13 qM15 qM16 qM17 qM18 qM19 qM20 qM21 (zset (zset T_9 1 r_22) 2 r_25))) C 2 h_24 rfl (by rw [er_25]; rfl) dX6_edge_72 ?_
            refine zv_goto (pc := 73) (tgt := 97) C dX6_edge_73 (by decide) ?_
            exact zv_vret (pc := 97) C hr hlk (zset (zset T_9 1 r_22) 2 r_25) hF rfl dX6_edge_97
        · replace hF := And.right hF c_11
          exact zv_vret (pc := 39) C hr hlk T_9 hF rfl dX6_edge_39
      · skip
        refine zv_if_eq (pc := 24) (tgt := 31) C dX6_edge_24 (by decide) (fun c_6 => ?_) (fun c_6 => ?_)
        · replace hF := And.left hF c_6
          refine zv_iconst (pc := 31) (v := 0) C (by decide) dX6_edge_31 ?_
          exact zv_lvs [0, 1, 2, 3, 4] rfl (hKJ_8 (0 : Int32) hF)
        · replace hF := And.right hF c_6
          refine zv_iconst (pc := 27) (v := 1) C (by decide) dX6_edge_27 ?_
          refine zv_goto (pc := 28) (tgt := 32) C dX6_edge_28 (by decide) ?_
          exact zv_lvs [0, 1, 2, 3, 4] rfl (hKJ_8 (1 : Int32) hF)
    · replace hF := And.right hF c_4
      refine zv_iload_n (pc := 13) C rfl 2 rfl dX6_edge_13 ?_
      refine zv_iconst (pc := 14) (v := 1) C (by decide) dX6_edge_14 ?_
      refine zv_icmp_ne (pc := 15) (tgt := 31) C dX6_edge_15 (by decide) (fun c_26 => ?_) (fun c_26 => ?_)
      · replace hF := And.left hF c_26
        refine zv_iconst (pc := 31) (v := 0) C (by decide) dX6_edge_31 ?_
        refine zv_iconst (pc := 32) (v := 2) C (by decide) dX6_edge_32 ?_
        refine zv_ci0 (pc := 33) (ws' := (fun uz : zMem => (zd_X6_edge cI adM qM1 qM2 qM3 qM4 qM5 qM6 qM7 qM8 qM12 qM13 qM15 qM16 qM17 qM18 qM19 qM20 qM21 uz))) C (zv_runV (As := [.int (0 : Int32), .int (2 : Int32)]) (b := adM) (rest := []) (ci := 5) (q0 := 0) C (zc_X6_right l G cI adM qM1 qM2 qM3 qM4 qM5 qM6 qM7 qM8 qM12 qM13 qM15 qM16 qM17 qM18 qM19 qM20 qM21 T_1 (0 : Int32) (2 : Int32) _ hF) (cwV 2 C.2.2.2.2.1 gX6_edge_X6_right rfl rfl rfl zy_X6_right ⟨Nat.le_of_ble_eq_true rfl, Nat.le_of_ble_eq_true rfl⟩) rfl rfl rfl rfl rfl (Nat.le_of_ble_eq_true rfl) ⟨Nat.zero_le _, Nat.zero_le _⟩ dX6_edge_33) [0, 1, 2, 3, 4, 5, 6, 7, 8, 9, 10, 11, 12, 13, 14, 15, 16, 17] [] rfl rfl rfl rfl rfl (fun _ => rfl) (fun _ => rfl) (fun _ => rfl) (fun v_28 uz hF => ?_)
        obtain ⟨T_27, hE⟩ : ∃ z, z = uz := ⟨_, rfl⟩; subst hE
        refine zv_if_ne (pc := 36) (tgt := 40) C dX6_edge_36 (by decide) (fun c_29 => ?_) (fun c_29 => ?_)
        · replace hF := And.left hF c_29
          refine zv_iload_n (pc := 40) C rfl 3 rfl dX6_edge_40 ?_
          refine zv_iload (pc := 41) C 4 rfl dX6_edge_41 ?_
          refine zv_ci0 (pc := 43) (ws' := (fun uz : Unit => (zd_X6_edge cI adM qM1 qM2 qM3 qM4 qM5 qM6 qM7 qM8 qM12 qM13 qM15 qM16 qM17 qM18 qM19 qM20 qM21 T_27))) C (zv_runS (As := [.int a3, .int a4]) (rest := []) C (zc_X6_shared l G cI a3 a4 _ hF) (va_cwS 2 C.2.2.2.2.1 gX6_edge_X6_shared rfl rfl rfl zy_X6_shared ⟨Nat.le_of_ble_eq_true rfl, Nat.le_of_ble_eq_true rfl⟩) rfl rfl (Nat.le_of_ble_eq_true rfl) ⟨Nat.zero_le _, Nat.zero_le _⟩ dX6_edge_43) [] [0, 1, 2, 3, 4, 5, 6, 7, 8, 9, 10, 11, 12, 13, 14, 15, 16, 17] rfl rfl rfl rfl rfl (fun _ => rfl) (fun _ => rfl) (fun _ => rfl) (fun v_30 uz hF => ?_)
          refine zv_istore (pc := 46) (lv' := [(5, .int v_30), (0, .ref adM), (1, .int a1), (2, .int a2), (3, .int a3), (4, .int a4)]) C (by decide) rfl dX6_edge_46 ?_
          refine zv_iload_n (pc := 48) C rfl 3 rfl dX6_edge_48 ?_
          refine zv_if_ne (pc := 49) (tgt := 76) C dX6_edge_49 (by decide) (fun c_31 => ?_) (fun c_31 => ?_)
          · replace hF := And.left hF c_31
            refine zv_aload_n (pc := 76) C rfl 1 rfl dX6_edge_76 ?_
            refine zv_get (pc := 77) (CC := RX6) (T := TX6) (N := 22) (ci := 5) (v := .ref qM3) C zi_X6_edge_X6 0 rfl 3 (by decide) zf_X6_edge_16 rfl rfl dX6_edge_77 ?_
            refine zv_iload_n (pc := 80) C rfl 2 rfl dX6_edge_80 ?_
            refine zv_iload_n (pc := 81) C rfl 4 rfl dX6_edge_81 ?_
            refine zv_iload (pc := 82) C 0 rfl dX6_edge_82 ?_
            obtain ⟨hz_32, hF⟩ := hF
            refine zv_idiv (pc := 84) C hz_32 dX6_edge_84 ?_
            obtain ⟨h_33, hF⟩ := hF
            obtain ⟨r_34, er_34⟩ : ∃ y : zRow, y = (upd (T_27 3) (Int32.toNatClampNeg a1) (a3 / v_30)) := ⟨_, rfl⟩
            replace hF := hF r_34 er_34
            refine zv_iast (pc := 85) (n := 2) (f := (T_27 3)) (ws' := (zd_X6_edge cI adM qM1 qM2 qM3 qM4 qM5 qM6 qM7 qM8 qM12 qM13 qM15 qM16 qM17 qM18 qM19 qM20 qM21 (zset T_27 3 r_34))) C 3 h_33 rfl (by rw [er_34]; rfl) dX6_edge_85 ?_
            refine zv_aload_n (pc := 86) C rfl 1 rfl dX6_edge_86 ?_
            refine zv_get (pc := 87) (CC := RX6) (T := TX6) (N := 22) (ci := 5) (v := .ref qM4) C zi_X6_edge_X6 0 rfl 4 (by decide) zf_X6_edge_19 rfl rfl dX6_edge_87 ?_
            refine zv_iload_n (pc := 90) C rfl 2 rfl dX6_edge_90 ?_
            refine zv_iload (pc := 91) C 5 rfl dX6_edge_91 ?_
            refine zv_iload (pc := 93) C 0 rfl dX6_edge_93 ?_
            obtain ⟨hz_35, hF⟩ := hF
            refine zv_idiv (pc := 95) C hz_35 dX6_edge_95 ?_
            obtain ⟨h_36, hF⟩ := hF
            obtain ⟨r_37, er_37⟩ : ∃ y : zRow, y = (upd (T_27 4) (Int32.toNatClampNeg a1) (a4 / v_30)) := ⟨_, rfl⟩
            replace hF := hF r_37 er_37
            refine zv_iast (pc := 96) (n := 2) (f := (T_27 4)) (ws' := (zd_X6_edge cI adM qM1 qM2 qM3 qM4 qM5 qM6 qM7 qM8 qM12 qM13 qM15 qM16 qM17 qM18 qM19 qM20 qM21 (zset (zset T_27 3 r_34) 4 r_37))) C 4 h_36 rfl (by rw [er_37]; rfl) dX6_edge_96 ?_
            exact zv_vret (pc := 97) C hr hlk (zset (zset T_27 3 r_34) 4 r_37) hF rfl dX6_edge_97
          · replace hF := And.right hF c_31
            refine zv_aload_n (pc := 52) C rfl 1 rfl dX6_edge_52 ?_
            refine zv_get (pc := 53) (CC := RX6) (T := TX6) (N := 22) (ci := 5) (v := .ref qM1) C zi_X6_edge_X6 0 rfl 1 (by decide) zf_X6_edge_7 rfl rfl dX6_edge_53 ?_
            refine zv_iload_n (pc := 56) C rfl 2 rfl dX6_edge_56 ?_
            refine zv_iload_n (pc := 57) C rfl 4 rfl dX6_edge_57 ?_
            refine zv_iload (pc := 58) C 0 rfl dX6_edge_58 ?_
            obtain ⟨hz_38, hF⟩ := hF
            refine zv_idiv (pc := 60) C hz_38 dX6_edge_60 ?_
            obtain ⟨h_39, hF⟩ := hF
            obtain ⟨r_40, er_40⟩ : ∃ y : zRow, y = (upd (T_27 1) (Int32.toNatClampNeg a1) (a3 / v_30)) := ⟨_, rfl⟩
            replace hF := hF r_40 er_40
            refine zv_iast (pc := 61) (n := 2) (f := (T_27 1)) (ws' := (zd_X6_edge cI adM qM1 qM2 qM3 qM4 qM5 qM6 qM7 qM8 qM12 qM13 qM15 qM16 qM17 qM18 qM19 qM20 qM21 (zset T_27 1 r_40))) C 1 h_39 rfl (by rw [er_40]; rfl) dX6_edge_61 ?_
            refine zv_aload_n (pc := 62) C rfl 1 rfl dX6_edge_62 ?_
            refine zv_get (pc := 63) (CC := RX6) (T := TX6) (N := 22) (ci := 5) (v := .ref qM2) C zi_X6_edge_X6 0 rfl 2 (by decide) zf_X6_edge_13 rfl rfl dX6_edge_63 ?_
            refine zv_iload_n (pc := 66) C rfl 2 rfl dX6_edge_66 ?_
            refine zv_iload (pc := 67) C 5 rfl dX6_edge_67 ?_
            refine zv_iload (pc := 69) C 0 rfl dX6_edge_69 ?_
            obtain ⟨hz_41, hF⟩ := hF
            refine zv_idiv (pc := 71) C hz_41 dX6_edge_71 ?_
            obtain ⟨h_42, hF⟩ := hF
            obtain ⟨r_43, er_43⟩ : ∃ y : zRow, y = (upd (T_27 2) (Int32.toNatClampNeg a1) (a4 / v_30)) := ⟨_, rfl⟩
            replace hF := hF r_43 er_43
            refine zv_iast (pc := 72) (n := 2) (f := (T_27 2)) (ws' := (zd_X6_edge cI adM qM1 qM2 qM3 qM4 qM5 qM6 qM7 qM8 qM12 qM13 qM15 qM16 qM17 qM18 qM19 qM20 qM21 (zset (zset T_27 1 r_40) 2 r_43))) C 2 h_42 rfl (by rw [er_43]; rfl) dX6_edge_72 ?_
            refine zv_goto (pc := 73) (tgt := 97) C dX6_edge_73 (by decide) ?_
            exact zv_vret (pc := 97) C hr hlk (zset (zset T_27 1 r_40) 2 r_43) hF rfl dX6_edge_97
        · replace hF := And.right hF c_29
          exact zv_vret (pc := 39) C hr hlk T_27 hF rfl dX6_edge_39
      · replace hF := And.right hF c_26
        refine zv_iload_n (pc := 18) C rfl 3 rfl dX6_edge_18 ?_
        refine zv_iload (pc := 19) C 4 rfl dX6_edge_19 ?_
        refine zv_ci0 (pc := 21) (ws' := (fun uz : Unit => (zd_X6_edge cI adM qM1 qM2 qM3 qM4 qM5 qM6 qM7 qM8 qM12 qM13 qM15 qM16 qM17 qM18 qM19 qM20 qM21 T_1))) C (zv_runS (As := [.int a3, .int a4]) (rest := [.ref adM]) C (zc_X6_isIndex l G cI a3 a4 _ hF) (va_cwS 2 C.2.2.2.2.1 gX6_edge_X6_isIndex rfl rfl rfl zy_X6_isIndex ⟨Nat.le_of_ble_eq_true rfl, Nat.le_of_ble_eq_true rfl⟩) rfl rfl (Nat.le_of_ble_eq_true rfl) ⟨Nat.zero_le _, Nat.zero_le _⟩ dX6_edge_21) [] [0, 1, 2, 3, 4, 5, 6, 7, 8, 9, 10, 11, 12, 13, 14, 15, 16, 17] rfl rfl rfl rfl rfl (fun _ => rfl) (fun _ => rfl) (fun _ => rfl) (fun v_44 uz hF => ?_)
        obtain ⟨KJ_47, h0KJ_47, hF⟩ := hF
        refine zv_join (α := Int32) (KK := fun uz => KJ_47 uz) (wsJ := fun uz => (zd_X6_edge cI adM qM1 qM2 qM3 qM4 qM5 qM6 qM7 qM8 qM12 qM13 qM15 qM16 qM17 qM18 qM19 qM20 qM21 T_1)) (pcJ := 32) (lvJ := fun uz => [(0, .ref adM), (1, .int a1), (2, .int a2), (3, .int a3), (4, .int a4)]) (stJ := fun uz => [.int uz, .ref adM]) ?_ (fun hKJ_47 => ?_)
        · rintro v_46 hF
          replace hF := h0KJ_47 v_46 hF
          refine zv_iconst (pc := 32) (v := 2) C (by decide) dX6_edge_32 ?_
          refine zv_ci0 (pc := 33) (ws' := (fun uz : zMem => (zd_X6_edge cI adM qM1 qM2 qM3 qM4 qM5 qM6 qM7 qM8 qM12 qM13 qM15 qM16 qM17 qM18 qM19 qM20 qM21 uz))) C (zv_runV (As := [.int v_46, .int (2 : Int32)]) (b := adM) (rest := []) (ci := 5) (q0 := 0) C (zc_X6_right l G cI adM qM1 qM2 qM3 qM4 qM5 qM6 qM7 qM8 qM12 qM13 qM15 qM16 qM17 qM18 qM19 qM20 qM21 T_1 v_46 (2 : Int32) _ hF) (cwV 2 C.2.2.2.2.1 gX6_edge_X6_right rfl rfl rfl zy_X6_right ⟨Nat.le_of_ble_eq_true rfl, Nat.le_of_ble_eq_true rfl⟩) rfl rfl rfl rfl rfl (Nat.le_of_ble_eq_true rfl) ⟨Nat.zero_le _, Nat.zero_le _⟩ dX6_edge_33) [0, 1, 2, 3, 4, 5, 6, 7, 8, 9, 10, 11, 12, 13, 14, 15, 16, 17] [] rfl rfl rfl rfl rfl (fun _ => rfl) (fun _ => rfl) (fun _ => rfl) (fun v_49 uz hF => ?_)
          obtain ⟨T_48, hE⟩ : ∃ z, z = uz := ⟨_, rfl⟩; subst hE
          refine zv_if_ne (pc := 36) (tgt := 40) C dX6_edge_36 (by decide) (fun c_50 => ?_) (fun c_50 => ?_)
          · replace hF := And.left hF c_50
            refine zv_iload_n (pc := 40) C rfl 3 rfl dX6_edge_40 ?_
            refine zv_iload (pc := 41) C 4 rfl dX6_edge_41 ?_
            refine zv_ci0 (pc := 43) (ws' := (fun uz : Unit => (zd_X6_edge cI adM qM1 qM2 qM3 qM4 qM5 qM6 qM7 qM8 qM12 qM13 qM15 qM16 qM17 qM18 qM19 qM20 qM21 T_48))) C (zv_runS (As := [.int a3, .int a4]) (rest := []) C (zc_X6_shared l G cI a3 a4 _ hF) (va_cwS 2 C.2.2.2.2.1 gX6_edge_X6_shared rfl rfl rfl zy_X6_shared ⟨Nat.le_of_ble_eq_true rfl, Nat.le_of_ble_eq_true rfl⟩) rfl rfl (Nat.le_of_ble_eq_true rfl) ⟨Nat.zero_le _, Nat.zero_le _⟩ dX6_edge_43) [] [0, 1, 2, 3, 4, 5, 6, 7, 8, 9, 10, 11, 12, 13, 14, 15, 16, 17] rfl rfl rfl rfl rfl (fun _ => rfl) (fun _ => rfl) (fun _ => rfl) (fun v_51 uz hF => ?_)
            refine zv_istore (pc := 46) (lv' := [(5, .int v_51), (0, .ref adM), (1, .int a1), (2, .int a2), (3, .int a3), (4, .int a4)]) C (by decide) rfl dX6_edge_46 ?_
            refine zv_iload_n (pc := 48) C rfl 3 rfl dX6_edge_48 ?_
            refine zv_if_ne (pc := 49) (tgt := 76) C dX6_edge_49 (by decide) (fun c_52 => ?_) (fun c_52 => ?_)
            · replace hF := And.left hF c_52
              refine zv_aload_n (pc := 76) C rfl 1 rfl dX6_edge_76 ?_
              refine zv_get (pc := 77) (CC := RX6) (T := TX6) (N := 22) (ci := 5) (v := .ref qM3) C zi_X6_edge_X6 0 rfl 3 (by decide) zf_X6_edge_16 rfl rfl dX6_edge_77 ?_
              refine zv_iload_n (pc := 80) C rfl 2 rfl dX6_edge_80 ?_
              refine zv_iload_n (pc := 81) C rfl 4 rfl dX6_edge_81 ?_
              refine zv_iload (pc := 82) C 0 rfl dX6_edge_82 ?_
              obtain ⟨hz_53, hF⟩ := hF
              refine zv_idiv (pc := 84) C hz_53 dX6_edge_84 ?_
              obtain ⟨h_54, hF⟩ := hF
              obtain ⟨r_55, er_55⟩ : ∃ y : zRow, y = (upd (T_48 3) (Int32.toNatClampNeg a1) (a3 / v_51)) := ⟨_, rfl⟩
              replace hF := hF r_55 er_55
              refine zv_iast (pc := 85) (n := 2) (f := (T_48 3)) (ws' := (zd_X6_edge cI adM qM1 qM2 qM3 qM4 qM5 qM6 qM7 qM8 qM12 qM13 qM15 qM16 qM17 qM18 qM19 qM20 qM21 (zset T_48 3 r_55))) C 3 h_54 rfl (by rw [er_55]; rfl) dX6_edge_85 ?_
              refine zv_aload_n (pc := 86) C rfl 1 rfl dX6_edge_86 ?_
              refine zv_get (pc := 87) (CC := RX6) (T := TX6) (N := 22) (ci := 5) (v := .ref qM4) C zi_X6_edge_X6 0 rfl 4 (by decide) zf_X6_edge_19 rfl rfl dX6_edge_87 ?_
              refine zv_iload_n (pc := 90) C rfl 2 rfl dX6_edge_90 ?_
              refine zv_iload (pc := 91) C 5 rfl dX6_edge_91 ?_
              refine zv_iload (pc := 93) C 0 rfl dX6_edge_93 ?_
              obtain ⟨hz_56, hF⟩ := hF
              refine zv_idiv (pc := 95) C hz_56 dX6_edge_95 ?_
              obtain ⟨h_57, hF⟩ := hF
              obtain ⟨r_58, er_58⟩ : ∃ y : zRow, y = (upd (T_48 4) (Int32.toNatClampNeg a1) (a4 / v_51)) := ⟨_, rfl⟩
              replace hF := hF r_58 er_58
              refine zv_iast (pc := 96) (n := 2) (f := (T_48 4)) (ws' := (zd_X6_edge cI adM qM1 qM2 qM3 qM4 qM5 qM6 qM7 qM8 qM12 qM13 qM15 qM16 qM17 qM18 qM19 qM20 qM21 (zset (zset T_48 3 r_55) 4 r_58))) C 4 h_57 rfl (by rw [er_58]; rfl) dX6_edge_96 ?_
              exact zv_vret (pc := 97) C hr hlk (zset (zset T_48 3 r_55) 4 r_58) hF rfl dX6_edge_97
            · replace hF := And.right hF c_52
              refine zv_aload_n (pc := 52) C rfl 1 rfl dX6_edge_52 ?_
              refine zv_get (pc := 53) (CC := RX6) (T := TX6) (N := 22) (ci := 5) (v := .ref qM1) C zi_X6_edge_X6 0 rfl 1 (by decide) zf_X6_edge_7 rfl rfl dX6_edge_53 ?_
              refine zv_iload_n (pc := 56) C rfl 2 rfl dX6_edge_56 ?_
              refine zv_iload_n (pc := 57) C rfl 4 rfl dX6_edge_57 ?_
              refine zv_iload (pc := 58) C 0 rfl dX6_edge_58 ?_
              obtain ⟨hz_59, hF⟩ := hF
              refine zv_idiv (pc := 60) C hz_59 dX6_edge_60 ?_
              obtain ⟨h_60, hF⟩ := hF
              obtain ⟨r_61, er_61⟩ : ∃ y : zRow, y = (upd (T_48 1) (Int32.toNatClampNeg a1) (a3 / v_51)) := ⟨_, rfl⟩
              replace hF := hF r_61 er_61
              refine zv_iast (pc := 61) (n := 2) (f := (T_48 1)) (ws' := (zd_X6_edge cI adM qM1 qM2 qM3 qM4 qM5 qM6 qM7 qM8 qM12 qM13 qM15 qM16 qM17 qM18 qM19 qM20 qM21 (zset T_48 1 r_61))) C 1 h_60 rfl (by rw [er_61]; rfl) dX6_edge_61 ?_
              refine zv_aload_n (pc := 62) C rfl 1 rfl dX6_edge_62 ?_
              refine zv_get (pc := 63) (CC := RX6) (T := TX6) (N := 22) (ci := 5) (v := .ref qM2) C zi_X6_edge_X6 0 rfl 2 (by decide) zf_X6_edge_13 rfl rfl dX6_edge_63 ?_
              refine zv_iload_n (pc := 66) C rfl 2 rfl dX6_edge_66 ?_
              refine zv_iload (pc := 67) C 5 rfl dX6_edge_67 ?_
              refine zv_iload (pc := 69) C 0 rfl dX6_edge_69 ?_
              obtain ⟨hz_62, hF⟩ := hF
              refine zv_idiv (pc := 71) C hz_62 dX6_edge_71 ?_
              obtain ⟨h_63, hF⟩ := hF
              obtain ⟨r_64, er_64⟩ : ∃ y : zRow, y = (upd (T_48 2) (Int32.toNatClampNeg a1) (a4 / v_51)) := ⟨_, rfl⟩
              replace hF := hF r_64 er_64
              refine zv_iast (pc := 72) (n := 2) (f := (T_48 2)) (ws' := (zd_X6_edge cI adM qM1 qM2 qM3 qM4 qM5 qM6 qM7 qM8 qM12 qM13 qM15 qM16 qM17 qM18 qM19 qM20 qM21 (zset (zset T_48 1 r_61) 2 r_64))) C 2 h_63 rfl (by rw [er_64]; rfl) dX6_edge_72 ?_
              refine zv_goto (pc := 73) (tgt := 97) C dX6_edge_73 (by decide) ?_
              exact zv_vret (pc := 97) C hr hlk (zset (zset T_48 1 r_61) 2 r_64) hF rfl dX6_edge_97
          · replace hF := And.right hF c_50
            exact zv_vret (pc := 39) C hr hlk T_48 hF rfl dX6_edge_39
        · skip
          refine zv_if_eq (pc := 24) (tgt := 31) C dX6_edge_24 (by decide) (fun c_45 => ?_) (fun c_45 => ?_)
          · replace hF := And.left hF c_45
            refine zv_iconst (pc := 31) (v := 0) C (by decide) dX6_edge_31 ?_
            exact zv_lvs [0, 1, 2, 3, 4] rfl (hKJ_47 (0 : Int32) hF)
          · replace hF := And.right hF c_45
            refine zv_iconst (pc := 27) (v := 1) C (by decide) dX6_edge_27 ?_
            refine zv_goto (pc := 28) (tgt := 32) C dX6_edge_28 (by decide) ?_
            exact zv_lvs [0, 1, 2, 3, 4] rfl (hKJ_47 (1 : Int32) hF)
theorem zf_X6_layer_22 : Cond.fieldLink RX6 22 "GlassStackModel" "many" "[I" ∈ wsX6_layer := (List.mem_of_getElem? (i := 1) rfl)
theorem zf_X6_layer_25 : Cond.fieldLink RX6 25 "GlassStackModel" "up" "[I" ∈ wsX6_layer := (List.mem_of_getElem? (i := 2) rfl)
theorem zf_X6_layer_28 : Cond.fieldLink RX6 28 "GlassStackModel" "low" "[I" ∈ wsX6_layer := (List.mem_of_getElem? (i := 3) rfl)
theorem zf_X6_layer_31 : Cond.fieldLink RX6 31 "GlassStackModel" "wide" "[I" ∈ wsX6_layer := (List.mem_of_getElem? (i := 4) rfl)
theorem zi_X6_layer_X6 : ∀ w ∈ wsX60, w ∈ wsX6_layer := fun w h => List.mem_cons_of_mem _ (List.mem_append_right _ h)
theorem zy_X6_layer : yX6_layer.cls = RX6 ∧ yX6_layer.cls ≠ "java/lang/invoke/MethodHandle" ∧ yX6_layer.cls ≠ "java/lang/invoke/VarHandle" ∧ (parseMethodDescriptor yX6_layer.desc).map (fun d => d.parameters.length) = some 5 := by decide +kernel
set_option maxHeartbeats 4000000 in
set_option maxRecDepth 100000 in
theorem zl_X6_layer_84 {p : Program} {l : Launch} {e : Env} {s : State} {m : MethodId} {args : Array Value} {below : List Frame} {meth : Method} {c : Code} {G : va_G} {cI : ClassId} {A : Nat → Prop} {Q : State → Prop} (adM qM1 qM2 qM3 qM4 qM5 qM6 qM7 qM8 qM12 qM13 qM15 qM16 qM17 qM18 qM19 qM20 qM21 : Nat) (c1 : Int32) (c2 : Int32) (c3 : Int32) (c4 : Int32) (c5 : Int32) (K149 : zMem → Prop) (C : zv_C p s m args c cX6_layer 7 RX6 wsX6_layer G cI A) (hK149 : ∀ (M : zMem), K149 M → zv_V p l e (headSpec wsX6_layer rmX6_layer).room s m args below meth c Q G A 7 0 0 (zd_X6_layer cI adM qM1 qM2 qM3 qM4 qM5 qM6 qM7 qM8 qM12 qM13 qM15 qM16 qM17 qM18 qM19 qM20 qM21 M) 149 [(0, .ref adM), (1, .int c1), (2, .int c2), (3, .int c3), (4, .int c4), (5, .int c5)] []) : ∀ (k : Nat) (p6 : Int32) (M : zMem), zw_X6_layer_84 c1 c2 c3 c4 c5 K149 k p6 M → zv_V p l e (headSpec wsX6_layer rmX6_layer).room s m args below meth c Q G A 7 0 0 (zd_X6_layer cI adM qM1 qM2 qM3 qM4 qM5 qM6 qM7 qM8 qM12 qM13 qM15 qM16 qM17 qM18 qM19 qM20 qM21 M) 84 [(0, .ref adM), (1, .int c1), (2, .int c2), (3, .int c3), (4, .int c4), (5, .int c5), (6, .int p6)] [] := by
  intro k
  induction k with
  | zero => intro p6 M hF; exact (show False from hF).elim
  | succ k ih =>
    intro p6 M hF
    refine zv_iload (pc := 84) C 6 rfl dX6_layer_84 ?_
    refine zv_bipush (pc := 86) (v := 6) C (by decide) dX6_layer_86 ?_
    refine zv_iload_n (pc := 88) C rfl 1 rfl dX6_layer_88 ?_
    refine zv_imul (pc := 89) C  dX6_layer_89 ?_
    refine zv_iload_n (pc := 90) C rfl 2 rfl dX6_layer_90 ?_
    refine zv_iadd (pc := 91) C  dX6_layer_91 ?_
    refine zv_icmp_le (pc := 92) (tgt := 149) C dX6_layer_92 (by decide) (fun c_13 => ?_) (fun c_13 => ?_)
    · replace hF := And.left hF c_13
      exact zv_lvs [0, 1, 2, 3, 4, 5] rfl (hK149 M hF)
    · replace hF := And.right hF c_13
      refine zv_aload_n (pc := 95) C rfl 0 rfl dX6_layer_95 ?_
      refine zv_get (pc := 96) (CC := RX6) (T := TX6) (N := 22) (ci := 5) (v := .ref qM6) C zi_X6_layer_X6 0 rfl 6 (by decide) zf_X6_layer_25 rfl rfl dX6_layer_96 ?_
      refine zv_iload (pc := 99) C 6 rfl dX6_layer_99 ?_
      refine zv_aload_n (pc := 101) C rfl 0 rfl dX6_layer_101 ?_
      refine zv_get (pc := 102) (CC := RX6) (T := TX6) (N := 22) (ci := 5) (v := .ref qM6) C zi_X6_layer_X6 0 rfl 6 (by decide) zf_X6_layer_25 rfl rfl dX6_layer_102 ?_
      refine zv_iload (pc := 105) C 6 rfl dX6_layer_105 ?_
      refine zv_iconst (pc := 107) (v := 1) C (by decide) dX6_layer_107 ?_
      refine zv_isub (pc := 108) C  dX6_layer_108 ?_
      obtain ⟨h_14, hF⟩ := hF
      refine zv_iald (pc := 109) (n := 12) (f := (M 6)) C 6 h_14 rfl dX6_layer_109 ?_
      obtain ⟨h_15, hF⟩ := hF
      obtain ⟨r_16, er_16⟩ : ∃ y : zRow, y = (upd (M 6) (Int32.toNatClampNeg p6) ((M 6) (Int32.toNatClampNeg (p6 - (1 : Int32))))) := ⟨_, rfl⟩
      replace hF := hF r_16 er_16
      refine zv_iast (pc := 110) (n := 12) (f := (M 6)) (ws' := (zd_X6_layer cI adM qM1 qM2 qM3 qM4 qM5 qM6 qM7 qM8 qM12 qM13 qM15 qM16 qM17 qM18 qM19 qM20 qM21 (zset M 6 r_16))) C 6 h_15 rfl (by rw [er_16]; rfl) dX6_layer_110 ?_
      refine zv_aload_n (pc := 111) C rfl 0 rfl dX6_layer_111 ?_
      refine zv_get (pc := 112) (CC := RX6) (T := TX6) (N := 22) (ci := 5) (v := .ref qM7) C zi_X6_layer_X6 0 rfl 7 (by decide) zf_X6_layer_28 rfl rfl dX6_layer_112 ?_
      refine zv_iload (pc := 115) C 6 rfl dX6_layer_115 ?_
      refine zv_aload_n (pc := 117) C rfl 0 rfl dX6_layer_117 ?_
      refine zv_get (pc := 118) (CC := RX6) (T := TX6) (N := 22) (ci := 5) (v := .ref qM7) C zi_X6_layer_X6 0 rfl 7 (by decide) zf_X6_layer_28 rfl rfl dX6_layer_118 ?_
      refine zv_iload (pc := 121) C 6 rfl dX6_layer_121 ?_
      refine zv_iconst (pc := 123) (v := 1) C (by decide) dX6_layer_123 ?_
      refine zv_isub (pc := 124) C  dX6_layer_124 ?_
      obtain ⟨h_17, hF⟩ := hF
      refine zv_iald (pc := 125) (n := 12) (f := (M 7)) C 7 h_17 rfl dX6_layer_125 ?_
      obtain ⟨h_18, hF⟩ := hF
      obtain ⟨r_19, er_19⟩ : ∃ y : zRow, y = (upd (M 7) (Int32.toNatClampNeg p6) ((M 7) (Int32.toNatClampNeg (p6 - (1 : Int32))))) := ⟨_, rfl⟩
      replace hF := hF r_19 er_19
      refine zv_iast (pc := 126) (n := 12) (f := (M 7)) (ws' := (zd_X6_layer cI adM qM1 qM2 qM3 qM4 qM5 qM6 qM7 qM8 qM12 qM13 qM15 qM16 qM17 qM18 qM19 qM20 qM21 (zset (zset M 6 r_16) 7 r_19))) C 7 h_18 rfl (by rw [er_19]; rfl) dX6_layer_126 ?_
      refine zv_aload_n (pc := 127) C rfl 0 rfl dX6_layer_127 ?_
      refine zv_get (pc := 128) (CC := RX6) (T := TX6) (N := 22) (ci := 5) (v := .ref qM8) C zi_X6_layer_X6 0 rfl 8 (by decide) zf_X6_layer_31 rfl rfl dX6_layer_128 ?_
      refine zv_iload (pc := 131) C 6 rfl dX6_layer_131 ?_
      refine zv_aload_n (pc := 133) C rfl 0 rfl dX6_layer_133 ?_
      refine zv_get (pc := 134) (CC := RX6) (T := TX6) (N := 22) (ci := 5) (v := .ref qM8) C zi_X6_layer_X6 0 rfl 8 (by decide) zf_X6_layer_31 rfl rfl dX6_layer_134 ?_
      refine zv_iload (pc := 137) C 6 rfl dX6_layer_137 ?_
      refine zv_iconst (pc := 139) (v := 1) C (by decide) dX6_layer_139 ?_
      refine zv_isub (pc := 140) C  dX6_layer_140 ?_
      obtain ⟨h_20, hF⟩ := hF
      refine zv_iald (pc := 141) (n := 12) (f := (M 8)) C 8 h_20 rfl dX6_layer_141 ?_
      obtain ⟨h_21, hF⟩ := hF
      obtain ⟨r_22, er_22⟩ : ∃ y : zRow, y = (upd (M 8) (Int32.toNatClampNeg p6) ((M 8) (Int32.toNatClampNeg (p6 - (1 : Int32))))) := ⟨_, rfl⟩
      replace hF := hF r_22 er_22
      refine zv_iast (pc := 142) (n := 12) (f := (M 8)) (ws' := (zd_X6_layer cI adM qM1 qM2 qM3 qM4 qM5 qM6 qM7 qM8 qM12 qM13 qM15 qM16 qM17 qM18 qM19 qM20 qM21 (zset (zset (zset M 6 r_16) 7 r_19) 8 r_22))) C 8 h_21 rfl (by rw [er_22]; rfl) dX6_layer_142 ?_
      obtain ⟨x6_23, ex6_23⟩ : ∃ y : Int32, y = p6 + (-1 : Int32) := ⟨_, rfl⟩
      replace hF := hF x6_23 ex6_23
      refine zv_iinc (pc := 143) (v := x6_23) (lv' := [(6, .int x6_23), (0, .ref adM), (1, .int c1), (2, .int c2), (3, .int c3), (4, .int c4), (5, .int c5)]) C 6 rfl (by rw [ex6_23]; rfl) (by decide) rfl dX6_layer_143 ?_
      refine zv_goto (pc := 146) (tgt := 84) C dX6_layer_146 (by decide) ?_
      exact zv_lvs [1, 2, 3, 4, 5, 6, 0] rfl (ih x6_23 (zset (zset (zset M 6 r_16) 7 r_19) 8 r_22) hF)
set_option maxHeartbeats 4000000 in
set_option maxRecDepth 100000 in
theorem zc_X6_layer (l : Launch) (G : va_G) (cI : ClassId) (adM qM1 qM2 qM3 qM4 qM5 qM6 qM7 qM8 qM12 qM13 qM15 qM16 qM17 qM18 qM19 qM20 qM21 : Nat) (M : zMem) (a1 : Int32) (a2 : Int32) (a3 : Int32) (a4 : Int32) (a5 : Int32) (post : Int32 → zMem → Prop) (hF : zw_X6_layer M a1 a2 a3 a4 a5 post) (sz : Nat) : Met l yX6_layer wsX6_layer rmX6_layer (va_Pc [.ref adM, .int a1, .int a2, .int a3, .int a4, .int a5] (zv_in G cI (zd_X6_layer cI adM qM1 qM2 qM3 qM4 qM5 qM6 qM7 qM8 qM12 qM13 qM15 qM16 qM17 qM18 qM19 qM20 qM21 M) sz)) (va_Qi (fun (rz : Int32) (uz : zMem) => post rz uz) (fun (uz : zMem) t => zv_out G cI (va_A (zd_X6_layer cI adM qM1 qM2 qM3 qM4 qM5 qM6 qM7 qM8 qM12 qM13 qM15 qM16 qM17 qM18 qM19 qM20 qM21 M) sz) (zd_X6_layer cI adM qM1 qM2 qM3 qM4 qM5 qM6 qM7 qM8 qM12 qM13 qM15 qM16 qM17 qM18 qM19 qM20 qM21 uz) t) (va_A (zd_X6_layer cI adM qM1 qM2 qM3 qM4 qM5 qM6 qM7 qM8 qM12 qM13 qM15 qM16 qM17 qM18 qM19 qM20 qM21 M) sz)) 0 0 (va_A (zd_X6_layer cI adM qM1 qM2 qM3 qM4 qM5 qM6 qM7 qM8 qM12 qM13 qM15 qM16 qM17 qM18 qM19 qM20 qM21 M) sz) := by
  refine zv_met (cc := cX6_layer) (maxL := 7) (ret := (some .int)) (lv0 := [(0, .ref adM), (1, .int a1), (2, .int a2), (3, .int a3), (4, .int a4), (5, .int a5)]) (Qc := fun A => va_Qi (fun (rz : Int32) (uz : zMem) => post rz uz) (fun (uz : zMem) t => zv_out G cI A (zd_X6_layer cI adM qM1 qM2 qM3 qM4 qM5 qM6 qM7 qM8 qM12 qM13 qM15 qM16 qM17 qM18 qM19 qM20 qM21 uz) t) A) (by decide) rfl (Nat.le_of_ble_eq_true rfl) rfl ?_ sz
  intro p e s m below meth c A C hr hlk
  clear sz
  refine zv_aload_n (pc := 0) C rfl 0 rfl dX6_layer_0 ?_
  refine zv_iload_n (pc := 1) C rfl 1 rfl dX6_layer_1 ?_
  refine zv_ci0 (pc := 2) (ws' := (fun uz : zMem => (zd_X6_layer cI adM qM1 qM2 qM3 qM4 qM5 qM6 qM7 qM8 qM12 qM13 qM15 qM16 qM17 qM18 qM19 qM20 qM21 uz))) C (zv_runV (As := [.int a1]) (b := adM) (rest := []) (ci := 5) (q0 := 0) C (zc_X6_isStack l G cI adM qM1 qM2 qM3 qM4 qM5 qM6 qM7 qM8 qM12 qM13 qM15 qM16 qM17 qM18 qM19 qM20 qM21 M a1 _ hF) (cwV 1 C.2.2.2.2.1 gX6_layer_X6_isStack rfl rfl rfl zy_X6_isStack ⟨Nat.le_of_ble_eq_true rfl, Nat.le_of_ble_eq_true rfl⟩) rfl rfl rfl rfl rfl (Nat.le_of_ble_eq_true rfl) ⟨Nat.zero_le _, Nat.zero_le _⟩ dX6_layer_2) [0, 1, 2, 3, 4, 5, 6, 7, 8, 9, 10, 11, 12, 13, 14, 15, 16, 17] [] rfl rfl rfl rfl rfl (fun _ => rfl) (fun _ => rfl) (fun _ => rfl) (fun v_2 uz hF => ?_)
  obtain ⟨T_1, hE⟩ : ∃ z, z = uz := ⟨_, rfl⟩; subst hE
  refine zv_if_eq (pc := 5) (tgt := 56) C dX6_layer_5 (by decide) (fun c_3 => ?_) (fun c_3 => ?_)
  · replace hF := And.left hF c_3
    refine zv_iconst (pc := 56) (v := 0) C (by decide) dX6_layer_56 ?_
    exact zv_iret (pc := 57) C hr hlk (0 : Int32) T_1 hF rfl dX6_layer_57
  · replace hF := And.right hF c_3
    refine zv_aload_n (pc := 8) C rfl 0 rfl dX6_layer_8 ?_
    refine zv_iload_n (pc := 9) C rfl 3 rfl dX6_layer_9 ?_
    refine zv_iload (pc := 10) C 4 rfl dX6_layer_10 ?_
    refine zv_ci0 (pc := 12) (ws' := (fun uz : Unit => (zd_X6_layer cI adM qM1 qM2 qM3 qM4 qM5 qM6 qM7 qM8 qM12 qM13 qM15 qM16 qM17 qM18 qM19 qM20 qM21 T_1))) C (zv_runS (As := [.int a3, .int a4]) (rest := [.ref adM]) C (zc_X6_isIndex l G cI a3 a4 _ hF) (va_cwS 2 C.2.2.2.2.1 gX6_layer_X6_isIndex rfl rfl rfl zy_X6_isIndex ⟨Nat.le_of_ble_eq_true rfl, Nat.le_of_ble_eq_true rfl⟩) rfl rfl (Nat.le_of_ble_eq_true rfl) ⟨Nat.zero_le _, Nat.zero_le _⟩ dX6_layer_12) [] [0, 1, 2, 3, 4, 5, 6, 7, 8, 9, 10, 11, 12, 13, 14, 15, 16, 17] rfl rfl rfl rfl rfl (fun _ => rfl) (fun _ => rfl) (fun _ => rfl) (fun v_4 uz hF => ?_)
    refine zv_if_eq (pc := 15) (tgt := 48) C dX6_layer_15 (by decide) (fun c_5 => ?_) (fun c_5 => ?_)
    · replace hF := And.left hF c_5
      refine zv_iconst (pc := 48) (v := 0) C (by decide) dX6_layer_48 ?_
      refine zv_iconst (pc := 49) (v := 2) C (by decide) dX6_layer_49 ?_
      refine zv_ci0 (pc := 50) (ws' := (fun uz : zMem => (zd_X6_layer cI adM qM1 qM2 qM3 qM4 qM5 qM6 qM7 qM8 qM12 qM13 qM15 qM16 qM17 qM18 qM19 qM20 qM21 uz))) C (zv_runV (As := [.int (0 : Int32), .int (2 : Int32)]) (b := adM) (rest := []) (ci := 5) (q0 := 0) C (zc_X6_right l G cI adM qM1 qM2 qM3 qM4 qM5 qM6 qM7 qM8 qM12 qM13 qM15 qM16 qM17 qM18 qM19 qM20 qM21 T_1 (0 : Int32) (2 : Int32) _ hF) (cwV 2 C.2.2.2.2.1 gX6_layer_X6_right rfl rfl rfl zy_X6_right ⟨Nat.le_of_ble_eq_true rfl, Nat.le_of_ble_eq_true rfl⟩) rfl rfl rfl rfl rfl (Nat.le_of_ble_eq_true rfl) ⟨Nat.zero_le _, Nat.zero_le _⟩ dX6_layer_50) [0, 1, 2, 3, 4, 5, 6, 7, 8, 9, 10, 11, 12, 13, 14, 15, 16, 17] [] rfl rfl rfl rfl rfl (fun _ => rfl) (fun _ => rfl) (fun _ => rfl) (fun v_7 uz hF => ?_)
      obtain ⟨T_6, hE⟩ : ∃ z, z = uz := ⟨_, rfl⟩; subst hE
      refine zv_if_ne (pc := 53) (tgt := 58) C dX6_layer_53 (by decide) (fun c_8 => ?_) (fun c_8 => ?_)
      · replace hF := And.left hF c_8
        refine zv_aload_n (pc := 58) C rfl 0 rfl dX6_layer_58 ?_
        refine zv_get (pc := 59) (CC := RX6) (T := TX6) (N := 22) (ci := 5) (v := .ref qM5) C zi_X6_layer_X6 0 rfl 5 (by decide) zf_X6_layer_22 rfl rfl dX6_layer_59 ?_
        refine zv_iload_n (pc := 62) C rfl 1 rfl dX6_layer_62 ?_
        obtain ⟨h_9, hF⟩ := hF
        refine zv_iald (pc := 63) (n := 2) (f := (T_6 5)) C 5 h_9 rfl dX6_layer_63 ?_
        refine zv_bipush (pc := 64) (v := 6) C (by decide) dX6_layer_64 ?_
        refine zv_icmp_ne (pc := 66) (tgt := 71) C dX6_layer_66 (by decide) (fun c_10 => ?_) (fun c_10 => ?_)
        · replace hF := And.left hF c_10
          refine zv_bipush (pc := 71) (v := 6) C (by decide) dX6_layer_71 ?_
          refine zv_iload_n (pc := 73) C rfl 1 rfl dX6_layer_73 ?_
          refine zv_imul (pc := 74) C  dX6_layer_74 ?_
          refine zv_aload_n (pc := 75) C rfl 0 rfl dX6_layer_75 ?_
          refine zv_get (pc := 76) (CC := RX6) (T := TX6) (N := 22) (ci := 5) (v := .ref qM5) C zi_X6_layer_X6 0 rfl 5 (by decide) zf_X6_layer_22 rfl rfl dX6_layer_76 ?_
          refine zv_iload_n (pc := 79) C rfl 1 rfl dX6_layer_79 ?_
          obtain ⟨h_11, hF⟩ := hF
          refine zv_iald (pc := 80) (n := 2) (f := (T_6 5)) C 5 h_11 rfl dX6_layer_80 ?_
          refine zv_iadd (pc := 81) C  dX6_layer_81 ?_
          refine zv_topi (fun x6_12 ex6_12 => ?_)
          replace hF := hF x6_12 ex6_12
          refine zv_istore (pc := 82) (lv' := [(6, .int x6_12), (0, .ref adM), (1, .int a1), (2, .int a2), (3, .int a3), (4, .int a4), (5, .int a5)]) C (by decide) rfl dX6_layer_82 ?_
          obtain ⟨kf, hF⟩ := hF
          refine zv_lvs [1, 2, 3, 4, 5, 6, 0] rfl (zl_X6_layer_84 adM qM1 qM2 qM3 qM4 qM5 qM6 qM7 qM8 qM12 qM13 qM15 qM16 qM17 qM18 qM19 qM20 qM21 a1 a2 a3 a4 a5 _ C ?_ kf x6_12 T_6 hF)
          · intro T_24 hF
            refine zv_iload_n (pc := 149) C rfl 3 rfl dX6_layer_149 ?_
            refine zv_iload (pc := 150) C 4 rfl dX6_layer_150 ?_
            refine zv_ci0 (pc := 152) (ws' := (fun uz : Unit => (zd_X6_layer cI adM qM1 qM2 qM3 qM4 qM5 qM6 qM7 qM8 qM12 qM13 qM15 qM16 qM17 qM18 qM19 qM20 qM21 T_24))) C (zv_runS (As := [.int a3, .int a4]) (rest := []) C (zc_X6_shared l G cI a3 a4 _ hF) (va_cwS 2 C.2.2.2.2.1 gX6_layer_X6_shared rfl rfl rfl zy_X6_shared ⟨Nat.le_of_ble_eq_true rfl, Nat.le_of_ble_eq_true rfl⟩) rfl rfl (Nat.le_of_ble_eq_true rfl) ⟨Nat.zero_le _, Nat.zero_le _⟩ dX6_layer_152) [] [0, 1, 2, 3, 4, 5, 6, 7, 8, 9, 10, 11, 12, 13, 14, 15, 16, 17] rfl rfl rfl rfl rfl (fun _ => rfl) (fun _ => rfl) (fun _ => rfl) (fun v_25 uz hF => ?_)
            refine zv_istore (pc := 155) (lv' := [(6, .int v_25), (0, .ref adM), (1, .int a1), (2, .int a2), (3, .int a3), (4, .int a4), (5, .int a5)]) C (by decide) rfl dX6_layer_155 ?_
            refine zv_aload_n (pc := 157) C rfl 1 rfl dX6_layer_157 ?_
            refine zv_get (pc := 158) (CC := RX6) (T := TX6) (N := 22) (ci := 5) (v := .ref qM6) C zi_X6_layer_X6 0 rfl 6 (by decide) zf_X6_layer_25 rfl rfl dX6_layer_158 ?_
            refine zv_bipush (pc := 161) (v := 6) C (by decide) dX6_layer_161 ?_
            refine zv_iload_n (pc := 163) C rfl 2 rfl dX6_layer_163 ?_
            refine zv_imul (pc := 164) C  dX6_layer_164 ?_
            refine zv_iload_n (pc := 165) C rfl 3 rfl dX6_layer_165 ?_
            refine zv_iadd (pc := 166) C  dX6_layer_166 ?_
            refine zv_iload_n (pc := 167) C rfl 4 rfl dX6_layer_167 ?_
            refine zv_iload (pc := 168) C 0 rfl dX6_layer_168 ?_
            obtain ⟨hz_26, hF⟩ := hF
            refine zv_idiv (pc := 170) C hz_26 dX6_layer_170 ?_
            obtain ⟨h_27, hF⟩ := hF
            obtain ⟨r_28, er_28⟩ : ∃ y : zRow, y = (upd (T_24 6) (Int32.toNatClampNeg (((6 : Int32) * a1) + a2)) (a3 / v_25)) := ⟨_, rfl⟩
            replace hF := hF r_28 er_28
            refine zv_iast (pc := 171) (n := 12) (f := (T_24 6)) (ws' := (zd_X6_layer cI adM qM1 qM2 qM3 qM4 qM5 qM6 qM7 qM8 qM12 qM13 qM15 qM16 qM17 qM18 qM19 qM20 qM21 (zset T_24 6 r_28))) C 6 h_27 rfl (by rw [er_28]; rfl) dX6_layer_171 ?_
            refine zv_aload_n (pc := 172) C rfl 1 rfl dX6_layer_172 ?_
            refine zv_get (pc := 173) (CC := RX6) (T := TX6) (N := 22) (ci := 5) (v := .ref qM7) C zi_X6_layer_X6 0 rfl 7 (by decide) zf_X6_layer_28 rfl rfl dX6_layer_173 ?_
            refine zv_bipush (pc := 176) (v := 6) C (by decide) dX6_layer_176 ?_
            refine zv_iload_n (pc := 178) C rfl 2 rfl dX6_layer_178 ?_
            refine zv_imul (pc := 179) C  dX6_layer_179 ?_
            refine zv_iload_n (pc := 180) C rfl 3 rfl dX6_layer_180 ?_
            refine zv_iadd (pc := 181) C  dX6_layer_181 ?_
            refine zv_iload (pc := 182) C 5 rfl dX6_layer_182 ?_
            refine zv_iload (pc := 184) C 0 rfl dX6_layer_184 ?_
            obtain ⟨hz_29, hF⟩ := hF
            refine zv_idiv (pc := 186) C hz_29 dX6_layer_186 ?_
            obtain ⟨h_30, hF⟩ := hF
            obtain ⟨r_31, er_31⟩ : ∃ y : zRow, y = (upd (T_24 7) (Int32.toNatClampNeg (((6 : Int32) * a1) + a2)) (a4 / v_25)) := ⟨_, rfl⟩
            replace hF := hF r_31 er_31
            refine zv_iast (pc := 187) (n := 12) (f := (T_24 7)) (ws' := (zd_X6_layer cI adM qM1 qM2 qM3 qM4 qM5 qM6 qM7 qM8 qM12 qM13 qM15 qM16 qM17 qM18 qM19 qM20 qM21 (zset (zset T_24 6 r_28) 7 r_31))) C 7 h_30 rfl (by rw [er_31]; rfl) dX6_layer_187 ?_
            refine zv_aload_n (pc := 188) C rfl 1 rfl dX6_layer_188 ?_
            refine zv_get (pc := 189) (CC := RX6) (T := TX6) (N := 22) (ci := 5) (v := .ref qM8) C zi_X6_layer_X6 0 rfl 8 (by decide) zf_X6_layer_31 rfl rfl dX6_layer_189 ?_
            refine zv_bipush (pc := 192) (v := 6) C (by decide) dX6_layer_192 ?_
            refine zv_iload_n (pc := 194) C rfl 2 rfl dX6_layer_194 ?_
            refine zv_imul (pc := 195) C  dX6_layer_195 ?_
            refine zv_iload_n (pc := 196) C rfl 3 rfl dX6_layer_196 ?_
            refine zv_iadd (pc := 197) C  dX6_layer_197 ?_
            refine zv_iload (pc := 198) C 6 rfl dX6_layer_198 ?_
            obtain ⟨h_32, hF⟩ := hF
            obtain ⟨r_33, er_33⟩ : ∃ y : zRow, y = (upd (T_24 8) (Int32.toNatClampNeg (((6 : Int32) * a1) + a2)) a5) := ⟨_, rfl⟩
            replace hF := hF r_33 er_33
            refine zv_iast (pc := 200) (n := 12) (f := (T_24 8)) (ws' := (zd_X6_layer cI adM qM1 qM2 qM3 qM4 qM5 qM6 qM7 qM8 qM12 qM13 qM15 qM16 qM17 qM18 qM19 qM20 qM21 (zset (zset (zset T_24 6 r_28) 7 r_31) 8 r_33))) C 8 h_32 rfl (by rw [er_33]; rfl) dX6_layer_200 ?_
            refine zv_aload_n (pc := 201) C rfl 1 rfl dX6_layer_201 ?_
            refine zv_get (pc := 202) (CC := RX6) (T := TX6) (N := 22) (ci := 5) (v := .ref qM5) C zi_X6_layer_X6 0 rfl 5 (by decide) zf_X6_layer_22 rfl rfl dX6_layer_202 ?_
            refine zv_iload_n (pc := 205) C rfl 2 rfl dX6_layer_205 ?_
            refine zv_dup2 (pc := 206) C rfl rfl dX6_layer_206 ?_
            obtain ⟨h_34, hF⟩ := hF
            refine zv_iald (pc := 207) (n := 2) (f := (T_24 5)) C 5 h_34 rfl dX6_layer_207 ?_
            refine zv_iconst (pc := 208) (v := 1) C (by decide) dX6_layer_208 ?_
            refine zv_iadd (pc := 209) C  dX6_layer_209 ?_
            obtain ⟨h_35, hF⟩ := hF
            obtain ⟨r_36, er_36⟩ : ∃ y : zRow, y = (upd (T_24 5) (Int32.toNatClampNeg a1) (((T_24 5) (Int32.toNatClampNeg a1)) + (1 : Int32))) := ⟨_, rfl⟩
            replace hF := hF r_36 er_36
            refine zv_iast (pc := 210) (n := 2) (f := (T_24 5)) (ws' := (zd_X6_layer cI adM qM1 qM2 qM3 qM4 qM5 qM6 qM7 qM8 qM12 qM13 qM15 qM16 qM17 qM18 qM19 qM20 qM21 (zset (zset (zset (zset T_24 5 r_36) 6 r_28) 7 r_31) 8 r_33))) C 5 h_35 rfl (by rw [er_36]; rfl) dX6_layer_210 ?_
            refine zv_aload_n (pc := 211) C rfl 1 rfl dX6_layer_211 ?_
            refine zv_get (pc := 212) (CC := RX6) (T := TX6) (N := 22) (ci := 5) (v := .ref qM5) C zi_X6_layer_X6 0 rfl 5 (by decide) zf_X6_layer_22 rfl rfl dX6_layer_212 ?_
            refine zv_iload_n (pc := 215) C rfl 2 rfl dX6_layer_215 ?_
            obtain ⟨h_37, hF⟩ := hF
            refine zv_iald (pc := 216) (n := 2) (f := r_36) C 5 h_37 rfl dX6_layer_216 ?_
            exact zv_iret (pc := 217) C hr hlk (r_36 (Int32.toNatClampNeg a1)) (zset (zset (zset (zset T_24 5 r_36) 6 r_28) 7 r_31) 8 r_33) hF rfl dX6_layer_217
        · replace hF := And.right hF c_10
          refine zv_iconst (pc := 69) (v := -1) C (by decide) dX6_layer_69 ?_
          exact zv_iret (pc := 70) C hr hlk (-1 : Int32) T_6 hF rfl dX6_layer_70
      · replace hF := And.right hF c_8
        refine zv_iconst (pc := 56) (v := 0) C (by decide) dX6_layer_56 ?_
        exact zv_iret (pc := 57) C hr hlk (0 : Int32) T_6 hF rfl dX6_layer_57
    · replace hF := And.right hF c_5
      refine zv_iload (pc := 18) C 5 rfl dX6_layer_18 ?_
      refine zv_iconst (pc := 20) (v := 1) C (by decide) dX6_layer_20 ?_
      refine zv_icmp_lt (pc := 21) (tgt := 48) C dX6_layer_21 (by decide) (fun c_38 => ?_) (fun c_38 => ?_)
      · replace hF := And.left hF c_38
        refine zv_iconst (pc := 48) (v := 0) C (by decide) dX6_layer_48 ?_
        refine zv_iconst (pc := 49) (v := 2) C (by decide) dX6_layer_49 ?_
        refine zv_ci0 (pc := 50) (ws' := (fun uz : zMem => (zd_X6_layer cI adM qM1 qM2 qM3 qM4 qM5 qM6 qM7 qM8 qM12 qM13 qM15 qM16 qM17 qM18 qM19 qM20 qM21 uz))) C (zv_runV (As := [.int (0 : Int32), .int (2 : Int32)]) (b := adM) (rest := []) (ci := 5) (q0 := 0) C (zc_X6_right l G cI adM qM1 qM2 qM3 qM4 qM5 qM6 qM7 qM8 qM12 qM13 qM15 qM16 qM17 qM18 qM19 qM20 qM21 T_1 (0 : Int32) (2 : Int32) _ hF) (cwV 2 C.2.2.2.2.1 gX6_layer_X6_right rfl rfl rfl zy_X6_right ⟨Nat.le_of_ble_eq_true rfl, Nat.le_of_ble_eq_true rfl⟩) rfl rfl rfl rfl rfl (Nat.le_of_ble_eq_true rfl) ⟨Nat.zero_le _, Nat.zero_le _⟩ dX6_layer_50) [0, 1, 2, 3, 4, 5, 6, 7, 8, 9, 10, 11, 12, 13, 14, 15, 16, 17] [] rfl rfl rfl rfl rfl (fun _ => rfl) (fun _ => rfl) (fun _ => rfl) (fun v_40 uz hF => ?_)
        obtain ⟨T_39, hE⟩ : ∃ z, z = uz := ⟨_, rfl⟩; subst hE
        refine zv_if_ne (pc := 53) (tgt := 58) C dX6_layer_53 (by decide) (fun c_41 => ?_) (fun c_41 => ?_)
        · replace hF := And.left hF c_41
          refine zv_aload_n (pc := 58) C rfl 0 rfl dX6_layer_58 ?_
          refine zv_get (pc := 59) (CC := RX6) (T := TX6) (N := 22) (ci := 5) (v := .ref qM5) C zi_X6_layer_X6 0 rfl 5 (by decide) zf_X6_layer_22 rfl rfl dX6_layer_59 ?_
          refine zv_iload_n (pc := 62) C rfl 1 rfl dX6_layer_62 ?_
          obtain ⟨h_42, hF⟩ := hF
          refine zv_iald (pc := 63) (n := 2) (f := (T_39 5)) C 5 h_42 rfl dX6_layer_63 ?_
          refine zv_bipush (pc := 64) (v := 6) C (by decide) dX6_layer_64 ?_
          refine zv_icmp_ne (pc := 66) (tgt := 71) C dX6_layer_66 (by decide) (fun c_43 => ?_) (fun c_43 => ?_)
          · replace hF := And.left hF c_43
            refine zv_bipush (pc := 71) (v := 6) C (by decide) dX6_layer_71 ?_
            refine zv_iload_n (pc := 73) C rfl 1 rfl dX6_layer_73 ?_
            refine zv_imul (pc := 74) C  dX6_layer_74 ?_
            refine zv_aload_n (pc := 75) C rfl 0 rfl dX6_layer_75 ?_
            refine zv_get (pc := 76) (CC := RX6) (T := TX6) (N := 22) (ci := 5) (v := .ref qM5) C zi_X6_layer_X6 0 rfl 5 (by decide) zf_X6_layer_22 rfl rfl dX6_layer_76 ?_
            refine zv_iload_n (pc := 79) C rfl 1 rfl dX6_layer_79 ?_
            obtain ⟨h_44, hF⟩ := hF
            refine zv_iald (pc := 80) (n := 2) (f := (T_39 5)) C 5 h_44 rfl dX6_layer_80 ?_
            refine zv_iadd (pc := 81) C  dX6_layer_81 ?_
            refine zv_topi (fun x6_45 ex6_45 => ?_)
            replace hF := hF x6_45 ex6_45
            refine zv_istore (pc := 82) (lv' := [(6, .int x6_45), (0, .ref adM), (1, .int a1), (2, .int a2), (3, .int a3), (4, .int a4), (5, .int a5)]) C (by decide) rfl dX6_layer_82 ?_
            obtain ⟨kf, hF⟩ := hF
            refine zv_lvs [1, 2, 3, 4, 5, 6, 0] rfl (zl_X6_layer_84 adM qM1 qM2 qM3 qM4 qM5 qM6 qM7 qM8 qM12 qM13 qM15 qM16 qM17 qM18 qM19 qM20 qM21 a1 a2 a3 a4 a5 _ C ?_ kf x6_45 T_39 hF)
            · intro T_46 hF
              refine zv_iload_n (pc := 149) C rfl 3 rfl dX6_layer_149 ?_
              refine zv_iload (pc := 150) C 4 rfl dX6_layer_150 ?_
              refine zv_ci0 (pc := 152) (ws' := (fun uz : Unit => (zd_X6_layer cI adM qM1 qM2 qM3 qM4 qM5 qM6 qM7 qM8 qM12 qM13 qM15 qM16 qM17 qM18 qM19 qM20 qM21 T_46))) C (zv_runS (As := [.int a3, .int a4]) (rest := []) C (zc_X6_shared l G cI a3 a4 _ hF) (va_cwS 2 C.2.2.2.2.1 gX6_layer_X6_shared rfl rfl rfl zy_X6_shared ⟨Nat.le_of_ble_eq_true rfl, Nat.le_of_ble_eq_true rfl⟩) rfl rfl (Nat.le_of_ble_eq_true rfl) ⟨Nat.zero_le _, Nat.zero_le _⟩ dX6_layer_152) [] [0, 1, 2, 3, 4, 5, 6, 7, 8, 9, 10, 11, 12, 13, 14, 15, 16, 17] rfl rfl rfl rfl rfl (fun _ => rfl) (fun _ => rfl) (fun _ => rfl) (fun v_47 uz hF => ?_)
              refine zv_istore (pc := 155) (lv' := [(6, .int v_47), (0, .ref adM), (1, .int a1), (2, .int a2), (3, .int a3), (4, .int a4), (5, .int a5)]) C (by decide) rfl dX6_layer_155 ?_
              refine zv_aload_n (pc := 157) C rfl 1 rfl dX6_layer_157 ?_
              refine zv_get (pc := 158) (CC := RX6) (T := TX6) (N := 22) (ci := 5) (v := .ref qM6) C zi_X6_layer_X6 0 rfl 6 (by decide) zf_X6_layer_25 rfl rfl dX6_layer_158 ?_
              refine zv_bipush (pc := 161) (v := 6) C (by decide) dX6_layer_161 ?_
              refine zv_iload_n (pc := 163) C rfl 2 rfl dX6_layer_163 ?_
              refine zv_imul (pc := 164) C  dX6_layer_164 ?_
              refine zv_iload_n (pc := 165) C rfl 3 rfl dX6_layer_165 ?_
              refine zv_iadd (pc := 166) C  dX6_layer_166 ?_
              refine zv_iload_n (pc := 167) C rfl 4 rfl dX6_layer_167 ?_
              refine zv_iload (pc := 168) C 0 rfl dX6_layer_168 ?_
              obtain ⟨hz_48, hF⟩ := hF
              refine zv_idiv (pc := 170) C hz_48 dX6_layer_170 ?_
              obtain ⟨h_49, hF⟩ := hF
              obtain ⟨r_50, er_50⟩ : ∃ y : zRow, y = (upd (T_46 6) (Int32.toNatClampNeg (((6 : Int32) * a1) + a2)) (a3 / v_47)) := ⟨_, rfl⟩
              replace hF := hF r_50 er_50
              refine zv_iast (pc := 171) (n := 12) (f := (T_46 6)) (ws' := (zd_X6_layer cI adM qM1 qM2 qM3 qM4 qM5 qM6 qM7 qM8 qM12 qM13 qM15 qM16 qM17 qM18 qM19 qM20 qM21 (zset T_46 6 r_50))) C 6 h_49 rfl (by rw [er_50]; rfl) dX6_layer_171 ?_
              refine zv_aload_n (pc := 172) C rfl 1 rfl dX6_layer_172 ?_
              refine zv_get (pc := 173) (CC := RX6) (T := TX6) (N := 22) (ci := 5) (v := .ref qM7) C zi_X6_layer_X6 0 rfl 7 (by decide) zf_X6_layer_28 rfl rfl dX6_layer_173 ?_
              refine zv_bipush (pc := 176) (v := 6) C (by decide) dX6_layer_176 ?_
              refine zv_iload_n (pc := 178) C rfl 2 rfl dX6_layer_178 ?_
              refine zv_imul (pc := 179) C  dX6_layer_179 ?_
              refine zv_iload_n (pc := 180) C rfl 3 rfl dX6_layer_180 ?_
              refine zv_iadd (pc := 181) C  dX6_layer_181 ?_
              refine zv_iload (pc := 182) C 5 rfl dX6_layer_182 ?_
              refine zv_iload (pc := 184) C 0 rfl dX6_layer_184 ?_
              obtain ⟨hz_51, hF⟩ := hF
              refine zv_idiv (pc := 186) C hz_51 dX6_layer_186 ?_
              obtain ⟨h_52, hF⟩ := hF
              obtain ⟨r_53, er_53⟩ : ∃ y : zRow, y = (upd (T_46 7) (Int32.toNatClampNeg (((6 : Int32) * a1) + a2)) (a4 / v_47)) := ⟨_, rfl⟩
              replace hF := hF r_53 er_53
              refine zv_iast (pc := 187) (n := 12) (f := (T_46 7)) (ws' := (zd_X6_layer cI adM qM1 qM2 qM3 qM4 qM5 qM6 qM7 qM8 qM12 qM13 qM15 qM16 qM17 qM18 qM19 qM20 qM21 (zset (zset T_46 6 r_50) 7 r_53))) C 7 h_52 rfl (by rw [er_53]; rfl) dX6_layer_187 ?_
              refine zv_aload_n (pc := 188) C rfl 1 rfl dX6_layer_188 ?_
              refine zv_get (pc := 189) (CC := RX6) (T := TX6) (N := 22) (ci := 5) (v := .ref qM8) C zi_X6_layer_X6 0 rfl 8 (by decide) zf_X6_layer_31 rfl rfl dX6_layer_189 ?_
              refine zv_bipush (pc := 192) (v := 6) C (by decide) dX6_layer_192 ?_
              refine zv_iload_n (pc := 194) C rfl 2 rfl dX6_layer_194 ?_
              refine zv_imul (pc := 195) C  dX6_layer_195 ?_
              refine zv_iload_n (pc := 196) C rfl 3 rfl dX6_layer_196 ?_
              refine zv_iadd (pc := 197) C  dX6_layer_197 ?_
              refine zv_iload (pc := 198) C 6 rfl dX6_layer_198 ?_
              obtain ⟨h_54, hF⟩ := hF
              obtain ⟨r_55, er_55⟩ : ∃ y : zRow, y = (upd (T_46 8) (Int32.toNatClampNeg (((6 : Int32) * a1) + a2)) a5) := ⟨_, rfl⟩
              replace hF := hF r_55 er_55
              refine zv_iast (pc := 200) (n := 12) (f := (T_46 8)) (ws' := (zd_X6_layer cI adM qM1 qM2 qM3 qM4 qM5 qM6 qM7 qM8 qM12 qM13 qM15 qM16 qM17 qM18 qM19 qM20 qM21 (zset (zset (zset T_46 6 r_50) 7 r_53) 8 r_55))) C 8 h_54 rfl (by rw [er_55]; rfl) dX6_layer_200 ?_
              refine zv_aload_n (pc := 201) C rfl 1 rfl dX6_layer_201 ?_
              refine zv_get (pc := 202) (CC := RX6) (T := TX6) (N := 22) (ci := 5) (v := .ref qM5) C zi_X6_layer_X6 0 rfl 5 (by decide) zf_X6_layer_22 rfl rfl dX6_layer_202 ?_
              refine zv_iload_n (pc := 205) C rfl 2 rfl dX6_layer_205 ?_
              refine zv_dup2 (pc := 206) C rfl rfl dX6_layer_206 ?_
              obtain ⟨h_56, hF⟩ := hF
              refine zv_iald (pc := 207) (n := 2) (f := (T_46 5)) C 5 h_56 rfl dX6_layer_207 ?_
              refine zv_iconst (pc := 208) (v := 1) C (by decide) dX6_layer_208 ?_
              refine zv_iadd (pc := 209) C  dX6_layer_209 ?_
              obtain ⟨h_57, hF⟩ := hF
              obtain ⟨r_58, er_58⟩ : ∃ y : zRow, y = (upd (T_46 5) (Int32.toNatClampNeg a1) (((T_46 5) (Int32.toNatClampNeg a1)) + (1 : Int32))) := ⟨_, rfl⟩
              replace hF := hF r_58 er_58
              refine zv_iast (pc := 210) (n := 2) (f := (T_46 5)) (ws' := (zd_X6_layer cI adM qM1 qM2 qM3 qM4 qM5 qM6 qM7 qM8 qM12 qM13 qM15 qM16 qM17 qM18 qM19 qM20 qM21 (zset (zset (zset (zset T_46 5 r_58) 6 r_50) 7 r_53) 8 r_55))) C 5 h_57 rfl (by rw [er_58]; rfl) dX6_layer_210 ?_
              refine zv_aload_n (pc := 211) C rfl 1 rfl dX6_layer_211 ?_
              refine zv_get (pc := 212) (CC := RX6) (T := TX6) (N := 22) (ci := 5) (v := .ref qM5) C zi_X6_layer_X6 0 rfl 5 (by decide) zf_X6_layer_22 rfl rfl dX6_layer_212 ?_
              refine zv_iload_n (pc := 215) C rfl 2 rfl dX6_layer_215 ?_
              obtain ⟨h_59, hF⟩ := hF
              refine zv_iald (pc := 216) (n := 2) (f := r_58) C 5 h_59 rfl dX6_layer_216 ?_
              exact zv_iret (pc := 217) C hr hlk (r_58 (Int32.toNatClampNeg a1)) (zset (zset (zset (zset T_46 5 r_58) 6 r_50) 7 r_53) 8 r_55) hF rfl dX6_layer_217
          · replace hF := And.right hF c_43
            refine zv_iconst (pc := 69) (v := -1) C (by decide) dX6_layer_69 ?_
            exact zv_iret (pc := 70) C hr hlk (-1 : Int32) T_39 hF rfl dX6_layer_70
        · replace hF := And.right hF c_41
          refine zv_iconst (pc := 56) (v := 0) C (by decide) dX6_layer_56 ?_
          exact zv_iret (pc := 57) C hr hlk (0 : Int32) T_39 hF rfl dX6_layer_57
      · replace hF := And.right hF c_38
        refine zv_iload (pc := 24) C 5 rfl dX6_layer_24 ?_
        refine zv_iconst (pc := 26) (v := 4) C (by decide) dX6_layer_26 ?_
        refine zv_icmp_gt (pc := 27) (tgt := 48) C dX6_layer_27 (by decide) (fun c_60 => ?_) (fun c_60 => ?_)
        · replace hF := And.left hF c_60
          refine zv_iconst (pc := 48) (v := 0) C (by decide) dX6_layer_48 ?_
          refine zv_iconst (pc := 49) (v := 2) C (by decide) dX6_layer_49 ?_
          refine zv_ci0 (pc := 50) (ws' := (fun uz : zMem => (zd_X6_layer cI adM qM1 qM2 qM3 qM4 qM5 qM6 qM7 qM8 qM12 qM13 qM15 qM16 qM17 qM18 qM19 qM20 qM21 uz))) C (zv_runV (As := [.int (0 : Int32), .int (2 : Int32)]) (b := adM) (rest := []) (ci := 5) (q0 := 0) C (zc_X6_right l G cI adM qM1 qM2 qM3 qM4 qM5 qM6 qM7 qM8 qM12 qM13 qM15 qM16 qM17 qM18 qM19 qM20 qM21 T_1 (0 : Int32) (2 : Int32) _ hF) (cwV 2 C.2.2.2.2.1 gX6_layer_X6_right rfl rfl rfl zy_X6_right ⟨Nat.le_of_ble_eq_true rfl, Nat.le_of_ble_eq_true rfl⟩) rfl rfl rfl rfl rfl (Nat.le_of_ble_eq_true rfl) ⟨Nat.zero_le _, Nat.zero_le _⟩ dX6_layer_50) [0, 1, 2, 3, 4, 5, 6, 7, 8, 9, 10, 11, 12, 13, 14, 15, 16, 17] [] rfl rfl rfl rfl rfl (fun _ => rfl) (fun _ => rfl) (fun _ => rfl) (fun v_62 uz hF => ?_)
          obtain ⟨T_61, hE⟩ : ∃ z, z = uz := ⟨_, rfl⟩; subst hE
          refine zv_if_ne (pc := 53) (tgt := 58) C dX6_layer_53 (by decide) (fun c_63 => ?_) (fun c_63 => ?_)
          · replace hF := And.left hF c_63
            refine zv_aload_n (pc := 58) C rfl 0 rfl dX6_layer_58 ?_
            refine zv_get (pc := 59) (CC := RX6) (T := TX6) (N := 22) (ci := 5) (v := .ref qM5) C zi_X6_layer_X6 0 rfl 5 (by decide) zf_X6_layer_22 rfl rfl dX6_layer_59 ?_
            refine zv_iload_n (pc := 62) C rfl 1 rfl dX6_layer_62 ?_
            obtain ⟨h_64, hF⟩ := hF
            refine zv_iald (pc := 63) (n := 2) (f := (T_61 5)) C 5 h_64 rfl dX6_layer_63 ?_
            refine zv_bipush (pc := 64) (v := 6) C (by decide) dX6_layer_64 ?_
            refine zv_icmp_ne (pc := 66) (tgt := 71) C dX6_layer_66 (by decide) (fun c_65 => ?_) (fun c_65 => ?_)
            · replace hF := And.left hF c_65
              refine zv_bipush (pc := 71) (v := 6) C (by decide) dX6_layer_71 ?_
              refine zv_iload_n (pc := 73) C rfl 1 rfl dX6_layer_73 ?_
              refine zv_imul (pc := 74) C  dX6_layer_74 ?_
              refine zv_aload_n (pc := 75) C rfl 0 rfl dX6_layer_75 ?_
              refine zv_get (pc := 76) (CC := RX6) (T := TX6) (N := 22) (ci := 5) (v := .ref qM5) C zi_X6_layer_X6 0 rfl 5 (by decide) zf_X6_layer_22 rfl rfl dX6_layer_76 ?_
              refine zv_iload_n (pc := 79) C rfl 1 rfl dX6_layer_79 ?_
              obtain ⟨h_66, hF⟩ := hF
              refine zv_iald (pc := 80) (n := 2) (f := (T_61 5)) C 5 h_66 rfl dX6_layer_80 ?_
              refine zv_iadd (pc := 81) C  dX6_layer_81 ?_
              refine zv_topi (fun x6_67 ex6_67 => ?_)
              replace hF := hF x6_67 ex6_67
              refine zv_istore (pc := 82) (lv' := [(6, .int x6_67), (0, .ref adM), (1, .int a1), (2, .int a2), (3, .int a3), (4, .int a4), (5, .int a5)]) C (by decide) rfl dX6_layer_82 ?_
              obtain ⟨kf, hF⟩ := hF
              refine zv_lvs [1, 2, 3, 4, 5, 6, 0] rfl (zl_X6_layer_84 adM qM1 qM2 qM3 qM4 qM5 qM6 qM7 qM8 qM12 qM13 qM15 qM16 qM17 qM18 qM19 qM20 qM21 a1 a2 a3 a4 a5 _ C ?_ kf x6_67 T_61 hF)
              · intro T_68 hF
                refine zv_iload_n (pc := 149) C rfl 3 rfl dX6_layer_149 ?_
                refine zv_iload (pc := 150) C 4 rfl dX6_layer_150 ?_
                refine zv_ci0 (pc := 152) (ws' := (fun uz : Unit => (zd_X6_layer cI adM qM1 qM2 qM3 qM4 qM5 qM6 qM7 qM8 qM12 qM13 qM15 qM16 qM17 qM18 qM19 qM20 qM21 T_68))) C (zv_runS (As := [.int a3, .int a4]) (rest := []) C (zc_X6_shared l G cI a3 a4 _ hF) (va_cwS 2 C.2.2.2.2.1 gX6_layer_X6_shared rfl rfl rfl zy_X6_shared ⟨Nat.le_of_ble_eq_true rfl, Nat.le_of_ble_eq_true rfl⟩) rfl rfl (Nat.le_of_ble_eq_true rfl) ⟨Nat.zero_le _, Nat.zero_le _⟩ dX6_layer_152) [] [0, 1, 2, 3, 4, 5, 6, 7, 8, 9, 10, 11, 12, 13, 14, 15, 16, 17] rfl rfl rfl rfl rfl (fun _ => rfl) (fun _ => rfl) (fun _ => rfl) (fun v_69 uz hF => ?_)
                refine zv_istore (pc := 155) (lv' := [(6, .int v_69), (0, .ref adM), (1, .int a1), (2, .int a2), (3, .int a3), (4, .int a4), (5, .int a5)]) C (by decide) rfl dX6_layer_155 ?_
                refine zv_aload_n (pc := 157) C rfl 1 rfl dX6_layer_157 ?_
                refine zv_get (pc := 158) (CC := RX6) (T := TX6) (N := 22) (ci := 5) (v := .ref qM6) C zi_X6_layer_X6 0 rfl 6 (by decide) zf_X6_layer_25 rfl rfl dX6_layer_158 ?_
                refine zv_bipush (pc := 161) (v := 6) C (by decide) dX6_layer_161 ?_
                refine zv_iload_n (pc := 163) C rfl 2 rfl dX6_layer_163 ?_
                refine zv_imul (pc := 164) C  dX6_layer_164 ?_
                refine zv_iload_n (pc := 165) C rfl 3 rfl dX6_layer_165 ?_
                refine zv_iadd (pc := 166) C  dX6_layer_166 ?_
                refine zv_iload_n (pc := 167) C rfl 4 rfl dX6_layer_167 ?_
                refine zv_iload (pc := 168) C 0 rfl dX6_layer_168 ?_
                obtain ⟨hz_70, hF⟩ := hF
                refine zv_idiv (pc := 170) C hz_70 dX6_layer_170 ?_
                obtain ⟨h_71, hF⟩ := hF
                obtain ⟨r_72, er_72⟩ : ∃ y : zRow, y = (upd (T_68 6) (Int32.toNatClampNeg (((6 : Int32) * a1) + a2)) (a3 / v_69)) := ⟨_, rfl⟩
                replace hF := hF r_72 er_72
                refine zv_iast (pc := 171) (n := 12) (f := (T_68 6)) (ws' := (zd_X6_layer cI adM qM1 qM2 qM3 qM4 qM5 qM6 qM7 qM8 qM12 qM13 qM15 qM16 qM17 qM18 qM19 qM20 qM21 (zset T_68 6 r_72))) C 6 h_71 rfl (by rw [er_72]; rfl) dX6_layer_171 ?_
                refine zv_aload_n (pc := 172) C rfl 1 rfl dX6_layer_172 ?_
                refine zv_get (pc := 173) (CC := RX6) (T := TX6) (N := 22) (ci := 5) (v := .ref qM7) C zi_X6_layer_X6 0 rfl 7 (by decide) zf_X6_layer_28 rfl rfl dX6_layer_173 ?_
                refine zv_bipush (pc := 176) (v := 6) C (by decide) dX6_layer_176 ?_
                refine zv_iload_n (pc := 178) C rfl 2 rfl dX6_layer_178 ?_
                refine zv_imul (pc := 179) C  dX6_layer_179 ?_
                refine zv_iload_n (pc := 180) C rfl 3 rfl dX6_layer_180 ?_
                refine zv_iadd (pc := 181) C  dX6_layer_181 ?_
                refine zv_iload (pc := 182) C 5 rfl dX6_layer_182 ?_
                refine zv_iload (pc := 184) C 0 rfl dX6_layer_184 ?_
                obtain ⟨hz_73, hF⟩ := hF
                refine zv_idiv (pc := 186) C hz_73 dX6_layer_186 ?_
                obtain ⟨h_74, hF⟩ := hF
                obtain ⟨r_75, er_75⟩ : ∃ y : zRow, y = (upd (T_68 7) (Int32.toNatClampNeg (((6 : Int32) * a1) + a2)) (a4 / v_69)) := ⟨_, rfl⟩
                replace hF := hF r_75 er_75
                refine zv_iast (pc := 187) (n := 12) (f := (T_68 7)) (ws' := (zd_X6_layer cI adM qM1 qM2 qM3 qM4 qM5 qM6 qM7 qM8 qM12 qM13 qM15 qM16 qM17 qM18 qM19 qM20 qM21 (zset (zset T_68 6 r_72) 7 r_75))) C 7 h_74 rfl (by rw [er_75]; rfl) dX6_layer_187 ?_
                refine zv_aload_n (pc := 188) C rfl 1 rfl dX6_layer_188 ?_
                refine zv_get (pc := 189) (CC := RX6) (T := TX6) (N := 22) (ci := 5) (v := .ref qM8) C zi_X6_layer_X6 0 rfl 8 (by decide) zf_X6_layer_31 rfl rfl dX6_layer_189 ?_
                refine zv_bipush (pc := 192) (v := 6) C (by decide) dX6_layer_192 ?_
                refine zv_iload_n (pc := 194) C rfl 2 rfl dX6_layer_194 ?_
                refine zv_imul (pc := 195) C  dX6_layer_195 ?_
                refine zv_iload_n (pc := 196) C rfl 3 rfl dX6_layer_196 ?_
                refine zv_iadd (pc := 197) C  dX6_layer_197 ?_
                refine zv_iload (pc := 198) C 6 rfl dX6_layer_198 ?_
                obtain ⟨h_76, hF⟩ := hF
                obtain ⟨r_77, er_77⟩ : ∃ y : zRow, y = (upd (T_68 8) (Int32.toNatClampNeg (((6 : Int32) * a1) + a2)) a5) := ⟨_, rfl⟩
                replace hF := hF r_77 er_77
                refine zv_iast (pc := 200) (n := 12) (f := (T_68 8)) (ws' := (zd_X6_layer cI adM qM1 qM2 qM3 qM4 qM5 qM6 qM7 qM8 qM12 qM13 qM15 qM16 qM17 qM18 qM19 qM20 qM21 (zset (zset (zset T_68 6 r_72) 7 r_75) 8 r_77))) C 8 h_76 rfl (by rw [er_77]; rfl) dX6_layer_200 ?_
                refine zv_aload_n (pc := 201) C rfl 1 rfl dX6_layer_201 ?_
                refine zv_get (pc := 202) (CC := RX6) (T := TX6) (N := 22) (ci := 5) (v := .ref qM5) C zi_X6_layer_X6 0 rfl 5 (by decide) zf_X6_layer_22 rfl rfl dX6_layer_202 ?_
                refine zv_iload_n (pc := 205) C rfl 2 rfl dX6_layer_205 ?_
                refine zv_dup2 (pc := 206) C rfl rfl dX6_layer_206 ?_
                obtain ⟨h_78, hF⟩ := hF
                refine zv_iald (pc := 207) (n := 2) (f := (T_68 5)) C 5 h_78 rfl dX6_layer_207 ?_
                refine zv_iconst (pc := 208) (v := 1) C (by decide) dX6_layer_208 ?_
                refine zv_iadd (pc := 209) C  dX6_layer_209 ?_
                obtain ⟨h_79, hF⟩ := hF
                obtain ⟨r_80, er_80⟩ : ∃ y : zRow, y = (upd (T_68 5) (Int32.toNatClampNeg a1) (((T_68 5) (Int32.toNatClampNeg a1)) + (1 : Int32))) := ⟨_, rfl⟩
                replace hF := hF r_80 er_80
                refine zv_iast (pc := 210) (n := 2) (f := (T_68 5)) (ws' := (zd_X6_layer cI adM qM1 qM2 qM3 qM4 qM5 qM6 qM7 qM8 qM12 qM13 qM15 qM16 qM17 qM18 qM19 qM20 qM21 (zset (zset (zset (zset T_68 5 r_80) 6 r_72) 7 r_75) 8 r_77))) C 5 h_79 rfl (by rw [er_80]; rfl) dX6_layer_210 ?_
                refine zv_aload_n (pc := 211) C rfl 1 rfl dX6_layer_211 ?_
                refine zv_get (pc := 212) (CC := RX6) (T := TX6) (N := 22) (ci := 5) (v := .ref qM5) C zi_X6_layer_X6 0 rfl 5 (by decide) zf_X6_layer_22 rfl rfl dX6_layer_212 ?_
                refine zv_iload_n (pc := 215) C rfl 2 rfl dX6_layer_215 ?_
                obtain ⟨h_81, hF⟩ := hF
                refine zv_iald (pc := 216) (n := 2) (f := r_80) C 5 h_81 rfl dX6_layer_216 ?_
                exact zv_iret (pc := 217) C hr hlk (r_80 (Int32.toNatClampNeg a1)) (zset (zset (zset (zset T_68 5 r_80) 6 r_72) 7 r_75) 8 r_77) hF rfl dX6_layer_217
            · replace hF := And.right hF c_65
              refine zv_iconst (pc := 69) (v := -1) C (by decide) dX6_layer_69 ?_
              exact zv_iret (pc := 70) C hr hlk (-1 : Int32) T_61 hF rfl dX6_layer_70
          · replace hF := And.right hF c_63
            refine zv_iconst (pc := 56) (v := 0) C (by decide) dX6_layer_56 ?_
            exact zv_iret (pc := 57) C hr hlk (0 : Int32) T_61 hF rfl dX6_layer_57
        · replace hF := And.right hF c_60
          refine zv_iload_n (pc := 30) C rfl 2 rfl dX6_layer_30 ?_
          refine zv_if_lt (pc := 31) (tgt := 48) C dX6_layer_31 (by decide) (fun c_82 => ?_) (fun c_82 => ?_)
          · replace hF := And.left hF c_82
            refine zv_iconst (pc := 48) (v := 0) C (by decide) dX6_layer_48 ?_
            refine zv_iconst (pc := 49) (v := 2) C (by decide) dX6_layer_49 ?_
            refine zv_ci0 (pc := 50) (ws' := (fun uz : zMem => (zd_X6_layer cI adM qM1 qM2 qM3 qM4 qM5 qM6 qM7 qM8 qM12 qM13 qM15 qM16 qM17 qM18 qM19 qM20 qM21 uz))) C (zv_runV (As := [.int (0 : Int32), .int (2 : Int32)]) (b := adM) (rest := []) (ci := 5) (q0 := 0) C (zc_X6_right l G cI adM qM1 qM2 qM3 qM4 qM5 qM6 qM7 qM8 qM12 qM13 qM15 qM16 qM17 qM18 qM19 qM20 qM21 T_1 (0 : Int32) (2 : Int32) _ hF) (cwV 2 C.2.2.2.2.1 gX6_layer_X6_right rfl rfl rfl zy_X6_right ⟨Nat.le_of_ble_eq_true rfl, Nat.le_of_ble_eq_true rfl⟩) rfl rfl rfl rfl rfl (Nat.le_of_ble_eq_true rfl) ⟨Nat.zero_le _, Nat.zero_le _⟩ dX6_layer_50) [0, 1, 2, 3, 4, 5, 6, 7, 8, 9, 10, 11, 12, 13, 14, 15, 16, 17] [] rfl rfl rfl rfl rfl (fun _ => rfl) (fun _ => rfl) (fun _ => rfl) (fun v_84 uz hF => ?_)
            obtain ⟨T_83, hE⟩ : ∃ z, z = uz := ⟨_, rfl⟩; subst hE
            refine zv_if_ne (pc := 53) (tgt := 58) C dX6_layer_53 (by decide) (fun c_85 => ?_) (fun c_85 => ?_)
            · replace hF := And.left hF c_85
              refine zv_aload_n (pc := 58) C rfl 0 rfl dX6_layer_58 ?_
              refine zv_get (pc := 59) (CC := RX6) (T := TX6) (N := 22) (ci := 5) (v := .ref qM5) C zi_X6_layer_X6 0 rfl 5 (by decide) zf_X6_layer_22 rfl rfl dX6_layer_59 ?_
              refine zv_iload_n (pc := 62) C rfl 1 rfl dX6_layer_62 ?_
              obtain ⟨h_86, hF⟩ := hF
              refine zv_iald (pc := 63) (n := 2) (f := (T_83 5)) C 5 h_86 rfl dX6_layer_63 ?_
              refine zv_bipush (pc := 64) (v := 6) C (by decide) dX6_layer_64 ?_
              refine zv_icmp_ne (pc := 66) (tgt := 71) C dX6_layer_66 (by decide) (fun c_87 => ?_) (fun c_87 => ?_)
              · replace hF := And.left hF c_87
                refine zv_bipush (pc := 71) (v := 6) C (by decide) dX6_layer_71 ?_
                refine zv_iload_n (pc := 73) C rfl 1 rfl dX6_layer_73 ?_
                refine zv_imul (pc := 74) C  dX6_layer_74 ?_
                refine zv_aload_n (pc := 75) C rfl 0 rfl dX6_layer_75 ?_
                refine zv_get (pc := 76) (CC := RX6) (T := TX6) (N := 22) (ci := 5) (v := .ref qM5) C zi_X6_layer_X6 0 rfl 5 (by decide) zf_X6_layer_22 rfl rfl dX6_layer_76 ?_
                refine zv_iload_n (pc := 79) C rfl 1 rfl dX6_layer_79 ?_
                obtain ⟨h_88, hF⟩ := hF
                refine zv_iald (pc := 80) (n := 2) (f := (T_83 5)) C 5 h_88 rfl dX6_layer_80 ?_
                refine zv_iadd (pc := 81) C  dX6_layer_81 ?_
                refine zv_topi (fun x6_89 ex6_89 => ?_)
                replace hF := hF x6_89 ex6_89
                refine zv_istore (pc := 82) (lv' := [(6, .int x6_89), (0, .ref adM), (1, .int a1), (2, .int a2), (3, .int a3), (4, .int a4), (5, .int a5)]) C (by decide) rfl dX6_layer_82 ?_
                obtain ⟨kf, hF⟩ := hF
                refine zv_lvs [1, 2, 3, 4, 5, 6, 0] rfl (zl_X6_layer_84 adM qM1 qM2 qM3 qM4 qM5 qM6 qM7 qM8 qM12 qM13 qM15 qM16 qM17 qM18 qM19 qM20 qM21 a1 a2 a3 a4 a5 _ C ?_ kf x6_89 T_83 hF)
                · intro T_90 hF
                  refine zv_iload_n (pc := 149) C rfl 3 rfl dX6_layer_149 ?_
                  refine zv_iload (pc := 150) C 4 rfl dX6_layer_150 ?_
                  refine zv_ci0 (pc := 152) (ws' := (fun uz : Unit => (zd_X6_layer cI adM qM1 qM2 qM3 qM4 qM5 qM6 qM7 qM8 qM12 qM13 qM15 qM16 qM17 qM18 qM19 qM20 qM21 T_90))) C (zv_runS (As := [.int a3, .int a4]) (rest := []) C (zc_X6_shared l G cI a3 a4 _ hF) (va_cwS 2 C.2.2.2.2.1 gX6_layer_X6_shared rfl rfl rfl zy_X6_shared ⟨Nat.le_of_ble_eq_true rfl, Nat.le_of_ble_eq_true rfl⟩) rfl rfl (Nat.le_of_ble_eq_true rfl) ⟨Nat.zero_le _, Nat.zero_le _⟩ dX6_layer_152) [] [0, 1, 2, 3, 4, 5, 6, 7, 8, 9, 10, 11, 12, 13, 14, 15, 16, 17] rfl rfl rfl rfl rfl (fun _ => rfl) (fun _ => rfl) (fun _ => rfl) (fun v_91 uz hF => ?_)
                  refine zv_istore (pc := 155) (lv' := [(6, .int v_91), (0, .ref adM), (1, .int a1), (2, .int a2), (3, .int a3), (4, .int a4), (5, .int a5)]) C (by decide) rfl dX6_layer_155 ?_
                  refine zv_aload_n (pc := 157) C rfl 1 rfl dX6_layer_157 ?_
                  refine zv_get (pc := 158) (CC := RX6) (T := TX6) (N := 22) (ci := 5) (v := .ref qM6) C zi_X6_layer_X6 0 rfl 6 (by decide) zf_X6_layer_25 rfl rfl dX6_layer_158 ?_
                  refine zv_bipush (pc := 161) (v := 6) C (by decide) dX6_layer_161 ?_
                  refine zv_iload_n (pc := 163) C rfl 2 rfl dX6_layer_163 ?_
                  refine zv_imul (pc := 164) C  dX6_layer_164 ?_
                  refine zv_iload_n (pc := 165) C rfl 3 rfl dX6_layer_165 ?_
                  refine zv_iadd (pc := 166) C  dX6_layer_166 ?_
                  refine zv_iload_n (pc := 167) C rfl 4 rfl dX6_layer_167 ?_
                  refine zv_iload (pc := 168) C 0 rfl dX6_layer_168 ?_
                  obtain ⟨hz_92, hF⟩ := hF
                  refine zv_idiv (pc := 170) C hz_92 dX6_layer_170 ?_
                  obtain ⟨h_93, hF⟩ := hF
                  obtain ⟨r_94, er_94⟩ : ∃ y : zRow, y = (upd (T_90 6) (Int32.toNatClampNeg (((6 : Int32) * a1) + a2)) (a3 / v_91)) := ⟨_, rfl⟩
                  replace hF := hF r_94 er_94
                  refine zv_iast (pc := 171) (n := 12) (f := (T_90 6)) (ws' := (zd_X6_layer cI adM qM1 qM2 qM3 qM4 qM5 qM6 qM7 qM8 qM12 qM13 qM15 qM16 qM17 qM18 qM19 qM20 qM21 (zset T_90 6 r_94))) C 6 h_93 rfl (by rw [er_94]; rfl) dX6_layer_171 ?_
                  refine zv_aload_n (pc := 172) C rfl 1 rfl dX6_layer_172 ?_
                  refine zv_get (pc := 173) (CC := RX6) (T := TX6) (N := 22) (ci := 5) (v := .ref qM7) C zi_X6_layer_X6 0 rfl 7 (by decide) zf_X6_layer_28 rfl rfl dX6_layer_173 ?_
                  refine zv_bipush (pc := 176) (v := 6) C (by decide) dX6_layer_176 ?_
                  refine zv_iload_n (pc := 178) C rfl 2 rfl dX6_layer_178 ?_
                  refine zv_imul (pc := 179) C  dX6_layer_179 ?_
                  refine zv_iload_n (pc := 180) C rfl 3 rfl dX6_layer_180 ?_
                  refine zv_iadd (pc := 181) C  dX6_layer_181 ?_
                  refine zv_iload (pc := 182) C 5 rfl dX6_layer_182 ?_
                  refine zv_iload (pc := 184) C 0 rfl dX6_layer_184 ?_
                  obtain ⟨hz_95, hF⟩ := hF
                  refine zv_idiv (pc := 186) C hz_95 dX6_layer_186 ?_
                  obtain ⟨h_96, hF⟩ := hF
                  obtain ⟨r_97, er_97⟩ : ∃ y : zRow, y = (upd (T_90 7) (Int32.toNatClampNeg (((6 : Int32) * a1) + a2)) (a4 / v_91)) := ⟨_, rfl⟩
                  replace hF := hF r_97 er_97
                  refine zv_iast (pc := 187) (n := 12) (f := (T_90 7)) (ws' := (zd_X6_layer cI adM qM1 qM2 qM3 qM4 qM5 qM6 qM7 qM8 qM12 qM13 qM15 qM16 qM17 qM18 qM19 qM20 qM21 (zset (zset T_90 6 r_94) 7 r_97))) C 7 h_96 rfl (by rw [er_97]; rfl) dX6_layer_187 ?_
                  refine zv_aload_n (pc := 188) C rfl 1 rfl dX6_layer_188 ?_
                  refine zv_get (pc := 189) (CC := RX6) (T := TX6) (N := 22) (ci := 5) (v := .ref qM8) C zi_X6_layer_X6 0 rfl 8 (by decide) zf_X6_layer_31 rfl rfl dX6_layer_189 ?_
                  refine zv_bipush (pc := 192) (v := 6) C (by decide) dX6_layer_192 ?_
                  refine zv_iload_n (pc := 194) C rfl 2 rfl dX6_layer_194 ?_
                  refine zv_imul (pc := 195) C  dX6_layer_195 ?_
                  refine zv_iload_n (pc := 196) C rfl 3 rfl dX6_layer_196 ?_
                  refine zv_iadd (pc := 197) C  dX6_layer_197 ?_
                  refine zv_iload (pc := 198) C 6 rfl dX6_layer_198 ?_
                  obtain ⟨h_98, hF⟩ := hF
                  obtain ⟨r_99, er_99⟩ : ∃ y : zRow, y = (upd (T_90 8) (Int32.toNatClampNeg (((6 : Int32) * a1) + a2)) a5) := ⟨_, rfl⟩
                  replace hF := hF r_99 er_99
                  refine zv_iast (pc := 200) (n := 12) (f := (T_90 8)) (ws' := (zd_X6_layer cI adM qM1 qM2 qM3 qM4 qM5 qM6 qM7 qM8 qM12 qM13 qM15 qM16 qM17 qM18 qM19 qM20 qM21 (zset (zset (zset T_90 6 r_94) 7 r_97) 8 r_99))) C 8 h_98 rfl (by rw [er_99]; rfl) dX6_layer_200 ?_
                  refine zv_aload_n (pc := 201) C rfl 1 rfl dX6_layer_201 ?_
                  refine zv_get (pc := 202) (CC := RX6) (T := TX6) (N := 22) (ci := 5) (v := .ref qM5) C zi_X6_layer_X6 0 rfl 5 (by decide) zf_X6_layer_22 rfl rfl dX6_layer_202 ?_
                  refine zv_iload_n (pc := 205) C rfl 2 rfl dX6_layer_205 ?_
                  refine zv_dup2 (pc := 206) C rfl rfl dX6_layer_206 ?_
                  obtain ⟨h_100, hF⟩ := hF
                  refine zv_iald (pc := 207) (n := 2) (f := (T_90 5)) C 5 h_100 rfl dX6_layer_207 ?_
                  refine zv_iconst (pc := 208) (v := 1) C (by decide) dX6_layer_208 ?_
                  refine zv_iadd (pc := 209) C  dX6_layer_209 ?_
                  obtain ⟨h_101, hF⟩ := hF
                  obtain ⟨r_102, er_102⟩ : ∃ y : zRow, y = (upd (T_90 5) (Int32.toNatClampNeg a1) (((T_90 5) (Int32.toNatClampNeg a1)) + (1 : Int32))) := ⟨_, rfl⟩
                  replace hF := hF r_102 er_102
                  refine zv_iast (pc := 210) (n := 2) (f := (T_90 5)) (ws' := (zd_X6_layer cI adM qM1 qM2 qM3 qM4 qM5 qM6 qM7 qM8 qM12 qM13 qM15 qM16 qM17 qM18 qM19 qM20 qM21 (zset (zset (zset (zset T_90 5 r_102) 6 r_94) 7 r_97) 8 r_99))) C 5 h_101 rfl (by rw [er_102]; rfl) dX6_layer_210 ?_
                  refine zv_aload_n (pc := 211) C rfl 1 rfl dX6_layer_211 ?_
                  refine zv_get (pc := 212) (CC := RX6) (T := TX6) (N := 22) (ci := 5) (v := .ref qM5) C zi_X6_layer_X6 0 rfl 5 (by decide) zf_X6_layer_22 rfl rfl dX6_layer_212 ?_
                  refine zv_iload_n (pc := 215) C rfl 2 rfl dX6_layer_215 ?_
                  obtain ⟨h_103, hF⟩ := hF
                  refine zv_iald (pc := 216) (n := 2) (f := r_102) C 5 h_103 rfl dX6_layer_216 ?_
                  exact zv_iret (pc := 217) C hr hlk (r_102 (Int32.toNatClampNeg a1)) (zset (zset (zset (zset T_90 5 r_102) 6 r_94) 7 r_97) 8 r_99) hF rfl dX6_layer_217
              · replace hF := And.right hF c_87
                refine zv_iconst (pc := 69) (v := -1) C (by decide) dX6_layer_69 ?_
                exact zv_iret (pc := 70) C hr hlk (-1 : Int32) T_83 hF rfl dX6_layer_70
            · replace hF := And.right hF c_85
              refine zv_iconst (pc := 56) (v := 0) C (by decide) dX6_layer_56 ?_
              exact zv_iret (pc := 57) C hr hlk (0 : Int32) T_83 hF rfl dX6_layer_57
          · replace hF := And.right hF c_82
            refine zv_iload_n (pc := 34) C rfl 2 rfl dX6_layer_34 ?_
            refine zv_aload_n (pc := 35) C rfl 0 rfl dX6_layer_35 ?_
            refine zv_get (pc := 36) (CC := RX6) (T := TX6) (N := 22) (ci := 5) (v := .ref qM5) C zi_X6_layer_X6 0 rfl 5 (by decide) zf_X6_layer_22 rfl rfl dX6_layer_36 ?_
            refine zv_iload_n (pc := 39) C rfl 1 rfl dX6_layer_39 ?_
            obtain ⟨h_104, hF⟩ := hF
            refine zv_iald (pc := 40) (n := 2) (f := (T_1 5)) C 5 h_104 rfl dX6_layer_40 ?_
            obtain ⟨KJ_107, h0KJ_107, hF⟩ := hF
            refine zv_join (α := Int32) (KK := fun uz => KJ_107 uz) (wsJ := fun uz => (zd_X6_layer cI adM qM1 qM2 qM3 qM4 qM5 qM6 qM7 qM8 qM12 qM13 qM15 qM16 qM17 qM18 qM19 qM20 qM21 T_1)) (pcJ := 49) (lvJ := fun uz => [(0, .ref adM), (1, .int a1), (2, .int a2), (3, .int a3), (4, .int a4), (5, .int a5)]) (stJ := fun uz => [.int uz, .ref adM]) ?_ (fun hKJ_107 => ?_)
            · rintro v_106 hF
              replace hF := h0KJ_107 v_106 hF
              refine zv_iconst (pc := 49) (v := 2) C (by decide) dX6_layer_49 ?_
              refine zv_ci0 (pc := 50) (ws' := (fun uz : zMem => (zd_X6_layer cI adM qM1 qM2 qM3 qM4 qM5 qM6 qM7 qM8 qM12 qM13 qM15 qM16 qM17 qM18 qM19 qM20 qM21 uz))) C (zv_runV (As := [.int v_106, .int (2 : Int32)]) (b := adM) (rest := []) (ci := 5) (q0 := 0) C (zc_X6_right l G cI adM qM1 qM2 qM3 qM4 qM5 qM6 qM7 qM8 qM12 qM13 qM15 qM16 qM17 qM18 qM19 qM20 qM21 T_1 v_106 (2 : Int32) _ hF) (cwV 2 C.2.2.2.2.1 gX6_layer_X6_right rfl rfl rfl zy_X6_right ⟨Nat.le_of_ble_eq_true rfl, Nat.le_of_ble_eq_true rfl⟩) rfl rfl rfl rfl rfl (Nat.le_of_ble_eq_true rfl) ⟨Nat.zero_le _, Nat.zero_le _⟩ dX6_layer_50) [0, 1, 2, 3, 4, 5, 6, 7, 8, 9, 10, 11, 12, 13, 14, 15, 16, 17] [] rfl rfl rfl rfl rfl (fun _ => rfl) (fun _ => rfl) (fun _ => rfl) (fun v_109 uz hF => ?_)
              obtain ⟨T_108, hE⟩ : ∃ z, z = uz := ⟨_, rfl⟩; subst hE
              refine zv_if_ne (pc := 53) (tgt := 58) C dX6_layer_53 (by decide) (fun c_110 => ?_) (fun c_110 => ?_)
              · replace hF := And.left hF c_110
                refine zv_aload_n (pc := 58) C rfl 0 rfl dX6_layer_58 ?_
                refine zv_get (pc := 59) (CC := RX6) (T := TX6) (N := 22) (ci := 5) (v := .ref qM5) C zi_X6_layer_X6 0 rfl 5 (by decide) zf_X6_layer_22 rfl rfl dX6_layer_59 ?_
                refine zv_iload_n (pc := 62) C rfl 1 rfl dX6_layer_62 ?_
                obtain ⟨h_111, hF⟩ := hF
                refine zv_iald (pc := 63) (n := 2) (f := (T_108 5)) C 5 h_111 rfl dX6_layer_63 ?_
                refine zv_bipush (pc := 64) (v := 6) C (by decide) dX6_layer_64 ?_
                refine zv_icmp_ne (pc := 66) (tgt := 71) C dX6_layer_66 (by decide) (fun c_112 => ?_) (fun c_112 => ?_)
                · replace hF := And.left hF c_112
                  refine zv_bipush (pc := 71) (v := 6) C (by decide) dX6_layer_71 ?_
                  refine zv_iload_n (pc := 73) C rfl 1 rfl dX6_layer_73 ?_
                  refine zv_imul (pc := 74) C  dX6_layer_74 ?_
                  refine zv_aload_n (pc := 75) C rfl 0 rfl dX6_layer_75 ?_
                  refine zv_get (pc := 76) (CC := RX6) (T := TX6) (N := 22) (ci := 5) (v := .ref qM5) C zi_X6_layer_X6 0 rfl 5 (by decide) zf_X6_layer_22 rfl rfl dX6_layer_76 ?_
                  refine zv_iload_n (pc := 79) C rfl 1 rfl dX6_layer_79 ?_
                  obtain ⟨h_113, hF⟩ := hF
                  refine zv_iald (pc := 80) (n := 2) (f := (T_108 5)) C 5 h_113 rfl dX6_layer_80 ?_
                  refine zv_iadd (pc := 81) C  dX6_layer_81 ?_
                  refine zv_topi (fun x6_114 ex6_114 => ?_)
                  replace hF := hF x6_114 ex6_114
                  refine zv_istore (pc := 82) (lv' := [(6, .int x6_114), (0, .ref adM), (1, .int a1), (2, .int a2), (3, .int a3), (4, .int a4), (5, .int a5)]) C (by decide) rfl dX6_layer_82 ?_
                  obtain ⟨kf, hF⟩ := hF
                  refine zv_lvs [1, 2, 3, 4, 5, 6, 0] rfl (zl_X6_layer_84 adM qM1 qM2 qM3 qM4 qM5 qM6 qM7 qM8 qM12 qM13 qM15 qM16 qM17 qM18 qM19 qM20 qM21 a1 a2 a3 a4 a5 _ C ?_ kf x6_114 T_108 hF)
                  · intro T_115 hF
                    refine zv_iload_n (pc := 149) C rfl 3 rfl dX6_layer_149 ?_
                    refine zv_iload (pc := 150) C 4 rfl dX6_layer_150 ?_
                    refine zv_ci0 (pc := 152) (ws' := (fun uz : Unit => (zd_X6_layer cI adM qM1 qM2 qM3 qM4 qM5 qM6 qM7 qM8 qM12 qM13 qM15 qM16 qM17 qM18 qM19 qM20 qM21 T_115))) C (zv_runS (As := [.int a3, .int a4]) (rest := []) C (zc_X6_shared l G cI a3 a4 _ hF) (va_cwS 2 C.2.2.2.2.1 gX6_layer_X6_shared rfl rfl rfl zy_X6_shared ⟨Nat.le_of_ble_eq_true rfl, Nat.le_of_ble_eq_true rfl⟩) rfl rfl (Nat.le_of_ble_eq_true rfl) ⟨Nat.zero_le _, Nat.zero_le _⟩ dX6_layer_152) [] [0, 1, 2, 3, 4, 5, 6, 7, 8, 9, 10, 11, 12, 13, 14, 15, 16, 17] rfl rfl rfl rfl rfl (fun _ => rfl) (fun _ => rfl) (fun _ => rfl) (fun v_116 uz hF => ?_)
                    refine zv_istore (pc := 155) (lv' := [(6, .int v_116), (0, .ref adM), (1, .int a1), (2, .int a2), (3, .int a3), (4, .int a4), (5, .int a5)]) C (by decide) rfl dX6_layer_155 ?_
                    refine zv_aload_n (pc := 157) C rfl 1 rfl dX6_layer_157 ?_
                    refine zv_get (pc := 158) (CC := RX6) (T := TX6) (N := 22) (ci := 5) (v := .ref qM6) C zi_X6_layer_X6 0 rfl 6 (by decide) zf_X6_layer_25 rfl rfl dX6_layer_158 ?_
                    refine zv_bipush (pc := 161) (v := 6) C (by decide) dX6_layer_161 ?_
                    refine zv_iload_n (pc := 163) C rfl 2 rfl dX6_layer_163 ?_
                    refine zv_imul (pc := 164) C  dX6_layer_164 ?_
                    refine zv_iload_n (pc := 165) C rfl 3 rfl dX6_layer_165 ?_
                    refine zv_iadd (pc := 166) C  dX6_layer_166 ?_
                    refine zv_iload_n (pc := 167) C rfl 4 rfl dX6_layer_167 ?_
                    refine zv_iload (pc := 168) C 0 rfl dX6_layer_168 ?_
                    obtain ⟨hz_117, hF⟩ := hF
                    refine zv_idiv (pc := 170) C hz_117 dX6_layer_170 ?_
                    obtain ⟨h_118, hF⟩ := hF
                    obtain ⟨r_119, er_119⟩ : ∃ y : zRow, y = (upd (T_115 6) (Int32.toNatClampNeg (((6 : Int32) * a1) + a2)) (a3 / v_116)) := ⟨_, rfl⟩
                    replace hF := hF r_119 er_119
                    refine zv_iast (pc := 171) (n := 12) (f := (T_115 6)) (ws' := (zd_X6_layer cI adM qM1 qM2 qM3 qM4 qM5 qM6 qM7 qM8 qM12 qM13 qM15 qM16 qM17 qM18 qM19 qM20 qM21 (zset T_115 6 r_119))) C 6 h_118 rfl (by rw [er_119]; rfl) dX6_layer_171 ?_
                    refine zv_aload_n (pc := 172) C rfl 1 rfl dX6_layer_172 ?_
                    refine zv_get (pc := 173) (CC := RX6) (T := TX6) (N := 22) (ci := 5) (v := .ref qM7) C zi_X6_layer_X6 0 rfl 7 (by decide) zf_X6_layer_28 rfl rfl dX6_layer_173 ?_
                    refine zv_bipush (pc := 176) (v := 6) C (by decide) dX6_layer_176 ?_
                    refine zv_iload_n (pc := 178) C rfl 2 rfl dX6_layer_178 ?_
                    refine zv_imul (pc := 179) C  dX6_layer_179 ?_
                    refine zv_iload_n (pc := 180) C rfl 3 rfl dX6_layer_180 ?_
                    refine zv_iadd (pc := 181) C  dX6_layer_181 ?_
                    refine zv_iload (pc := 182) C 5 rfl dX6_layer_182 ?_
                    refine zv_iload (pc := 184) C 0 rfl dX6_layer_184 ?_
                    obtain ⟨hz_120, hF⟩ := hF
                    refine zv_idiv (pc := 186) C hz_120 dX6_layer_186 ?_
                    obtain ⟨h_121, hF⟩ := hF
                    obtain ⟨r_122, er_122⟩ : ∃ y : zRow, y = (upd (T_115 7) (Int32.toNatClampNeg (((6 : Int32) * a1) + a2)) (a4 / v_116)) := ⟨_, rfl⟩
                    replace hF := hF r_122 er_122
                    refine zv_iast (pc := 187) (n := 12) (f := (T_115 7)) (ws' := (zd_X6_layer cI adM qM1 qM2 qM3 qM4 qM5 qM6 qM7 qM8 qM12 qM13 qM15 qM16 qM17 qM18 qM19 qM20 qM21 (zset (zset T_115 6 r_119) 7 r_122))) C 7 h_121 rfl (by rw [er_122]; rfl) dX6_layer_187 ?_
                    refine zv_aload_n (pc := 188) C rfl 1 rfl dX6_layer_188 ?_
                    refine zv_get (pc := 189) (CC := RX6) (T := TX6) (N := 22) (ci := 5) (v := .ref qM8) C zi_X6_layer_X6 0 rfl 8 (by decide) zf_X6_layer_31 rfl rfl dX6_layer_189 ?_
                    refine zv_bipush (pc := 192) (v := 6) C (by decide) dX6_layer_192 ?_
                    refine zv_iload_n (pc := 194) C rfl 2 rfl dX6_layer_194 ?_
                    refine zv_imul (pc := 195) C  dX6_layer_195 ?_
                    refine zv_iload_n (pc := 196) C rfl 3 rfl dX6_layer_196 ?_
                    refine zv_iadd (pc := 197) C  dX6_layer_197 ?_
                    refine zv_iload (pc := 198) C 6 rfl dX6_layer_198 ?_
                    obtain ⟨h_123, hF⟩ := hF
                    obtain ⟨r_124, er_124⟩ : ∃ y : zRow, y = (upd (T_115 8) (Int32.toNatClampNeg (((6 : Int32) * a1) + a2)) a5) := ⟨_, rfl⟩
                    replace hF := hF r_124 er_124
                    refine zv_iast (pc := 200) (n := 12) (f := (T_115 8)) (ws' := (zd_X6_layer cI adM qM1 qM2 qM3 qM4 qM5 qM6 qM7 qM8 qM12 qM13 qM15 qM16 qM17 qM18 qM19 qM20 qM21 (zset (zset (zset T_115 6 r_119) 7 r_122) 8 r_124))) C 8 h_123 rfl (by rw [er_124]; rfl) dX6_layer_200 ?_
                    refine zv_aload_n (pc := 201) C rfl 1 rfl dX6_layer_201 ?_
                    refine zv_get (pc := 202) (CC := RX6) (T := TX6) (N := 22) (ci := 5) (v := .ref qM5) C zi_X6_layer_X6 0 rfl 5 (by decide) zf_X6_layer_22 rfl rfl dX6_layer_202 ?_
                    refine zv_iload_n (pc := 205) C rfl 2 rfl dX6_layer_205 ?_
                    refine zv_dup2 (pc := 206) C rfl rfl dX6_layer_206 ?_
                    obtain ⟨h_125, hF⟩ := hF
                    refine zv_iald (pc := 207) (n := 2) (f := (T_115 5)) C 5 h_125 rfl dX6_layer_207 ?_
                    refine zv_iconst (pc := 208) (v := 1) C (by decide) dX6_layer_208 ?_
                    refine zv_iadd (pc := 209) C  dX6_layer_209 ?_
                    obtain ⟨h_126, hF⟩ := hF
                    obtain ⟨r_127, er_127⟩ : ∃ y : zRow, y = (upd (T_115 5) (Int32.toNatClampNeg a1) (((T_115 5) (Int32.toNatClampNeg a1)) + (1 : Int32))) := ⟨_, rfl⟩
                    replace hF := hF r_127 er_127
                    refine zv_iast (pc := 210) (n := 2) (f := (T_115 5)) (ws' := (zd_X6_layer cI adM qM1 qM2 qM3 qM4 qM5 qM6 qM7 qM8 qM12 qM13 qM15 qM16 qM17 qM18 qM19 qM20 qM21 (zset (zset (zset (zset T_115 5 r_127) 6 r_119) 7 r_122) 8 r_124))) C 5 h_126 rfl (by rw [er_127]; rfl) dX6_layer_210 ?_
                    refine zv_aload_n (pc := 211) C rfl 1 rfl dX6_layer_211 ?_
                    refine zv_get (pc := 212) (CC := RX6) (T := TX6) (N := 22) (ci := 5) (v := .ref qM5) C zi_X6_layer_X6 0 rfl 5 (by decide) zf_X6_layer_22 rfl rfl dX6_layer_212 ?_
                    refine zv_iload_n (pc := 215) C rfl 2 rfl dX6_layer_215 ?_
                    obtain ⟨h_128, hF⟩ := hF
                    refine zv_iald (pc := 216) (n := 2) (f := r_127) C 5 h_128 rfl dX6_layer_216 ?_
                    exact zv_iret (pc := 217) C hr hlk (r_127 (Int32.toNatClampNeg a1)) (zset (zset (zset (zset T_115 5 r_127) 6 r_119) 7 r_122) 8 r_124) hF rfl dX6_layer_217
                · replace hF := And.right hF c_112
                  refine zv_iconst (pc := 69) (v := -1) C (by decide) dX6_layer_69 ?_
                  exact zv_iret (pc := 70) C hr hlk (-1 : Int32) T_108 hF rfl dX6_layer_70
              · replace hF := And.right hF c_110
                refine zv_iconst (pc := 56) (v := 0) C (by decide) dX6_layer_56 ?_
                exact zv_iret (pc := 57) C hr hlk (0 : Int32) T_108 hF rfl dX6_layer_57
            · skip
              refine zv_icmp_gt (pc := 41) (tgt := 48) C dX6_layer_41 (by decide) (fun c_105 => ?_) (fun c_105 => ?_)
              · replace hF := And.left hF c_105
                refine zv_iconst (pc := 48) (v := 0) C (by decide) dX6_layer_48 ?_
                exact zv_lvs [0, 1, 2, 3, 4, 5] rfl (hKJ_107 (0 : Int32) hF)
              · replace hF := And.right hF c_105
                refine zv_iconst (pc := 44) (v := 1) C (by decide) dX6_layer_44 ?_
                refine zv_goto (pc := 45) (tgt := 49) C dX6_layer_45 (by decide) ?_
                exact zv_lvs [0, 1, 2, 3, 4, 5] rfl (hKJ_107 (1 : Int32) hF)
theorem zf_X6_drop_22 : Cond.fieldLink RX6 22 "GlassStackModel" "many" "[I" ∈ wsX6_drop := (List.mem_of_getElem? (i := 1) rfl)
theorem zf_X6_drop_25 : Cond.fieldLink RX6 25 "GlassStackModel" "up" "[I" ∈ wsX6_drop := (List.mem_of_getElem? (i := 2) rfl)
theorem zf_X6_drop_28 : Cond.fieldLink RX6 28 "GlassStackModel" "low" "[I" ∈ wsX6_drop := (List.mem_of_getElem? (i := 3) rfl)
theorem zf_X6_drop_31 : Cond.fieldLink RX6 31 "GlassStackModel" "wide" "[I" ∈ wsX6_drop := (List.mem_of_getElem? (i := 4) rfl)
theorem zi_X6_drop_X6 : ∀ w ∈ wsX60, w ∈ wsX6_drop := fun w h => List.mem_cons_of_mem _ (List.mem_append_right _ h)
theorem zy_X6_drop : yX6_drop.cls = RX6 ∧ yX6_drop.cls ≠ "java/lang/invoke/MethodHandle" ∧ yX6_drop.cls ≠ "java/lang/invoke/VarHandle" ∧ (parseMethodDescriptor yX6_drop.desc).map (fun d => d.parameters.length) = some 2 := by decide +kernel
set_option maxHeartbeats 4000000 in
set_option maxRecDepth 100000 in
theorem zl_X6_drop_54 {p : Program} {l : Launch} {e : Env} {s : State} {m : MethodId} {args : Array Value} {below : List Frame} {meth : Method} {c : Code} {G : va_G} {cI : ClassId} {A : Nat → Prop} {Q : State → Prop} (adM qM1 qM2 qM3 qM4 qM5 qM6 qM7 qM8 qM12 qM13 qM15 qM16 qM17 qM18 qM19 qM20 qM21 : Nat) (c1 : Int32) (K117 : zMem → Prop) (C : zv_C p s m args c cX6_drop 4 RX6 wsX6_drop G cI A) (hK117 : ∀ (M : zMem), K117 M → zv_V p l e (headSpec wsX6_drop rmX6_drop).room s m args below meth c Q G A 4 0 0 (zd_X6_drop cI adM qM1 qM2 qM3 qM4 qM5 qM6 qM7 qM8 qM12 qM13 qM15 qM16 qM17 qM18 qM19 qM20 qM21 M) 117 [(0, .ref adM), (1, .int c1)] []) : ∀ (k : Nat) (p3 : Int32) (M : zMem), zw_X6_drop_54 c1 K117 k p3 M → zv_V p l e (headSpec wsX6_drop rmX6_drop).room s m args below meth c Q G A 4 0 0 (zd_X6_drop cI adM qM1 qM2 qM3 qM4 qM5 qM6 qM7 qM8 qM12 qM13 qM15 qM16 qM17 qM18 qM19 qM20 qM21 M) 54 [(0, .ref adM), (1, .int c1), (3, .int p3)] [] := by
  intro k
  induction k with
  | zero => intro p3 M hF; exact (show False from hF).elim
  | succ k ih =>
    intro p3 M hF
    refine zv_iload_n (pc := 54) C rfl 2 rfl dX6_drop_54 ?_
    refine zv_bipush (pc := 55) (v := 6) C (by decide) dX6_drop_55 ?_
    refine zv_iload_n (pc := 57) C rfl 1 rfl dX6_drop_57 ?_
    refine zv_imul (pc := 58) C  dX6_drop_58 ?_
    refine zv_aload_n (pc := 59) C rfl 0 rfl dX6_drop_59 ?_
    refine zv_get (pc := 60) (CC := RX6) (T := TX6) (N := 22) (ci := 5) (v := .ref qM5) C zi_X6_drop_X6 0 rfl 5 (by decide) zf_X6_drop_22 rfl rfl dX6_drop_60 ?_
    refine zv_iload_n (pc := 63) C rfl 1 rfl dX6_drop_63 ?_
    obtain ⟨h_12, hF⟩ := hF
    refine zv_iald (pc := 64) (n := 2) (f := (M 5)) C 5 h_12 rfl dX6_drop_64 ?_
    refine zv_iadd (pc := 65) C  dX6_drop_65 ?_
    refine zv_icmp_ge (pc := 66) (tgt := 117) C dX6_drop_66 (by decide) (fun c_13 => ?_) (fun c_13 => ?_)
    · replace hF := And.left hF c_13
      exact zv_lvs [0, 1] rfl (hK117 M hF)
    · replace hF := And.right hF c_13
      refine zv_aload_n (pc := 69) C rfl 0 rfl dX6_drop_69 ?_
      refine zv_get (pc := 70) (CC := RX6) (T := TX6) (N := 22) (ci := 5) (v := .ref qM6) C zi_X6_drop_X6 0 rfl 6 (by decide) zf_X6_drop_25 rfl rfl dX6_drop_70 ?_
      refine zv_iload_n (pc := 73) C rfl 2 rfl dX6_drop_73 ?_
      refine zv_aload_n (pc := 74) C rfl 0 rfl dX6_drop_74 ?_
      refine zv_get (pc := 75) (CC := RX6) (T := TX6) (N := 22) (ci := 5) (v := .ref qM6) C zi_X6_drop_X6 0 rfl 6 (by decide) zf_X6_drop_25 rfl rfl dX6_drop_75 ?_
      refine zv_iload_n (pc := 78) C rfl 2 rfl dX6_drop_78 ?_
      refine zv_iconst (pc := 79) (v := 1) C (by decide) dX6_drop_79 ?_
      refine zv_iadd (pc := 80) C  dX6_drop_80 ?_
      obtain ⟨h_14, hF⟩ := hF
      refine zv_iald (pc := 81) (n := 12) (f := (M 6)) C 6 h_14 rfl dX6_drop_81 ?_
      obtain ⟨h_15, hF⟩ := hF
      obtain ⟨r_16, er_16⟩ : ∃ y : zRow, y = (upd (M 6) (Int32.toNatClampNeg p3) ((M 6) (Int32.toNatClampNeg (p3 + (1 : Int32))))) := ⟨_, rfl⟩
      replace hF := hF r_16 er_16
      refine zv_iast (pc := 82) (n := 12) (f := (M 6)) (ws' := (zd_X6_drop cI adM qM1 qM2 qM3 qM4 qM5 qM6 qM7 qM8 qM12 qM13 qM15 qM16 qM17 qM18 qM19 qM20 qM21 (zset M 6 r_16))) C 6 h_15 rfl (by rw [er_16]; rfl) dX6_drop_82 ?_
      refine zv_aload_n (pc := 83) C rfl 0 rfl dX6_drop_83 ?_
      refine zv_get (pc := 84) (CC := RX6) (T := TX6) (N := 22) (ci := 5) (v := .ref qM7) C zi_X6_drop_X6 0 rfl 7 (by decide) zf_X6_drop_28 rfl rfl dX6_drop_84 ?_
      refine zv_iload_n (pc := 87) C rfl 2 rfl dX6_drop_87 ?_
      refine zv_aload_n (pc := 88) C rfl 0 rfl dX6_drop_88 ?_
      refine zv_get (pc := 89) (CC := RX6) (T := TX6) (N := 22) (ci := 5) (v := .ref qM7) C zi_X6_drop_X6 0 rfl 7 (by decide) zf_X6_drop_28 rfl rfl dX6_drop_89 ?_
      refine zv_iload_n (pc := 92) C rfl 2 rfl dX6_drop_92 ?_
      refine zv_iconst (pc := 93) (v := 1) C (by decide) dX6_drop_93 ?_
      refine zv_iadd (pc := 94) C  dX6_drop_94 ?_
      obtain ⟨h_17, hF⟩ := hF
      refine zv_iald (pc := 95) (n := 12) (f := (M 7)) C 7 h_17 rfl dX6_drop_95 ?_
      obtain ⟨h_18, hF⟩ := hF
      obtain ⟨r_19, er_19⟩ : ∃ y : zRow, y = (upd (M 7) (Int32.toNatClampNeg p3) ((M 7) (Int32.toNatClampNeg (p3 + (1 : Int32))))) := ⟨_, rfl⟩
      replace hF := hF r_19 er_19
      refine zv_iast (pc := 96) (n := 12) (f := (M 7)) (ws' := (zd_X6_drop cI adM qM1 qM2 qM3 qM4 qM5 qM6 qM7 qM8 qM12 qM13 qM15 qM16 qM17 qM18 qM19 qM20 qM21 (zset (zset M 6 r_16) 7 r_19))) C 7 h_18 rfl (by rw [er_19]; rfl) dX6_drop_96 ?_
      refine zv_aload_n (pc := 97) C rfl 0 rfl dX6_drop_97 ?_
      refine zv_get (pc := 98) (CC := RX6) (T := TX6) (N := 22) (ci := 5) (v := .ref qM8) C zi_X6_drop_X6 0 rfl 8 (by decide) zf_X6_drop_31 rfl rfl dX6_drop_98 ?_
      refine zv_iload_n (pc := 101) C rfl 2 rfl dX6_drop_101 ?_
      refine zv_aload_n (pc := 102) C rfl 0 rfl dX6_drop_102 ?_
      refine zv_get (pc := 103) (CC := RX6) (T := TX6) (N := 22) (ci := 5) (v := .ref qM8) C zi_X6_drop_X6 0 rfl 8 (by decide) zf_X6_drop_31 rfl rfl dX6_drop_103 ?_
      refine zv_iload_n (pc := 106) C rfl 2 rfl dX6_drop_106 ?_
      refine zv_iconst (pc := 107) (v := 1) C (by decide) dX6_drop_107 ?_
      refine zv_iadd (pc := 108) C  dX6_drop_108 ?_
      obtain ⟨h_20, hF⟩ := hF
      refine zv_iald (pc := 109) (n := 12) (f := (M 8)) C 8 h_20 rfl dX6_drop_109 ?_
      obtain ⟨h_21, hF⟩ := hF
      obtain ⟨r_22, er_22⟩ : ∃ y : zRow, y = (upd (M 8) (Int32.toNatClampNeg p3) ((M 8) (Int32.toNatClampNeg (p3 + (1 : Int32))))) := ⟨_, rfl⟩
      replace hF := hF r_22 er_22
      refine zv_iast (pc := 110) (n := 12) (f := (M 8)) (ws' := (zd_X6_drop cI adM qM1 qM2 qM3 qM4 qM5 qM6 qM7 qM8 qM12 qM13 qM15 qM16 qM17 qM18 qM19 qM20 qM21 (zset (zset (zset M 6 r_16) 7 r_19) 8 r_22))) C 8 h_21 rfl (by rw [er_22]; rfl) dX6_drop_110 ?_
      obtain ⟨x3_23, ex3_23⟩ : ∃ y : Int32, y = p3 + (1 : Int32) := ⟨_, rfl⟩
      replace hF := hF x3_23 ex3_23
      refine zv_iinc (pc := 111) (v := x3_23) (lv' := [(3, .int x3_23), (0, .ref adM), (1, .int c1)]) C 2 rfl (by rw [ex3_23]; rfl) (by decide) rfl dX6_drop_111 ?_
      refine zv_goto (pc := 114) (tgt := 54) C dX6_drop_114 (by decide) ?_
      exact zv_lvs [1, 2, 0] rfl (ih x3_23 (zset (zset (zset M 6 r_16) 7 r_19) 8 r_22) hF)
set_option maxHeartbeats 4000000 in
set_option maxRecDepth 100000 in
theorem zc_X6_drop (l : Launch) (G : va_G) (cI : ClassId) (adM qM1 qM2 qM3 qM4 qM5 qM6 qM7 qM8 qM12 qM13 qM15 qM16 qM17 qM18 qM19 qM20 qM21 : Nat) (M : zMem) (a1 : Int32) (a2 : Int32) (post : Int32 → zMem → Prop) (hF : zw_X6_drop M a1 a2 post) (sz : Nat) : Met l yX6_drop wsX6_drop rmX6_drop (va_Pc [.ref adM, .int a1, .int a2] (zv_in G cI (zd_X6_drop cI adM qM1 qM2 qM3 qM4 qM5 qM6 qM7 qM8 qM12 qM13 qM15 qM16 qM17 qM18 qM19 qM20 qM21 M) sz)) (va_Qi (fun (rz : Int32) (uz : zMem) => post rz uz) (fun (uz : zMem) t => zv_out G cI (va_A (zd_X6_drop cI adM qM1 qM2 qM3 qM4 qM5 qM6 qM7 qM8 qM12 qM13 qM15 qM16 qM17 qM18 qM19 qM20 qM21 M) sz) (zd_X6_drop cI adM qM1 qM2 qM3 qM4 qM5 qM6 qM7 qM8 qM12 qM13 qM15 qM16 qM17 qM18 qM19 qM20 qM21 uz) t) (va_A (zd_X6_drop cI adM qM1 qM2 qM3 qM4 qM5 qM6 qM7 qM8 qM12 qM13 qM15 qM16 qM17 qM18 qM19 qM20 qM21 M) sz)) 0 0 (va_A (zd_X6_drop cI adM qM1 qM2 qM3 qM4 qM5 qM6 qM7 qM8 qM12 qM13 qM15 qM16 qM17 qM18 qM19 qM20 qM21 M) sz) := by
  refine zv_met (cc := cX6_drop) (maxL := 4) (ret := (some .int)) (lv0 := [(0, .ref adM), (1, .int a1), (2, .int a2)]) (Qc := fun A => va_Qi (fun (rz : Int32) (uz : zMem) => post rz uz) (fun (uz : zMem) t => zv_out G cI A (zd_X6_drop cI adM qM1 qM2 qM3 qM4 qM5 qM6 qM7 qM8 qM12 qM13 qM15 qM16 qM17 qM18 qM19 qM20 qM21 uz) t) A) (by decide) rfl (Nat.le_of_ble_eq_true rfl) rfl ?_ sz
  intro p e s m below meth c A C hr hlk
  clear sz
  refine zv_aload_n (pc := 0) C rfl 0 rfl dX6_drop_0 ?_
  refine zv_iload_n (pc := 1) C rfl 1 rfl dX6_drop_1 ?_
  refine zv_ci0 (pc := 2) (ws' := (fun uz : zMem => (zd_X6_drop cI adM qM1 qM2 qM3 qM4 qM5 qM6 qM7 qM8 qM12 qM13 qM15 qM16 qM17 qM18 qM19 qM20 qM21 uz))) C (zv_runV (As := [.int a1]) (b := adM) (rest := []) (ci := 5) (q0 := 0) C (zc_X6_isStack l G cI adM qM1 qM2 qM3 qM4 qM5 qM6 qM7 qM8 qM12 qM13 qM15 qM16 qM17 qM18 qM19 qM20 qM21 M a1 _ hF) (cwV 1 C.2.2.2.2.1 gX6_drop_X6_isStack rfl rfl rfl zy_X6_isStack ⟨Nat.le_of_ble_eq_true rfl, Nat.le_of_ble_eq_true rfl⟩) rfl rfl rfl rfl rfl (Nat.le_of_ble_eq_true rfl) ⟨Nat.zero_le _, Nat.zero_le _⟩ dX6_drop_2) [0, 1, 2, 3, 4, 5, 6, 7, 8, 9, 10, 11, 12, 13, 14, 15, 16, 17] [] rfl rfl rfl rfl rfl (fun _ => rfl) (fun _ => rfl) (fun _ => rfl) (fun v_2 uz hF => ?_)
  obtain ⟨T_1, hE⟩ : ∃ z, z = uz := ⟨_, rfl⟩; subst hE
  refine zv_if_eq (pc := 5) (tgt := 35) C dX6_drop_5 (by decide) (fun c_3 => ?_) (fun c_3 => ?_)
  · replace hF := And.left hF c_3
    refine zv_iconst (pc := 35) (v := 0) C (by decide) dX6_drop_35 ?_
    exact zv_iret (pc := 36) C hr hlk (0 : Int32) T_1 hF rfl dX6_drop_36
  · replace hF := And.right hF c_3
    refine zv_aload_n (pc := 8) C rfl 0 rfl dX6_drop_8 ?_
    refine zv_iload_n (pc := 9) C rfl 2 rfl dX6_drop_9 ?_
    refine zv_if_lt (pc := 10) (tgt := 27) C dX6_drop_10 (by decide) (fun c_4 => ?_) (fun c_4 => ?_)
    · replace hF := And.left hF c_4
      refine zv_iconst (pc := 27) (v := 0) C (by decide) dX6_drop_27 ?_
      refine zv_iconst (pc := 28) (v := 2) C (by decide) dX6_drop_28 ?_
      refine zv_ci0 (pc := 29) (ws' := (fun uz : zMem => (zd_X6_drop cI adM qM1 qM2 qM3 qM4 qM5 qM6 qM7 qM8 qM12 qM13 qM15 qM16 qM17 qM18 qM19 qM20 qM21 uz))) C (zv_runV (As := [.int (0 : Int32), .int (2 : Int32)]) (b := adM) (rest := []) (ci := 5) (q0 := 0) C (zc_X6_right l G cI adM qM1 qM2 qM3 qM4 qM5 qM6 qM7 qM8 qM12 qM13 qM15 qM16 qM17 qM18 qM19 qM20 qM21 T_1 (0 : Int32) (2 : Int32) _ hF) (cwV 2 C.2.2.2.2.1 gX6_drop_X6_right rfl rfl rfl zy_X6_right ⟨Nat.le_of_ble_eq_true rfl, Nat.le_of_ble_eq_true rfl⟩) rfl rfl rfl rfl rfl (Nat.le_of_ble_eq_true rfl) ⟨Nat.zero_le _, Nat.zero_le _⟩ dX6_drop_29) [0, 1, 2, 3, 4, 5, 6, 7, 8, 9, 10, 11, 12, 13, 14, 15, 16, 17] [] rfl rfl rfl rfl rfl (fun _ => rfl) (fun _ => rfl) (fun _ => rfl) (fun v_6 uz hF => ?_)
      obtain ⟨T_5, hE⟩ : ∃ z, z = uz := ⟨_, rfl⟩; subst hE
      refine zv_if_ne (pc := 32) (tgt := 37) C dX6_drop_32 (by decide) (fun c_7 => ?_) (fun c_7 => ?_)
      · replace hF := And.left hF c_7
        refine zv_aload_n (pc := 37) C rfl 0 rfl dX6_drop_37 ?_
        refine zv_get (pc := 38) (CC := RX6) (T := TX6) (N := 22) (ci := 5) (v := .ref qM5) C zi_X6_drop_X6 0 rfl 5 (by decide) zf_X6_drop_22 rfl rfl dX6_drop_38 ?_
        refine zv_iload_n (pc := 41) C rfl 1 rfl dX6_drop_41 ?_
        refine zv_dup2 (pc := 42) C rfl rfl dX6_drop_42 ?_
        obtain ⟨h_8, hF⟩ := hF
        refine zv_iald (pc := 43) (n := 2) (f := (T_5 5)) C 5 h_8 rfl dX6_drop_43 ?_
        refine zv_iconst (pc := 44) (v := 1) C (by decide) dX6_drop_44 ?_
        refine zv_isub (pc := 45) C  dX6_drop_45 ?_
        obtain ⟨h_9, hF⟩ := hF
        obtain ⟨r_10, er_10⟩ : ∃ y : zRow, y = (upd (T_5 5) (Int32.toNatClampNeg a1) (((T_5 5) (Int32.toNatClampNeg a1)) - (1 : Int32))) := ⟨_, rfl⟩
        replace hF := hF r_10 er_10
        refine zv_iast (pc := 46) (n := 2) (f := (T_5 5)) (ws' := (zd_X6_drop cI adM qM1 qM2 qM3 qM4 qM5 qM6 qM7 qM8 qM12 qM13 qM15 qM16 qM17 qM18 qM19 qM20 qM21 (zset T_5 5 r_10))) C 5 h_9 rfl (by rw [er_10]; rfl) dX6_drop_46 ?_
        refine zv_bipush (pc := 47) (v := 6) C (by decide) dX6_drop_47 ?_
        refine zv_iload_n (pc := 49) C rfl 1 rfl dX6_drop_49 ?_
        refine zv_imul (pc := 50) C  dX6_drop_50 ?_
        refine zv_iload_n (pc := 51) C rfl 2 rfl dX6_drop_51 ?_
        refine zv_iadd (pc := 52) C  dX6_drop_52 ?_
        refine zv_topi (fun x3_11 ex3_11 => ?_)
        replace hF := hF x3_11 ex3_11
        refine zv_istore_n (pc := 53) (lv' := [(3, .int x3_11), (0, .ref adM), (1, .int a1), (2, .int a2)]) C rfl (by decide) rfl dX6_drop_53 ?_
        obtain ⟨kf, hF⟩ := hF
        refine zv_lvs [1, 2, 0] rfl (zl_X6_drop_54 adM qM1 qM2 qM3 qM4 qM5 qM6 qM7 qM8 qM12 qM13 qM15 qM16 qM17 qM18 qM19 qM20 qM21 a1 _ C ?_ kf x3_11 (zset T_5 5 r_10) hF)
        · intro T_24 hF
          refine zv_aload_n (pc := 117) C rfl 0 rfl dX6_drop_117 ?_
          refine zv_get (pc := 118) (CC := RX6) (T := TX6) (N := 22) (ci := 5) (v := .ref qM5) C zi_X6_drop_X6 0 rfl 5 (by decide) zf_X6_drop_22 rfl rfl dX6_drop_118 ?_
          refine zv_iload_n (pc := 121) C rfl 1 rfl dX6_drop_121 ?_
          obtain ⟨h_25, hF⟩ := hF
          refine zv_iald (pc := 122) (n := 2) (f := (T_24 5)) C 5 h_25 rfl dX6_drop_122 ?_
          exact zv_iret (pc := 123) C hr hlk ((T_24 5) (Int32.toNatClampNeg a1)) T_24 hF rfl dX6_drop_123
      · replace hF := And.right hF c_7
        refine zv_iconst (pc := 35) (v := 0) C (by decide) dX6_drop_35 ?_
        exact zv_iret (pc := 36) C hr hlk (0 : Int32) T_5 hF rfl dX6_drop_36
    · replace hF := And.right hF c_4
      refine zv_iload_n (pc := 13) C rfl 2 rfl dX6_drop_13 ?_
      refine zv_aload_n (pc := 14) C rfl 0 rfl dX6_drop_14 ?_
      refine zv_get (pc := 15) (CC := RX6) (T := TX6) (N := 22) (ci := 5) (v := .ref qM5) C zi_X6_drop_X6 0 rfl 5 (by decide) zf_X6_drop_22 rfl rfl dX6_drop_15 ?_
      refine zv_iload_n (pc := 18) C rfl 1 rfl dX6_drop_18 ?_
      obtain ⟨h_26, hF⟩ := hF
      refine zv_iald (pc := 19) (n := 2) (f := (T_1 5)) C 5 h_26 rfl dX6_drop_19 ?_
      obtain ⟨KJ_29, h0KJ_29, hF⟩ := hF
      refine zv_join (α := Int32) (KK := fun uz => KJ_29 uz) (wsJ := fun uz => (zd_X6_drop cI adM qM1 qM2 qM3 qM4 qM5 qM6 qM7 qM8 qM12 qM13 qM15 qM16 qM17 qM18 qM19 qM20 qM21 T_1)) (pcJ := 28) (lvJ := fun uz => [(0, .ref adM), (1, .int a1), (2, .int a2)]) (stJ := fun uz => [.int uz, .ref adM]) ?_ (fun hKJ_29 => ?_)
      · rintro v_28 hF
        replace hF := h0KJ_29 v_28 hF
        refine zv_iconst (pc := 28) (v := 2) C (by decide) dX6_drop_28 ?_
        refine zv_ci0 (pc := 29) (ws' := (fun uz : zMem => (zd_X6_drop cI adM qM1 qM2 qM3 qM4 qM5 qM6 qM7 qM8 qM12 qM13 qM15 qM16 qM17 qM18 qM19 qM20 qM21 uz))) C (zv_runV (As := [.int v_28, .int (2 : Int32)]) (b := adM) (rest := []) (ci := 5) (q0 := 0) C (zc_X6_right l G cI adM qM1 qM2 qM3 qM4 qM5 qM6 qM7 qM8 qM12 qM13 qM15 qM16 qM17 qM18 qM19 qM20 qM21 T_1 v_28 (2 : Int32) _ hF) (cwV 2 C.2.2.2.2.1 gX6_drop_X6_right rfl rfl rfl zy_X6_right ⟨Nat.le_of_ble_eq_true rfl, Nat.le_of_ble_eq_true rfl⟩) rfl rfl rfl rfl rfl (Nat.le_of_ble_eq_true rfl) ⟨Nat.zero_le _, Nat.zero_le _⟩ dX6_drop_29) [0, 1, 2, 3, 4, 5, 6, 7, 8, 9, 10, 11, 12, 13, 14, 15, 16, 17] [] rfl rfl rfl rfl rfl (fun _ => rfl) (fun _ => rfl) (fun _ => rfl) (fun v_31 uz hF => ?_)
        obtain ⟨T_30, hE⟩ : ∃ z, z = uz := ⟨_, rfl⟩; subst hE
        refine zv_if_ne (pc := 32) (tgt := 37) C dX6_drop_32 (by decide) (fun c_32 => ?_) (fun c_32 => ?_)
        · replace hF := And.left hF c_32
          refine zv_aload_n (pc := 37) C rfl 0 rfl dX6_drop_37 ?_
          refine zv_get (pc := 38) (CC := RX6) (T := TX6) (N := 22) (ci := 5) (v := .ref qM5) C zi_X6_drop_X6 0 rfl 5 (by decide) zf_X6_drop_22 rfl rfl dX6_drop_38 ?_
          refine zv_iload_n (pc := 41) C rfl 1 rfl dX6_drop_41 ?_
          refine zv_dup2 (pc := 42) C rfl rfl dX6_drop_42 ?_
          obtain ⟨h_33, hF⟩ := hF
          refine zv_iald (pc := 43) (n := 2) (f := (T_30 5)) C 5 h_33 rfl dX6_drop_43 ?_
          refine zv_iconst (pc := 44) (v := 1) C (by decide) dX6_drop_44 ?_
          refine zv_isub (pc := 45) C  dX6_drop_45 ?_
          obtain ⟨h_34, hF⟩ := hF
          obtain ⟨r_35, er_35⟩ : ∃ y : zRow, y = (upd (T_30 5) (Int32.toNatClampNeg a1) (((T_30 5) (Int32.toNatClampNeg a1)) - (1 : Int32))) := ⟨_, rfl⟩
          replace hF := hF r_35 er_35
          refine zv_iast (pc := 46) (n := 2) (f := (T_30 5)) (ws' := (zd_X6_drop cI adM qM1 qM2 qM3 qM4 qM5 qM6 qM7 qM8 qM12 qM13 qM15 qM16 qM17 qM18 qM19 qM20 qM21 (zset T_30 5 r_35))) C 5 h_34 rfl (by rw [er_35]; rfl) dX6_drop_46 ?_
          refine zv_bipush (pc := 47) (v := 6) C (by decide) dX6_drop_47 ?_
          refine zv_iload_n (pc := 49) C rfl 1 rfl dX6_drop_49 ?_
          refine zv_imul (pc := 50) C  dX6_drop_50 ?_
          refine zv_iload_n (pc := 51) C rfl 2 rfl dX6_drop_51 ?_
          refine zv_iadd (pc := 52) C  dX6_drop_52 ?_
          refine zv_topi (fun x3_36 ex3_36 => ?_)
          replace hF := hF x3_36 ex3_36
          refine zv_istore_n (pc := 53) (lv' := [(3, .int x3_36), (0, .ref adM), (1, .int a1), (2, .int a2)]) C rfl (by decide) rfl dX6_drop_53 ?_
          obtain ⟨kf, hF⟩ := hF
          refine zv_lvs [1, 2, 0] rfl (zl_X6_drop_54 adM qM1 qM2 qM3 qM4 qM5 qM6 qM7 qM8 qM12 qM13 qM15 qM16 qM17 qM18 qM19 qM20 qM21 a1 _ C ?_ kf x3_36 (zset T_30 5 r_35) hF)
          · intro T_37 hF
            refine zv_aload_n (pc := 117) C rfl 0 rfl dX6_drop_117 ?_
            refine zv_get (pc := 118) (CC := RX6) (T := TX6) (N := 22) (ci := 5) (v := .ref qM5) C zi_X6_drop_X6 0 rfl 5 (by decide) zf_X6_drop_22 rfl rfl dX6_drop_118 ?_
            refine zv_iload_n (pc := 121) C rfl 1 rfl dX6_drop_121 ?_
            obtain ⟨h_38, hF⟩ := hF
            refine zv_iald (pc := 122) (n := 2) (f := (T_37 5)) C 5 h_38 rfl dX6_drop_122 ?_
            exact zv_iret (pc := 123) C hr hlk ((T_37 5) (Int32.toNatClampNeg a1)) T_37 hF rfl dX6_drop_123
        · replace hF := And.right hF c_32
          refine zv_iconst (pc := 35) (v := 0) C (by decide) dX6_drop_35 ?_
          exact zv_iret (pc := 36) C hr hlk (0 : Int32) T_30 hF rfl dX6_drop_36
      · skip
        refine zv_icmp_ge (pc := 20) (tgt := 27) C dX6_drop_20 (by decide) (fun c_27 => ?_) (fun c_27 => ?_)
        · replace hF := And.left hF c_27
          refine zv_iconst (pc := 27) (v := 0) C (by decide) dX6_drop_27 ?_
          exact zv_lvs [0, 1, 2] rfl (hKJ_29 (0 : Int32) hF)
        · replace hF := And.right hF c_27
          refine zv_iconst (pc := 23) (v := 1) C (by decide) dX6_drop_23 ?_
          refine zv_goto (pc := 24) (tgt := 28) C dX6_drop_24 (by decide) ?_
          exact zv_lvs [0, 1, 2] rfl (hKJ_29 (1 : Int32) hF)
theorem zf_X6_about_13 : Cond.fieldLink RX6 13 "GlassStackModel" "airLow" "[I" ∈ wsX6_about := (List.mem_of_getElem? (i := 3) rfl)
theorem zf_X6_about_16 : Cond.fieldLink RX6 16 "GlassStackModel" "groundUp" "[I" ∈ wsX6_about := (List.mem_of_getElem? (i := 4) rfl)
theorem zf_X6_about_19 : Cond.fieldLink RX6 19 "GlassStackModel" "groundLow" "[I" ∈ wsX6_about := (List.mem_of_getElem? (i := 5) rfl)
theorem zf_X6_about_22 : Cond.fieldLink RX6 22 "GlassStackModel" "many" "[I" ∈ wsX6_about := (List.mem_of_getElem? (i := 1) rfl)
theorem zf_X6_about_25 : Cond.fieldLink RX6 25 "GlassStackModel" "up" "[I" ∈ wsX6_about := (List.mem_of_getElem? (i := 6) rfl)
theorem zf_X6_about_28 : Cond.fieldLink RX6 28 "GlassStackModel" "low" "[I" ∈ wsX6_about := (List.mem_of_getElem? (i := 7) rfl)
theorem zf_X6_about_31 : Cond.fieldLink RX6 31 "GlassStackModel" "wide" "[I" ∈ wsX6_about := (List.mem_of_getElem? (i := 8) rfl)
theorem zf_X6_about_7 : Cond.fieldLink RX6 7 "GlassStackModel" "airUp" "[I" ∈ wsX6_about := (List.mem_of_getElem? (i := 2) rfl)
theorem zi_X6_about_X6 : ∀ w ∈ wsX60, w ∈ wsX6_about := fun w h => List.mem_cons_of_mem _ (List.mem_append_right _ h)
theorem zy_X6_about : yX6_about.cls = RX6 ∧ yX6_about.cls ≠ "java/lang/invoke/MethodHandle" ∧ yX6_about.cls ≠ "java/lang/invoke/VarHandle" ∧ (parseMethodDescriptor yX6_about.desc).map (fun d => d.parameters.length) = some 3 := by decide +kernel
set_option maxHeartbeats 4000000 in
set_option maxRecDepth 100000 in
theorem zc_X6_about (l : Launch) (G : va_G) (cI : ClassId) (adM qM1 qM2 qM3 qM4 qM5 qM6 qM7 qM8 qM12 qM13 qM15 qM16 qM17 qM18 qM19 qM20 qM21 : Nat) (M : zMem) (a1 : Int32) (a2 : Int32) (a3 : Int32) (post : Int32 → zMem → Prop) (hF : zw_X6_about M a1 a2 a3 post) (sz : Nat) : Met l yX6_about wsX6_about rmX6_about (va_Pc [.ref adM, .int a1, .int a2, .int a3] (zv_in G cI (zd_X6_about cI adM qM1 qM2 qM3 qM4 qM5 qM6 qM7 qM8 qM12 qM13 qM15 qM16 qM17 qM18 qM19 qM20 qM21 M) sz)) (va_Qi (fun (rz : Int32) (uz : zMem) => post rz uz) (fun (uz : zMem) t => zv_out G cI (va_A (zd_X6_about cI adM qM1 qM2 qM3 qM4 qM5 qM6 qM7 qM8 qM12 qM13 qM15 qM16 qM17 qM18 qM19 qM20 qM21 M) sz) (zd_X6_about cI adM qM1 qM2 qM3 qM4 qM5 qM6 qM7 qM8 qM12 qM13 qM15 qM16 qM17 qM18 qM19 qM20 qM21 uz) t) (va_A (zd_X6_about cI adM qM1 qM2 qM3 qM4 qM5 qM6 qM7 qM8 qM12 qM13 qM15 qM16 qM17 qM18 qM19 qM20 qM21 M) sz)) 0 0 (va_A (zd_X6_about cI adM qM1 qM2 qM3 qM4 qM5 qM6 qM7 qM8 qM12 qM13 qM15 qM16 qM17 qM18 qM19 qM20 qM21 M) sz) := by
  refine zv_met (cc := cX6_about) (maxL := 5) (ret := (some .int)) (lv0 := [(0, .ref adM), (1, .int a1), (2, .int a2), (3, .int a3)]) (Qc := fun A => va_Qi (fun (rz : Int32) (uz : zMem) => post rz uz) (fun (uz : zMem) t => zv_out G cI A (zd_X6_about cI adM qM1 qM2 qM3 qM4 qM5 qM6 qM7 qM8 qM12 qM13 qM15 qM16 qM17 qM18 qM19 qM20 qM21 uz) t) A) (by decide) rfl (Nat.le_of_ble_eq_true rfl) rfl ?_ sz
  intro p e s m below meth c A C hr hlk
  clear sz
  refine zv_aload_n (pc := 0) C rfl 0 rfl dX6_about_0 ?_
  refine zv_iload_n (pc := 1) C rfl 1 rfl dX6_about_1 ?_
  refine zv_ci0 (pc := 2) (ws' := (fun uz : zMem => (zd_X6_about cI adM qM1 qM2 qM3 qM4 qM5 qM6 qM7 qM8 qM12 qM13 qM15 qM16 qM17 qM18 qM19 qM20 qM21 uz))) C (zv_runV (As := [.int a1]) (b := adM) (rest := []) (ci := 5) (q0 := 0) C (zc_X6_isStack l G cI adM qM1 qM2 qM3 qM4 qM5 qM6 qM7 qM8 qM12 qM13 qM15 qM16 qM17 qM18 qM19 qM20 qM21 M a1 _ hF) (cwV 1 C.2.2.2.2.1 gX6_about_X6_isStack rfl rfl rfl zy_X6_isStack ⟨Nat.le_of_ble_eq_true rfl, Nat.le_of_ble_eq_true rfl⟩) rfl rfl rfl rfl rfl (Nat.le_of_ble_eq_true rfl) ⟨Nat.zero_le _, Nat.zero_le _⟩ dX6_about_2) [0, 1, 2, 3, 4, 5, 6, 7, 8, 9, 10, 11, 12, 13, 14, 15, 16, 17] [] rfl rfl rfl rfl rfl (fun _ => rfl) (fun _ => rfl) (fun _ => rfl) (fun v_2 uz hF => ?_)
  obtain ⟨T_1, hE⟩ : ∃ z, z = uz := ⟨_, rfl⟩; subst hE
  refine zv_if_ne (pc := 5) (tgt := 10) C dX6_about_5 (by decide) (fun c_3 => ?_) (fun c_3 => ?_)
  · replace hF := And.left hF c_3
    refine zv_iload_n (pc := 10) C rfl 2 rfl dX6_about_10 ?_
    refine zv_iconst (pc := 11) (v := -1) C (by decide) dX6_about_11 ?_
    obtain ⟨KJ_6, h0KJ_6, hF⟩ := hF
    refine zv_join (α := Int32) (KK := fun uz => KJ_6 uz) (wsJ := fun uz => (zd_X6_about cI adM qM1 qM2 qM3 qM4 qM5 qM6 qM7 qM8 qM12 qM13 qM15 qM16 qM17 qM18 qM19 qM20 qM21 T_1)) (pcJ := 84) (lvJ := fun uz => [(0, .ref adM), (1, .int a1), (2, .int a2), (3, .int a3)]) (stJ := fun uz => [.int uz]) ?_ (fun hKJ_6 => ?_)
    · rintro v_5 hF
      replace hF := h0KJ_6 v_5 hF
      refine zv_istore (pc := 84) (lv' := [(4, .int v_5), (0, .ref adM), (1, .int a1), (2, .int a2), (3, .int a3)]) C (by decide) rfl dX6_about_84 ?_
      refine zv_aload_n (pc := 86) C rfl 1 rfl dX6_about_86 ?_
      refine zv_iload (pc := 87) C 0 rfl dX6_about_87 ?_
      refine zv_iconst (pc := 89) (v := 2) C (by decide) dX6_about_89 ?_
      refine zv_ci0 (pc := 90) (ws' := (fun uz : zMem => (zd_X6_about cI adM qM1 qM2 qM3 qM4 qM5 qM6 qM7 qM8 qM12 qM13 qM15 qM16 qM17 qM18 qM19 qM20 qM21 uz))) C (zv_runV (As := [.int v_5, .int (2 : Int32)]) (b := adM) (rest := []) (ci := 5) (q0 := 0) C (zc_X6_right l G cI adM qM1 qM2 qM3 qM4 qM5 qM6 qM7 qM8 qM12 qM13 qM15 qM16 qM17 qM18 qM19 qM20 qM21 T_1 v_5 (2 : Int32) _ hF) (cwV 2 C.2.2.2.2.1 gX6_about_X6_right rfl rfl rfl zy_X6_right ⟨Nat.le_of_ble_eq_true rfl, Nat.le_of_ble_eq_true rfl⟩) rfl rfl rfl rfl rfl (Nat.le_of_ble_eq_true rfl) ⟨Nat.zero_le _, Nat.zero_le _⟩ dX6_about_90) [0, 1, 2, 3, 4, 5, 6, 7, 8, 9, 10, 11, 12, 13, 14, 15, 16, 17] [] rfl rfl rfl rfl rfl (fun _ => rfl) (fun _ => rfl) (fun _ => rfl) (fun v_8 uz hF => ?_)
      obtain ⟨T_7, hE⟩ : ∃ z, z = uz := ⟨_, rfl⟩; subst hE
      refine zv_if_ne (pc := 93) (tgt := 98) C dX6_about_93 (by decide) (fun c_9 => ?_) (fun c_9 => ?_)
      · replace hF := And.left hF c_9
        refine zv_iload_n (pc := 98) C rfl 3 rfl dX6_about_98 ?_
        refine zv_iconst (pc := 99) (v := -1) C (by decide) dX6_about_99 ?_
        refine zv_icmp_ne (pc := 100) (tgt := 110) C dX6_about_100 (by decide) (fun c_10 => ?_) (fun c_10 => ?_)
        · replace hF := And.left hF c_10
          refine zv_iload_n (pc := 110) C rfl 3 rfl dX6_about_110 ?_
          refine zv_bipush (pc := 111) (v := -2) C (by decide) dX6_about_111 ?_
          refine zv_icmp_ne (pc := 113) (tgt := 136) C dX6_about_113 (by decide) (fun c_11 => ?_) (fun c_11 => ?_)
          · replace hF := And.left hF c_11
            refine zv_iload_n (pc := 136) C rfl 3 rfl dX6_about_136 ?_
            refine zv_bipush (pc := 137) (v := -3) C (by decide) dX6_about_137 ?_
            refine zv_icmp_ne (pc := 139) (tgt := 162) C dX6_about_139 (by decide) (fun c_12 => ?_) (fun c_12 => ?_)
            · replace hF := And.left hF c_12
              refine zv_iload_n (pc := 162) C rfl 4 rfl dX6_about_162 ?_
              refine zv_if_ne (pc := 163) (tgt := 180) C dX6_about_163 (by decide) (fun c_13 => ?_) (fun c_13 => ?_)
              · replace hF := And.left hF c_13
                refine zv_iload_n (pc := 180) C rfl 4 rfl dX6_about_180 ?_
                refine zv_iconst (pc := 181) (v := 1) C (by decide) dX6_about_181 ?_
                refine zv_icmp_ne (pc := 182) (tgt := 199) C dX6_about_182 (by decide) (fun c_14 => ?_) (fun c_14 => ?_)
                · replace hF := And.left hF c_14
                  refine zv_aload_n (pc := 199) C rfl 1 rfl dX6_about_199 ?_
                  refine zv_get (pc := 200) (CC := RX6) (T := TX6) (N := 22) (ci := 5) (v := .ref qM8) C zi_X6_about_X6 0 rfl 8 (by decide) zf_X6_about_31 rfl rfl dX6_about_200 ?_
                  refine zv_bipush (pc := 203) (v := 6) C (by decide) dX6_about_203 ?_
                  refine zv_iload_n (pc := 205) C rfl 2 rfl dX6_about_205 ?_
                  refine zv_imul (pc := 206) C  dX6_about_206 ?_
                  refine zv_iload_n (pc := 207) C rfl 3 rfl dX6_about_207 ?_
                  refine zv_iadd (pc := 208) C  dX6_about_208 ?_
                  obtain ⟨h_15, hF⟩ := hF
                  refine zv_iald (pc := 209) (n := 12) (f := (T_7 8)) C 8 h_15 rfl dX6_about_209 ?_
                  exact zv_iret (pc := 210) C hr hlk ((T_7 8) (Int32.toNatClampNeg (((6 : Int32) * a1) + a2))) T_7 hF rfl dX6_about_210
                · replace hF := And.right hF c_14
                  refine zv_aload_n (pc := 185) C rfl 1 rfl dX6_about_185 ?_
                  refine zv_get (pc := 186) (CC := RX6) (T := TX6) (N := 22) (ci := 5) (v := .ref qM7) C zi_X6_about_X6 0 rfl 7 (by decide) zf_X6_about_28 rfl rfl dX6_about_186 ?_
                  refine zv_bipush (pc := 189) (v := 6) C (by decide) dX6_about_189 ?_
                  refine zv_iload_n (pc := 191) C rfl 2 rfl dX6_about_191 ?_
                  refine zv_imul (pc := 192) C  dX6_about_192 ?_
                  refine zv_iload_n (pc := 193) C rfl 3 rfl dX6_about_193 ?_
                  refine zv_iadd (pc := 194) C  dX6_about_194 ?_
                  obtain ⟨h_16, hF⟩ := hF
                  refine zv_iald (pc := 195) (n := 12) (f := (T_7 7)) C 7 h_16 rfl dX6_about_195 ?_
                  refine zv_goto (pc := 196) (tgt := 210) C dX6_about_196 (by decide) ?_
                  exact zv_iret (pc := 210) C hr hlk ((T_7 7) (Int32.toNatClampNeg (((6 : Int32) * a1) + a2))) T_7 hF rfl dX6_about_210
              · replace hF := And.right hF c_13
                refine zv_aload_n (pc := 166) C rfl 1 rfl dX6_about_166 ?_
                refine zv_get (pc := 167) (CC := RX6) (T := TX6) (N := 22) (ci := 5) (v := .ref qM6) C zi_X6_about_X6 0 rfl 6 (by decide) zf_X6_about_25 rfl rfl dX6_about_167 ?_
                refine zv_bipush (pc := 170) (v := 6) C (by decide) dX6_about_170 ?_
                refine zv_iload_n (pc := 172) C rfl 2 rfl dX6_about_172 ?_
                refine zv_imul (pc := 173) C  dX6_about_173 ?_
                refine zv_iload_n (pc := 174) C rfl 3 rfl dX6_about_174 ?_
                refine zv_iadd (pc := 175) C  dX6_about_175 ?_
                obtain ⟨h_17, hF⟩ := hF
                refine zv_iald (pc := 176) (n := 12) (f := (T_7 6)) C 6 h_17 rfl dX6_about_176 ?_
                refine zv_goto (pc := 177) (tgt := 210) C dX6_about_177 (by decide) ?_
                exact zv_iret (pc := 210) C hr hlk ((T_7 6) (Int32.toNatClampNeg (((6 : Int32) * a1) + a2))) T_7 hF rfl dX6_about_210
            · replace hF := And.right hF c_12
              refine zv_iload_n (pc := 142) C rfl 4 rfl dX6_about_142 ?_
              refine zv_if_ne (pc := 143) (tgt := 155) C dX6_about_143 (by decide) (fun c_18 => ?_) (fun c_18 => ?_)
              · replace hF := And.left hF c_18
                refine zv_aload_n (pc := 155) C rfl 1 rfl dX6_about_155 ?_
                refine zv_get (pc := 156) (CC := RX6) (T := TX6) (N := 22) (ci := 5) (v := .ref qM4) C zi_X6_about_X6 0 rfl 4 (by decide) zf_X6_about_19 rfl rfl dX6_about_156 ?_
                refine zv_iload_n (pc := 159) C rfl 2 rfl dX6_about_159 ?_
                obtain ⟨h_19, hF⟩ := hF
                refine zv_iald (pc := 160) (n := 2) (f := (T_7 4)) C 4 h_19 rfl dX6_about_160 ?_
                exact zv_iret (pc := 161) C hr hlk ((T_7 4) (Int32.toNatClampNeg a1)) T_7 hF rfl dX6_about_161
              · replace hF := And.right hF c_18
                refine zv_aload_n (pc := 146) C rfl 1 rfl dX6_about_146 ?_
                refine zv_get (pc := 147) (CC := RX6) (T := TX6) (N := 22) (ci := 5) (v := .ref qM3) C zi_X6_about_X6 0 rfl 3 (by decide) zf_X6_about_16 rfl rfl dX6_about_147 ?_
                refine zv_iload_n (pc := 150) C rfl 2 rfl dX6_about_150 ?_
                obtain ⟨h_20, hF⟩ := hF
                refine zv_iald (pc := 151) (n := 2) (f := (T_7 3)) C 3 h_20 rfl dX6_about_151 ?_
                refine zv_goto (pc := 152) (tgt := 161) C dX6_about_152 (by decide) ?_
                exact zv_iret (pc := 161) C hr hlk ((T_7 3) (Int32.toNatClampNeg a1)) T_7 hF rfl dX6_about_161
          · replace hF := And.right hF c_11
            refine zv_iload_n (pc := 116) C rfl 4 rfl dX6_about_116 ?_
            refine zv_if_ne (pc := 117) (tgt := 129) C dX6_about_117 (by decide) (fun c_21 => ?_) (fun c_21 => ?_)
            · replace hF := And.left hF c_21
              refine zv_aload_n (pc := 129) C rfl 1 rfl dX6_about_129 ?_
              refine zv_get (pc := 130) (CC := RX6) (T := TX6) (N := 22) (ci := 5) (v := .ref qM2) C zi_X6_about_X6 0 rfl 2 (by decide) zf_X6_about_13 rfl rfl dX6_about_130 ?_
              refine zv_iload_n (pc := 133) C rfl 2 rfl dX6_about_133 ?_
              obtain ⟨h_22, hF⟩ := hF
              refine zv_iald (pc := 134) (n := 2) (f := (T_7 2)) C 2 h_22 rfl dX6_about_134 ?_
              exact zv_iret (pc := 135) C hr hlk ((T_7 2) (Int32.toNatClampNeg a1)) T_7 hF rfl dX6_about_135
            · replace hF := And.right hF c_21
              refine zv_aload_n (pc := 120) C rfl 1 rfl dX6_about_120 ?_
              refine zv_get (pc := 121) (CC := RX6) (T := TX6) (N := 22) (ci := 5) (v := .ref qM1) C zi_X6_about_X6 0 rfl 1 (by decide) zf_X6_about_7 rfl rfl dX6_about_121 ?_
              refine zv_iload_n (pc := 124) C rfl 2 rfl dX6_about_124 ?_
              obtain ⟨h_23, hF⟩ := hF
              refine zv_iald (pc := 125) (n := 2) (f := (T_7 1)) C 1 h_23 rfl dX6_about_125 ?_
              refine zv_goto (pc := 126) (tgt := 135) C dX6_about_126 (by decide) ?_
              exact zv_iret (pc := 135) C hr hlk ((T_7 1) (Int32.toNatClampNeg a1)) T_7 hF rfl dX6_about_135
        · replace hF := And.right hF c_10
          refine zv_aload_n (pc := 103) C rfl 1 rfl dX6_about_103 ?_
          refine zv_get (pc := 104) (CC := RX6) (T := TX6) (N := 22) (ci := 5) (v := .ref qM5) C zi_X6_about_X6 0 rfl 5 (by decide) zf_X6_about_22 rfl rfl dX6_about_104 ?_
          refine zv_iload_n (pc := 107) C rfl 2 rfl dX6_about_107 ?_
          obtain ⟨h_24, hF⟩ := hF
          refine zv_iald (pc := 108) (n := 2) (f := (T_7 5)) C 5 h_24 rfl dX6_about_108 ?_
          exact zv_iret (pc := 109) C hr hlk ((T_7 5) (Int32.toNatClampNeg a1)) T_7 hF rfl dX6_about_109
      · replace hF := And.right hF c_9
        refine zv_iconst (pc := 96) (v := 0) C (by decide) dX6_about_96 ?_
        exact zv_iret (pc := 97) C hr hlk (0 : Int32) T_7 hF rfl dX6_about_97
    · skip
      refine zv_icmp_ne (pc := 12) (tgt := 27) C dX6_about_12 (by decide) (fun c_4 => ?_) (fun c_4 => ?_)
      · replace hF := And.left hF c_4
        refine zv_iload_n (pc := 27) C rfl 2 rfl dX6_about_27 ?_
        refine zv_bipush (pc := 28) (v := -2) C (by decide) dX6_about_28 ?_
        refine zv_icmp_eq (pc := 30) (tgt := 39) C dX6_about_30 (by decide) (fun c_25 => ?_) (fun c_25 => ?_)
        · replace hF := And.left hF c_25
          refine zv_iload_n (pc := 39) C rfl 3 rfl dX6_about_39 ?_
          refine zv_if_eq (pc := 40) (tgt := 48) C dX6_about_40 (by decide) (fun c_26 => ?_) (fun c_26 => ?_)
          · replace hF := And.left hF c_26
            refine zv_iconst (pc := 48) (v := 1) C (by decide) dX6_about_48 ?_
            refine zv_goto (pc := 49) (tgt := 84) C dX6_about_49 (by decide) ?_
            exact zv_lvs [0, 1, 2, 3] rfl (hKJ_6 (1 : Int32) hF)
          · replace hF := And.right hF c_26
            refine zv_iload_n (pc := 43) C rfl 3 rfl dX6_about_43 ?_
            refine zv_iconst (pc := 44) (v := 1) C (by decide) dX6_about_44 ?_
            refine zv_icmp_ne (pc := 45) (tgt := 52) C dX6_about_45 (by decide) (fun c_27 => ?_) (fun c_27 => ?_)
            · replace hF := And.left hF c_27
              refine zv_iconst (pc := 52) (v := 0) C (by decide) dX6_about_52 ?_
              refine zv_goto (pc := 53) (tgt := 84) C dX6_about_53 (by decide) ?_
              exact zv_lvs [0, 1, 2, 3] rfl (hKJ_6 (0 : Int32) hF)
            · replace hF := And.right hF c_27
              refine zv_iconst (pc := 48) (v := 1) C (by decide) dX6_about_48 ?_
              refine zv_goto (pc := 49) (tgt := 84) C dX6_about_49 (by decide) ?_
              exact zv_lvs [0, 1, 2, 3] rfl (hKJ_6 (1 : Int32) hF)
        · replace hF := And.right hF c_25
          refine zv_iload_n (pc := 33) C rfl 2 rfl dX6_about_33 ?_
          refine zv_bipush (pc := 34) (v := -3) C (by decide) dX6_about_34 ?_
          refine zv_icmp_ne (pc := 36) (tgt := 56) C dX6_about_36 (by decide) (fun c_28 => ?_) (fun c_28 => ?_)
          · replace hF := And.left hF c_28
            refine zv_iload_n (pc := 56) C rfl 2 rfl dX6_about_56 ?_
            refine zv_if_lt (pc := 57) (tgt := 83) C dX6_about_57 (by decide) (fun c_29 => ?_) (fun c_29 => ?_)
            · replace hF := And.left hF c_29
              refine zv_iconst (pc := 83) (v := 0) C (by decide) dX6_about_83 ?_
              exact zv_lvs [0, 1, 2, 3] rfl (hKJ_6 (0 : Int32) hF)
            · replace hF := And.right hF c_29
              refine zv_iload_n (pc := 60) C rfl 2 rfl dX6_about_60 ?_
              refine zv_aload_n (pc := 61) C rfl 0 rfl dX6_about_61 ?_
              refine zv_get (pc := 62) (CC := RX6) (T := TX6) (N := 22) (ci := 5) (v := .ref qM5) C zi_X6_about_X6 0 rfl 5 (by decide) zf_X6_about_22 rfl rfl dX6_about_62 ?_
              refine zv_iload_n (pc := 65) C rfl 1 rfl dX6_about_65 ?_
              obtain ⟨h_30, hF⟩ := hF
              refine zv_iald (pc := 66) (n := 2) (f := (T_1 5)) C 5 h_30 rfl dX6_about_66 ?_
              refine zv_icmp_ge (pc := 67) (tgt := 83) C dX6_about_67 (by decide) (fun c_31 => ?_) (fun c_31 => ?_)
              · replace hF := And.left hF c_31
                refine zv_iconst (pc := 83) (v := 0) C (by decide) dX6_about_83 ?_
                exact zv_lvs [0, 1, 2, 3] rfl (hKJ_6 (0 : Int32) hF)
              · replace hF := And.right hF c_31
                refine zv_iload_n (pc := 70) C rfl 3 rfl dX6_about_70 ?_
                refine zv_if_lt (pc := 71) (tgt := 83) C dX6_about_71 (by decide) (fun c_32 => ?_) (fun c_32 => ?_)
                · replace hF := And.left hF c_32
                  refine zv_iconst (pc := 83) (v := 0) C (by decide) dX6_about_83 ?_
                  exact zv_lvs [0, 1, 2, 3] rfl (hKJ_6 (0 : Int32) hF)
                · replace hF := And.right hF c_32
                  refine zv_iload_n (pc := 74) C rfl 3 rfl dX6_about_74 ?_
                  refine zv_iconst (pc := 75) (v := 2) C (by decide) dX6_about_75 ?_
                  refine zv_icmp_gt (pc := 76) (tgt := 83) C dX6_about_76 (by decide) (fun c_33 => ?_) (fun c_33 => ?_)
                  · replace hF := And.left hF c_33
                    refine zv_iconst (pc := 83) (v := 0) C (by decide) dX6_about_83 ?_
                    exact zv_lvs [0, 1, 2, 3] rfl (hKJ_6 (0 : Int32) hF)
                  · replace hF := And.right hF c_33
                    refine zv_iconst (pc := 79) (v := 1) C (by decide) dX6_about_79 ?_
                    refine zv_goto (pc := 80) (tgt := 84) C dX6_about_80 (by decide) ?_
                    exact zv_lvs [0, 1, 2, 3] rfl (hKJ_6 (1 : Int32) hF)
          · replace hF := And.right hF c_28
            refine zv_iload_n (pc := 39) C rfl 3 rfl dX6_about_39 ?_
            refine zv_if_eq (pc := 40) (tgt := 48) C dX6_about_40 (by decide) (fun c_34 => ?_) (fun c_34 => ?_)
            · replace hF := And.left hF c_34
              refine zv_iconst (pc := 48) (v := 1) C (by decide) dX6_about_48 ?_
              refine zv_goto (pc := 49) (tgt := 84) C dX6_about_49 (by decide) ?_
              exact zv_lvs [0, 1, 2, 3] rfl (hKJ_6 (1 : Int32) hF)
            · replace hF := And.right hF c_34
              refine zv_iload_n (pc := 43) C rfl 3 rfl dX6_about_43 ?_
              refine zv_iconst (pc := 44) (v := 1) C (by decide) dX6_about_44 ?_
              refine zv_icmp_ne (pc := 45) (tgt := 52) C dX6_about_45 (by decide) (fun c_35 => ?_) (fun c_35 => ?_)
              · replace hF := And.left hF c_35
                refine zv_iconst (pc := 52) (v := 0) C (by decide) dX6_about_52 ?_
                refine zv_goto (pc := 53) (tgt := 84) C dX6_about_53 (by decide) ?_
                exact zv_lvs [0, 1, 2, 3] rfl (hKJ_6 (0 : Int32) hF)
              · replace hF := And.right hF c_35
                refine zv_iconst (pc := 48) (v := 1) C (by decide) dX6_about_48 ?_
                refine zv_goto (pc := 49) (tgt := 84) C dX6_about_49 (by decide) ?_
                exact zv_lvs [0, 1, 2, 3] rfl (hKJ_6 (1 : Int32) hF)
      · replace hF := And.right hF c_4
        refine zv_iload_n (pc := 15) C rfl 3 rfl dX6_about_15 ?_
        refine zv_if_ne (pc := 16) (tgt := 23) C dX6_about_16 (by decide) (fun c_36 => ?_) (fun c_36 => ?_)
        · replace hF := And.left hF c_36
          refine zv_iconst (pc := 23) (v := 0) C (by decide) dX6_about_23 ?_
          refine zv_goto (pc := 24) (tgt := 84) C dX6_about_24 (by decide) ?_
          exact zv_lvs [0, 1, 2, 3] rfl (hKJ_6 (0 : Int32) hF)
        · replace hF := And.right hF c_36
          refine zv_iconst (pc := 19) (v := 1) C (by decide) dX6_about_19 ?_
          refine zv_goto (pc := 20) (tgt := 84) C dX6_about_20 (by decide) ?_
          exact zv_lvs [0, 1, 2, 3] rfl (hKJ_6 (1 : Int32) hF)
  · replace hF := And.right hF c_3
    refine zv_iconst (pc := 8) (v := 0) C (by decide) dX6_about_8 ?_
    exact zv_iret (pc := 9) C hr hlk (0 : Int32) T_1 hF rfl dX6_about_9
theorem zf_X6_changeEdges_13 : Cond.fieldLink RX6 13 "GlassStackModel" "airLow" "[I" ∈ wsX6_changeEdges := (List.mem_of_getElem? (i := 2) rfl)
theorem zf_X6_changeEdges_16 : Cond.fieldLink RX6 16 "GlassStackModel" "groundUp" "[I" ∈ wsX6_changeEdges := (List.mem_of_getElem? (i := 3) rfl)
theorem zf_X6_changeEdges_19 : Cond.fieldLink RX6 19 "GlassStackModel" "groundLow" "[I" ∈ wsX6_changeEdges := (List.mem_of_getElem? (i := 4) rfl)
theorem zf_X6_changeEdges_7 : Cond.fieldLink RX6 7 "GlassStackModel" "airUp" "[I" ∈ wsX6_changeEdges := (List.mem_of_getElem? (i := 1) rfl)
theorem zi_X6_changeEdges_X6 : ∀ w ∈ wsX60, w ∈ wsX6_changeEdges := fun w h => List.mem_cons_of_mem _ (List.mem_append_right _ h)
theorem zy_X6_changeEdges : yX6_changeEdges.cls = RX6 ∧ yX6_changeEdges.cls ≠ "java/lang/invoke/MethodHandle" ∧ yX6_changeEdges.cls ≠ "java/lang/invoke/VarHandle" ∧ (parseMethodDescriptor yX6_changeEdges.desc).map (fun d => d.parameters.length) = some 1 := by decide +kernel
set_option maxHeartbeats 4000000 in
set_option maxRecDepth 100000 in
theorem zc_X6_changeEdges (l : Launch) (G : va_G) (cI : ClassId) (adM qM1 qM2 qM3 qM4 qM5 qM6 qM7 qM8 qM12 qM13 qM15 qM16 qM17 qM18 qM19 qM20 qM21 : Nat) (M : zMem) (a1 : Int32) (post : zMem → Prop) (hF : zw_X6_changeEdges M a1 post) (sz : Nat) : Met l yX6_changeEdges wsX6_changeEdges rmX6_changeEdges (va_Pc [.ref adM, .int a1] (zv_in G cI (zd_X6_changeEdges cI adM qM1 qM2 qM3 qM4 qM5 qM6 qM7 qM8 qM12 qM13 qM15 qM16 qM17 qM18 qM19 qM20 qM21 M) sz)) (va_Qv (fun uz : zMem => post uz) (fun (uz : zMem) t => zv_out G cI (va_A (zd_X6_changeEdges cI adM qM1 qM2 qM3 qM4 qM5 qM6 qM7 qM8 qM12 qM13 qM15 qM16 qM17 qM18 qM19 qM20 qM21 M) sz) (zd_X6_changeEdges cI adM qM1 qM2 qM3 qM4 qM5 qM6 qM7 qM8 qM12 qM13 qM15 qM16 qM17 qM18 qM19 qM20 qM21 uz) t) (va_A (zd_X6_changeEdges cI adM qM1 qM2 qM3 qM4 qM5 qM6 qM7 qM8 qM12 qM13 qM15 qM16 qM17 qM18 qM19 qM20 qM21 M) sz)) 0 0 (va_A (zd_X6_changeEdges cI adM qM1 qM2 qM3 qM4 qM5 qM6 qM7 qM8 qM12 qM13 qM15 qM16 qM17 qM18 qM19 qM20 qM21 M) sz) := by
  refine zv_met (cc := cX6_changeEdges) (maxL := 4) (ret := none) (lv0 := [(0, .ref adM), (1, .int a1)]) (Qc := fun A => va_Qv (fun uz : zMem => post uz) (fun (uz : zMem) t => zv_out G cI A (zd_X6_changeEdges cI adM qM1 qM2 qM3 qM4 qM5 qM6 qM7 qM8 qM12 qM13 qM15 qM16 qM17 qM18 qM19 qM20 qM21 uz) t) A) (by decide) rfl (Nat.le_of_ble_eq_true rfl) rfl ?_ sz
  intro p e s m below meth c A C hr hlk
  clear sz
  refine zv_aload_n (pc := 0) C rfl 0 rfl dX6_changeEdges_0 ?_
  refine zv_get (pc := 1) (CC := RX6) (T := TX6) (N := 22) (ci := 5) (v := .ref qM1) C zi_X6_changeEdges_X6 0 rfl 1 (by decide) zf_X6_changeEdges_7 rfl rfl dX6_changeEdges_1 ?_
  refine zv_iload_n (pc := 4) C rfl 1 rfl dX6_changeEdges_4 ?_
  obtain ⟨h_1, hF⟩ := hF
  refine zv_iald (pc := 5) (n := 2) (f := (M 1)) C 1 h_1 rfl dX6_changeEdges_5 ?_
  refine zv_topi (fun x2_2 ex2_2 => ?_)
  replace hF := hF x2_2 ex2_2
  refine zv_istore_n (pc := 6) (lv' := [(2, .int x2_2), (0, .ref adM), (1, .int a1)]) C rfl (by decide) rfl dX6_changeEdges_6 ?_
  refine zv_aload_n (pc := 7) C rfl 1 rfl dX6_changeEdges_7 ?_
  refine zv_get (pc := 8) (CC := RX6) (T := TX6) (N := 22) (ci := 5) (v := .ref qM2) C zi_X6_changeEdges_X6 0 rfl 2 (by decide) zf_X6_changeEdges_13 rfl rfl dX6_changeEdges_8 ?_
  refine zv_iload_n (pc := 11) C rfl 2 rfl dX6_changeEdges_11 ?_
  obtain ⟨h_3, hF⟩ := hF
  refine zv_iald (pc := 12) (n := 2) (f := (M 2)) C 2 h_3 rfl dX6_changeEdges_12 ?_
  refine zv_topi (fun x3_4 ex3_4 => ?_)
  replace hF := hF x3_4 ex3_4
  refine zv_istore_n (pc := 13) (lv' := [(3, .int x3_4), (2, .int x2_2), (0, .ref adM), (1, .int a1)]) C rfl (by decide) rfl dX6_changeEdges_13 ?_
  refine zv_aload_n (pc := 14) C rfl 2 rfl dX6_changeEdges_14 ?_
  refine zv_get (pc := 15) (CC := RX6) (T := TX6) (N := 22) (ci := 5) (v := .ref qM1) C zi_X6_changeEdges_X6 0 rfl 1 (by decide) zf_X6_changeEdges_7 rfl rfl dX6_changeEdges_15 ?_
  refine zv_iload_n (pc := 18) C rfl 3 rfl dX6_changeEdges_18 ?_
  refine zv_aload_n (pc := 19) C rfl 2 rfl dX6_changeEdges_19 ?_
  refine zv_get (pc := 20) (CC := RX6) (T := TX6) (N := 22) (ci := 5) (v := .ref qM3) C zi_X6_changeEdges_X6 0 rfl 3 (by decide) zf_X6_changeEdges_16 rfl rfl dX6_changeEdges_20 ?_
  refine zv_iload_n (pc := 23) C rfl 3 rfl dX6_changeEdges_23 ?_
  obtain ⟨h_5, hF⟩ := hF
  refine zv_iald (pc := 24) (n := 2) (f := (M 3)) C 3 h_5 rfl dX6_changeEdges_24 ?_
  obtain ⟨h_6, hF⟩ := hF
  obtain ⟨r_7, er_7⟩ : ∃ y : zRow, y = (upd (M 1) (Int32.toNatClampNeg a1) ((M 3) (Int32.toNatClampNeg a1))) := ⟨_, rfl⟩
  replace hF := hF r_7 er_7
  refine zv_iast (pc := 25) (n := 2) (f := (M 1)) (ws' := (zd_X6_changeEdges cI adM qM1 qM2 qM3 qM4 qM5 qM6 qM7 qM8 qM12 qM13 qM15 qM16 qM17 qM18 qM19 qM20 qM21 (zset M 1 r_7))) C 1 h_6 rfl (by rw [er_7]; rfl) dX6_changeEdges_25 ?_
  refine zv_aload_n (pc := 26) C rfl 2 rfl dX6_changeEdges_26 ?_
  refine zv_get (pc := 27) (CC := RX6) (T := TX6) (N := 22) (ci := 5) (v := .ref qM2) C zi_X6_changeEdges_X6 0 rfl 2 (by decide) zf_X6_changeEdges_13 rfl rfl dX6_changeEdges_27 ?_
  refine zv_iload_n (pc := 30) C rfl 3 rfl dX6_changeEdges_30 ?_
  refine zv_aload_n (pc := 31) C rfl 2 rfl dX6_changeEdges_31 ?_
  refine zv_get (pc := 32) (CC := RX6) (T := TX6) (N := 22) (ci := 5) (v := .ref qM4) C zi_X6_changeEdges_X6 0 rfl 4 (by decide) zf_X6_changeEdges_19 rfl rfl dX6_changeEdges_32 ?_
  refine zv_iload_n (pc := 35) C rfl 3 rfl dX6_changeEdges_35 ?_
  obtain ⟨h_8, hF⟩ := hF
  refine zv_iald (pc := 36) (n := 2) (f := (M 4)) C 4 h_8 rfl dX6_changeEdges_36 ?_
  obtain ⟨h_9, hF⟩ := hF
  obtain ⟨r_10, er_10⟩ : ∃ y : zRow, y = (upd (M 2) (Int32.toNatClampNeg a1) ((M 4) (Int32.toNatClampNeg a1))) := ⟨_, rfl⟩
  replace hF := hF r_10 er_10
  refine zv_iast (pc := 37) (n := 2) (f := (M 2)) (ws' := (zd_X6_changeEdges cI adM qM1 qM2 qM3 qM4 qM5 qM6 qM7 qM8 qM12 qM13 qM15 qM16 qM17 qM18 qM19 qM20 qM21 (zset (zset M 1 r_7) 2 r_10))) C 2 h_9 rfl (by rw [er_10]; rfl) dX6_changeEdges_37 ?_
  refine zv_aload_n (pc := 38) C rfl 2 rfl dX6_changeEdges_38 ?_
  refine zv_get (pc := 39) (CC := RX6) (T := TX6) (N := 22) (ci := 5) (v := .ref qM3) C zi_X6_changeEdges_X6 0 rfl 3 (by decide) zf_X6_changeEdges_16 rfl rfl dX6_changeEdges_39 ?_
  refine zv_iload_n (pc := 42) C rfl 3 rfl dX6_changeEdges_42 ?_
  refine zv_iload_n (pc := 43) C rfl 1 rfl dX6_changeEdges_43 ?_
  obtain ⟨h_11, hF⟩ := hF
  obtain ⟨r_12, er_12⟩ : ∃ y : zRow, y = (upd (M 3) (Int32.toNatClampNeg a1) x2_2) := ⟨_, rfl⟩
  replace hF := hF r_12 er_12
  refine zv_iast (pc := 44) (n := 2) (f := (M 3)) (ws' := (zd_X6_changeEdges cI adM qM1 qM2 qM3 qM4 qM5 qM6 qM7 qM8 qM12 qM13 qM15 qM16 qM17 qM18 qM19 qM20 qM21 (zset (zset (zset M 1 r_7) 2 r_10) 3 r_12))) C 3 h_11 rfl (by rw [er_12]; rfl) dX6_changeEdges_44 ?_
  refine zv_aload_n (pc := 45) C rfl 2 rfl dX6_changeEdges_45 ?_
  refine zv_get (pc := 46) (CC := RX6) (T := TX6) (N := 22) (ci := 5) (v := .ref qM4) C zi_X6_changeEdges_X6 0 rfl 4 (by decide) zf_X6_changeEdges_19 rfl rfl dX6_changeEdges_46 ?_
  refine zv_iload_n (pc := 49) C rfl 3 rfl dX6_changeEdges_49 ?_
  refine zv_iload_n (pc := 50) C rfl 0 rfl dX6_changeEdges_50 ?_
  obtain ⟨h_13, hF⟩ := hF
  obtain ⟨r_14, er_14⟩ : ∃ y : zRow, y = (upd (M 4) (Int32.toNatClampNeg a1) x3_4) := ⟨_, rfl⟩
  replace hF := hF r_14 er_14
  refine zv_iast (pc := 51) (n := 2) (f := (M 4)) (ws' := (zd_X6_changeEdges cI adM qM1 qM2 qM3 qM4 qM5 qM6 qM7 qM8 qM12 qM13 qM15 qM16 qM17 qM18 qM19 qM20 qM21 (zset (zset (zset (zset M 1 r_7) 2 r_10) 3 r_12) 4 r_14))) C 4 h_13 rfl (by rw [er_14]; rfl) dX6_changeEdges_51 ?_
  exact zv_vret (pc := 52) C hr hlk (zset (zset (zset (zset M 1 r_7) 2 r_10) 3 r_12) 4 r_14) hF rfl dX6_changeEdges_52
theorem zf_X6_turn_22 : Cond.fieldLink RX6 22 "GlassStackModel" "many" "[I" ∈ wsX6_turn := (List.mem_of_getElem? (i := 1) rfl)
theorem zf_X6_turn_25 : Cond.fieldLink RX6 25 "GlassStackModel" "up" "[I" ∈ wsX6_turn := (List.mem_of_getElem? (i := 2) rfl)
theorem zf_X6_turn_28 : Cond.fieldLink RX6 28 "GlassStackModel" "low" "[I" ∈ wsX6_turn := (List.mem_of_getElem? (i := 3) rfl)
theorem zf_X6_turn_31 : Cond.fieldLink RX6 31 "GlassStackModel" "wide" "[I" ∈ wsX6_turn := (List.mem_of_getElem? (i := 4) rfl)
theorem zi_X6_turn_X6 : ∀ w ∈ wsX60, w ∈ wsX6_turn := fun w h => List.mem_cons_of_mem _ (List.mem_append_right _ h)
theorem zy_X6_turn : yX6_turn.cls = RX6 ∧ yX6_turn.cls ≠ "java/lang/invoke/MethodHandle" ∧ yX6_turn.cls ≠ "java/lang/invoke/VarHandle" ∧ (parseMethodDescriptor yX6_turn.desc).map (fun d => d.parameters.length) = some 1 := by decide +kernel
set_option maxHeartbeats 4000000 in
set_option maxRecDepth 100000 in
theorem zl_X6_turn_16 {p : Program} {l : Launch} {e : Env} {s : State} {m : MethodId} {args : Array Value} {below : List Frame} {meth : Method} {c : Code} {G : va_G} {cI : ClassId} {A : Nat → Prop} {Q : State → Prop} (adM qM1 qM2 qM3 qM4 qM5 qM6 qM7 qM8 qM12 qM13 qM15 qM16 qM17 qM18 qM19 qM20 qM21 : Nat) (c1 : Int32) (K150 : zMem → Prop) (C : zv_C p s m args c cX6_turn 8 RX6 wsX6_turn G cI A) (hK150 : ∀ (M : zMem), K150 M → zv_V p l e (headSpec wsX6_turn rmX6_turn).room s m args below meth c Q G A 8 0 0 (zd_X6_turn cI adM qM1 qM2 qM3 qM4 qM5 qM6 qM7 qM8 qM12 qM13 qM15 qM16 qM17 qM18 qM19 qM20 qM21 M) 150 [] []) : ∀ (k : Nat) (p2 : Int32) (M : zMem), zw_X6_turn_16 c1 K150 k p2 M → zv_V p l e (headSpec wsX6_turn rmX6_turn).room s m args below meth c Q G A 8 0 0 (zd_X6_turn cI adM qM1 qM2 qM3 qM4 qM5 qM6 qM7 qM8 qM12 qM13 qM15 qM16 qM17 qM18 qM19 qM20 qM21 M) 16 [(0, .ref adM), (1, .int c1), (2, .int p2)] [] := by
  intro k
  induction k with
  | zero => intro p2 M hF; exact (show False from hF).elim
  | succ k ih =>
    intro p2 M hF
    refine zv_iconst (pc := 16) (v := 2) C (by decide) dX6_turn_16 ?_
    refine zv_iload_n (pc := 17) C rfl 2 rfl dX6_turn_17 ?_
    refine zv_imul (pc := 18) C  dX6_turn_18 ?_
    refine zv_iconst (pc := 19) (v := 1) C (by decide) dX6_turn_19 ?_
    refine zv_iadd (pc := 20) C  dX6_turn_20 ?_
    refine zv_aload_n (pc := 21) C rfl 0 rfl dX6_turn_21 ?_
    refine zv_get (pc := 22) (CC := RX6) (T := TX6) (N := 22) (ci := 5) (v := .ref qM5) C zi_X6_turn_X6 0 rfl 5 (by decide) zf_X6_turn_22 rfl rfl dX6_turn_22 ?_
    refine zv_iload_n (pc := 25) C rfl 1 rfl dX6_turn_25 ?_
    obtain ⟨h_5, hF⟩ := hF
    refine zv_iald (pc := 26) (n := 2) (f := (M 5)) C 5 h_5 rfl dX6_turn_26 ?_
    refine zv_icmp_ge (pc := 27) (tgt := 150) C dX6_turn_27 (by decide) (fun c_6 => ?_) (fun c_6 => ?_)
    · replace hF := And.left hF c_6
      exact zv_lvs [] rfl (hK150 M hF)
    · replace hF := And.right hF c_6
      refine zv_bipush (pc := 30) (v := 6) C (by decide) dX6_turn_30 ?_
      refine zv_iload_n (pc := 32) C rfl 1 rfl dX6_turn_32 ?_
      refine zv_imul (pc := 33) C  dX6_turn_33 ?_
      refine zv_iload_n (pc := 34) C rfl 2 rfl dX6_turn_34 ?_
      refine zv_iadd (pc := 35) C  dX6_turn_35 ?_
      refine zv_topi (fun x3_7 ex3_7 => ?_)
      replace hF := hF x3_7 ex3_7
      refine zv_istore_n (pc := 36) (lv' := [(3, .int x3_7), (0, .ref adM), (1, .int c1), (2, .int p2)]) C rfl (by decide) rfl dX6_turn_36 ?_
      refine zv_bipush (pc := 37) (v := 6) C (by decide) dX6_turn_37 ?_
      refine zv_iload_n (pc := 39) C rfl 2 rfl dX6_turn_39 ?_
      refine zv_imul (pc := 40) C  dX6_turn_40 ?_
      refine zv_aload_n (pc := 41) C rfl 1 rfl dX6_turn_41 ?_
      refine zv_get (pc := 42) (CC := RX6) (T := TX6) (N := 22) (ci := 5) (v := .ref qM5) C zi_X6_turn_X6 0 rfl 5 (by decide) zf_X6_turn_22 rfl rfl dX6_turn_42 ?_
      refine zv_iload_n (pc := 45) C rfl 2 rfl dX6_turn_45 ?_
      obtain ⟨h_8, hF⟩ := hF
      refine zv_iald (pc := 46) (n := 2) (f := (M 5)) C 5 h_8 rfl dX6_turn_46 ?_
      refine zv_iadd (pc := 47) C  dX6_turn_47 ?_
      refine zv_iconst (pc := 48) (v := 1) C (by decide) dX6_turn_48 ?_
      refine zv_isub (pc := 49) C  dX6_turn_49 ?_
      refine zv_iload_n (pc := 50) C rfl 3 rfl dX6_turn_50 ?_
      refine zv_isub (pc := 51) C  dX6_turn_51 ?_
      refine zv_topi (fun x4_9 ex4_9 => ?_)
      replace hF := hF x4_9 ex4_9
      refine zv_istore (pc := 52) (lv' := [(4, .int x4_9), (3, .int x3_7), (0, .ref adM), (1, .int c1), (2, .int p2)]) C (by decide) rfl dX6_turn_52 ?_
      refine zv_aload_n (pc := 54) C rfl 2 rfl dX6_turn_54 ?_
      refine zv_get (pc := 55) (CC := RX6) (T := TX6) (N := 22) (ci := 5) (v := .ref qM6) C zi_X6_turn_X6 0 rfl 6 (by decide) zf_X6_turn_25 rfl rfl dX6_turn_55 ?_
      refine zv_iload_n (pc := 58) C rfl 1 rfl dX6_turn_58 ?_
      obtain ⟨h_10, hF⟩ := hF
      refine zv_iald (pc := 59) (n := 12) (f := (M 6)) C 6 h_10 rfl dX6_turn_59 ?_
      refine zv_topi (fun x5_11 ex5_11 => ?_)
      replace hF := hF x5_11 ex5_11
      refine zv_istore (pc := 60) (lv' := [(5, .int x5_11), (4, .int x4_9), (3, .int x3_7), (0, .ref adM), (1, .int c1), (2, .int p2)]) C (by decide) rfl dX6_turn_60 ?_
      refine zv_aload_n (pc := 62) C rfl 3 rfl dX6_turn_62 ?_
      refine zv_get (pc := 63) (CC := RX6) (T := TX6) (N := 22) (ci := 5) (v := .ref qM7) C zi_X6_turn_X6 0 rfl 7 (by decide) zf_X6_turn_28 rfl rfl dX6_turn_63 ?_
      refine zv_iload_n (pc := 66) C rfl 2 rfl dX6_turn_66 ?_
      obtain ⟨h_12, hF⟩ := hF
      refine zv_iald (pc := 67) (n := 12) (f := (M 7)) C 7 h_12 rfl dX6_turn_67 ?_
      refine zv_topi (fun x6_13 ex6_13 => ?_)
      replace hF := hF x6_13 ex6_13
      refine zv_istore (pc := 68) (lv' := [(6, .int x6_13), (5, .int x5_11), (4, .int x4_9), (3, .int x3_7), (0, .ref adM), (1, .int c1), (2, .int p2)]) C (by decide) rfl dX6_turn_68 ?_
      refine zv_aload_n (pc := 70) C rfl 4 rfl dX6_turn_70 ?_
      refine zv_get (pc := 71) (CC := RX6) (T := TX6) (N := 22) (ci := 5) (v := .ref qM8) C zi_X6_turn_X6 0 rfl 8 (by decide) zf_X6_turn_31 rfl rfl dX6_turn_71 ?_
      refine zv_iload_n (pc := 74) C rfl 3 rfl dX6_turn_74 ?_
      obtain ⟨h_14, hF⟩ := hF
      refine zv_iald (pc := 75) (n := 12) (f := (M 8)) C 8 h_14 rfl dX6_turn_75 ?_
      refine zv_topi (fun x7_15 ex7_15 => ?_)
      replace hF := hF x7_15 ex7_15
      refine zv_istore (pc := 76) (lv' := [(7, .int x7_15), (6, .int x6_13), (5, .int x5_11), (4, .int x4_9), (3, .int x3_7), (0, .ref adM), (1, .int c1), (2, .int p2)]) C (by decide) rfl dX6_turn_76 ?_
      refine zv_aload_n (pc := 78) C rfl 5 rfl dX6_turn_78 ?_
      refine zv_get (pc := 79) (CC := RX6) (T := TX6) (N := 22) (ci := 5) (v := .ref qM6) C zi_X6_turn_X6 0 rfl 6 (by decide) zf_X6_turn_25 rfl rfl dX6_turn_79 ?_
      refine zv_iload_n (pc := 82) C rfl 4 rfl dX6_turn_82 ?_
      refine zv_aload_n (pc := 83) C rfl 5 rfl dX6_turn_83 ?_
      refine zv_get (pc := 84) (CC := RX6) (T := TX6) (N := 22) (ci := 5) (v := .ref qM6) C zi_X6_turn_X6 0 rfl 6 (by decide) zf_X6_turn_25 rfl rfl dX6_turn_84 ?_
      refine zv_iload (pc := 87) C 3 rfl dX6_turn_87 ?_
      obtain ⟨h_16, hF⟩ := hF
      refine zv_iald (pc := 89) (n := 12) (f := (M 6)) C 6 h_16 rfl dX6_turn_89 ?_
      obtain ⟨h_17, hF⟩ := hF
      obtain ⟨r_18, er_18⟩ : ∃ y : zRow, y = (upd (M 6) (Int32.toNatClampNeg x3_7) ((M 6) (Int32.toNatClampNeg x4_9))) := ⟨_, rfl⟩
      replace hF := hF r_18 er_18
      refine zv_iast (pc := 90) (n := 12) (f := (M 6)) (ws' := (zd_X6_turn cI adM qM1 qM2 qM3 qM4 qM5 qM6 qM7 qM8 qM12 qM13 qM15 qM16 qM17 qM18 qM19 qM20 qM21 (zset M 6 r_18))) C 6 h_17 rfl (by rw [er_18]; rfl) dX6_turn_90 ?_
      refine zv_aload_n (pc := 91) C rfl 5 rfl dX6_turn_91 ?_
      refine zv_get (pc := 92) (CC := RX6) (T := TX6) (N := 22) (ci := 5) (v := .ref qM7) C zi_X6_turn_X6 0 rfl 7 (by decide) zf_X6_turn_28 rfl rfl dX6_turn_92 ?_
      refine zv_iload_n (pc := 95) C rfl 4 rfl dX6_turn_95 ?_
      refine zv_aload_n (pc := 96) C rfl 5 rfl dX6_turn_96 ?_
      refine zv_get (pc := 97) (CC := RX6) (T := TX6) (N := 22) (ci := 5) (v := .ref qM7) C zi_X6_turn_X6 0 rfl 7 (by decide) zf_X6_turn_28 rfl rfl dX6_turn_97 ?_
      refine zv_iload (pc := 100) C 3 rfl dX6_turn_100 ?_
      obtain ⟨h_19, hF⟩ := hF
      refine zv_iald (pc := 102) (n := 12) (f := (M 7)) C 7 h_19 rfl dX6_turn_102 ?_
      obtain ⟨h_20, hF⟩ := hF
      obtain ⟨r_21, er_21⟩ : ∃ y : zRow, y = (upd (M 7) (Int32.toNatClampNeg x3_7) ((M 7) (Int32.toNatClampNeg x4_9))) := ⟨_, rfl⟩
      replace hF := hF r_21 er_21
      refine zv_iast (pc := 103) (n := 12) (f := (M 7)) (ws' := (zd_X6_turn cI adM qM1 qM2 qM3 qM4 qM5 qM6 qM7 qM8 qM12 qM13 qM15 qM16 qM17 qM18 qM19 qM20 qM21 (zset (zset M 6 r_18) 7 r_21))) C 7 h_20 rfl (by rw [er_21]; rfl) dX6_turn_103 ?_
      refine zv_aload_n (pc := 104) C rfl 5 rfl dX6_turn_104 ?_
      refine zv_get (pc := 105) (CC := RX6) (T := TX6) (N := 22) (ci := 5) (v := .ref qM8) C zi_X6_turn_X6 0 rfl 8 (by decide) zf_X6_turn_31 rfl rfl dX6_turn_105 ?_
      refine zv_iload_n (pc := 108) C rfl 4 rfl dX6_turn_108 ?_
      refine zv_aload_n (pc := 109) C rfl 5 rfl dX6_turn_109 ?_
      refine zv_get (pc := 110) (CC := RX6) (T := TX6) (N := 22) (ci := 5) (v := .ref qM8) C zi_X6_turn_X6 0 rfl 8 (by decide) zf_X6_turn_31 rfl rfl dX6_turn_110 ?_
      refine zv_iload (pc := 113) C 3 rfl dX6_turn_113 ?_
      obtain ⟨h_22, hF⟩ := hF
      refine zv_iald (pc := 115) (n := 12) (f := (M 8)) C 8 h_22 rfl dX6_turn_115 ?_
      obtain ⟨h_23, hF⟩ := hF
      obtain ⟨r_24, er_24⟩ : ∃ y : zRow, y = (upd (M 8) (Int32.toNatClampNeg x3_7) ((M 8) (Int32.toNatClampNeg x4_9))) := ⟨_, rfl⟩
      replace hF := hF r_24 er_24
      refine zv_iast (pc := 116) (n := 12) (f := (M 8)) (ws' := (zd_X6_turn cI adM qM1 qM2 qM3 qM4 qM5 qM6 qM7 qM8 qM12 qM13 qM15 qM16 qM17 qM18 qM19 qM20 qM21 (zset (zset (zset M 6 r_18) 7 r_21) 8 r_24))) C 8 h_23 rfl (by rw [er_24]; rfl) dX6_turn_116 ?_
      refine zv_aload_n (pc := 117) C rfl 5 rfl dX6_turn_117 ?_
      refine zv_get (pc := 118) (CC := RX6) (T := TX6) (N := 22) (ci := 5) (v := .ref qM6) C zi_X6_turn_X6 0 rfl 6 (by decide) zf_X6_turn_25 rfl rfl dX6_turn_118 ?_
      refine zv_iload (pc := 121) C 3 rfl dX6_turn_121 ?_
      refine zv_iload (pc := 123) C 2 rfl dX6_turn_123 ?_
      obtain ⟨h_25, hF⟩ := hF
      obtain ⟨r_26, er_26⟩ : ∃ y : zRow, y = (upd r_18 (Int32.toNatClampNeg x4_9) x5_11) := ⟨_, rfl⟩
      replace hF := hF r_26 er_26
      refine zv_iast (pc := 125) (n := 12) (f := r_18) (ws' := (zd_X6_turn cI adM qM1 qM2 qM3 qM4 qM5 qM6 qM7 qM8 qM12 qM13 qM15 qM16 qM17 qM18 qM19 qM20 qM21 (zset (zset (zset M 6 r_26) 7 r_21) 8 r_24))) C 6 h_25 rfl (by rw [er_26]; rfl) dX6_turn_125 ?_
      refine zv_aload_n (pc := 126) C rfl 5 rfl dX6_turn_126 ?_
      refine zv_get (pc := 127) (CC := RX6) (T := TX6) (N := 22) (ci := 5) (v := .ref qM7) C zi_X6_turn_X6 0 rfl 7 (by decide) zf_X6_turn_28 rfl rfl dX6_turn_127 ?_
      refine zv_iload (pc := 130) C 3 rfl dX6_turn_130 ?_
      refine zv_iload (pc := 132) C 1 rfl dX6_turn_132 ?_
      obtain ⟨h_27, hF⟩ := hF
      obtain ⟨r_28, er_28⟩ : ∃ y : zRow, y = (upd r_21 (Int32.toNatClampNeg x4_9) x6_13) := ⟨_, rfl⟩
      replace hF := hF r_28 er_28
      refine zv_iast (pc := 134) (n := 12) (f := r_21) (ws' := (zd_X6_turn cI adM qM1 qM2 qM3 qM4 qM5 qM6 qM7 qM8 qM12 qM13 qM15 qM16 qM17 qM18 qM19 qM20 qM21 (zset (zset (zset M 6 r_26) 7 r_28) 8 r_24))) C 7 h_27 rfl (by rw [er_28]; rfl) dX6_turn_134 ?_
      refine zv_aload_n (pc := 135) C rfl 5 rfl dX6_turn_135 ?_
      refine zv_get (pc := 136) (CC := RX6) (T := TX6) (N := 22) (ci := 5) (v := .ref qM8) C zi_X6_turn_X6 0 rfl 8 (by decide) zf_X6_turn_31 rfl rfl dX6_turn_136 ?_
      refine zv_iload (pc := 139) C 3 rfl dX6_turn_139 ?_
      refine zv_iload (pc := 141) C 0 rfl dX6_turn_141 ?_
      obtain ⟨h_29, hF⟩ := hF
      obtain ⟨r_30, er_30⟩ : ∃ y : zRow, y = (upd r_24 (Int32.toNatClampNeg x4_9) x7_15) := ⟨_, rfl⟩
      replace hF := hF r_30 er_30
      refine zv_iast (pc := 143) (n := 12) (f := r_24) (ws' := (zd_X6_turn cI adM qM1 qM2 qM3 qM4 qM5 qM6 qM7 qM8 qM12 qM13 qM15 qM16 qM17 qM18 qM19 qM20 qM21 (zset (zset (zset M 6 r_26) 7 r_28) 8 r_30))) C 8 h_29 rfl (by rw [er_30]; rfl) dX6_turn_143 ?_
      obtain ⟨x2_31, ex2_31⟩ : ∃ y : Int32, y = p2 + (1 : Int32) := ⟨_, rfl⟩
      replace hF := hF x2_31 ex2_31
      refine zv_iinc (pc := 144) (v := x2_31) (lv' := [(2, .int x2_31), (7, .int x7_15), (6, .int x6_13), (5, .int x5_11), (4, .int x4_9), (3, .int x3_7), (0, .ref adM), (1, .int c1)]) C 7 rfl (by rw [ex2_31]; rfl) (by decide) rfl dX6_turn_144 ?_
      refine zv_goto (pc := 147) (tgt := 16) C dX6_turn_147 (by decide) ?_
      exact zv_lvs [6, 7, 0] rfl (ih x2_31 (zset (zset (zset M 6 r_26) 7 r_28) 8 r_30) hF)
set_option maxHeartbeats 4000000 in
set_option maxRecDepth 100000 in
theorem zc_X6_turn (l : Launch) (G : va_G) (cI : ClassId) (adM qM1 qM2 qM3 qM4 qM5 qM6 qM7 qM8 qM12 qM13 qM15 qM16 qM17 qM18 qM19 qM20 qM21 : Nat) (M : zMem) (a1 : Int32) (post : zMem → Prop) (hF : zw_X6_turn M a1 post) (sz : Nat) : Met l yX6_turn wsX6_turn rmX6_turn (va_Pc [.ref adM, .int a1] (zv_in G cI (zd_X6_turn cI adM qM1 qM2 qM3 qM4 qM5 qM6 qM7 qM8 qM12 qM13 qM15 qM16 qM17 qM18 qM19 qM20 qM21 M) sz)) (va_Qv (fun uz : zMem => post uz) (fun (uz : zMem) t => zv_out G cI (va_A (zd_X6_turn cI adM qM1 qM2 qM3 qM4 qM5 qM6 qM7 qM8 qM12 qM13 qM15 qM16 qM17 qM18 qM19 qM20 qM21 M) sz) (zd_X6_turn cI adM qM1 qM2 qM3 qM4 qM5 qM6 qM7 qM8 qM12 qM13 qM15 qM16 qM17 qM18 qM19 qM20 qM21 uz) t) (va_A (zd_X6_turn cI adM qM1 qM2 qM3 qM4 qM5 qM6 qM7 qM8 qM12 qM13 qM15 qM16 qM17 qM18 qM19 qM20 qM21 M) sz)) 0 0 (va_A (zd_X6_turn cI adM qM1 qM2 qM3 qM4 qM5 qM6 qM7 qM8 qM12 qM13 qM15 qM16 qM17 qM18 qM19 qM20 qM21 M) sz) := by
  refine zv_met (cc := cX6_turn) (maxL := 8) (ret := none) (lv0 := [(0, .ref adM), (1, .int a1)]) (Qc := fun A => va_Qv (fun uz : zMem => post uz) (fun (uz : zMem) t => zv_out G cI A (zd_X6_turn cI adM qM1 qM2 qM3 qM4 qM5 qM6 qM7 qM8 qM12 qM13 qM15 qM16 qM17 qM18 qM19 qM20 qM21 uz) t) A) (by decide) rfl (Nat.le_of_ble_eq_true rfl) rfl ?_ sz
  intro p e s m below meth c A C hr hlk
  clear sz
  refine zv_aload_n (pc := 0) C rfl 0 rfl dX6_turn_0 ?_
  refine zv_iload_n (pc := 1) C rfl 1 rfl dX6_turn_1 ?_
  refine zv_ci0 (pc := 2) (ws' := (fun uz : zMem => (zd_X6_turn cI adM qM1 qM2 qM3 qM4 qM5 qM6 qM7 qM8 qM12 qM13 qM15 qM16 qM17 qM18 qM19 qM20 qM21 uz))) C (zv_runV (As := [.int a1]) (b := adM) (rest := []) (ci := 5) (q0 := 0) C (zc_X6_isStack l G cI adM qM1 qM2 qM3 qM4 qM5 qM6 qM7 qM8 qM12 qM13 qM15 qM16 qM17 qM18 qM19 qM20 qM21 M a1 _ hF) (cwV 1 C.2.2.2.2.1 gX6_turn_X6_isStack rfl rfl rfl zy_X6_isStack ⟨Nat.le_of_ble_eq_true rfl, Nat.le_of_ble_eq_true rfl⟩) rfl rfl rfl rfl rfl (Nat.le_of_ble_eq_true rfl) ⟨Nat.zero_le _, Nat.zero_le _⟩ dX6_turn_2) [0, 1, 2, 3, 4, 5, 6, 7, 8, 9, 10, 11, 12, 13, 14, 15, 16, 17] [] rfl rfl rfl rfl rfl (fun _ => rfl) (fun _ => rfl) (fun _ => rfl) (fun v_2 uz hF => ?_)
  obtain ⟨T_1, hE⟩ : ∃ z, z = uz := ⟨_, rfl⟩; subst hE
  refine zv_if_ne (pc := 5) (tgt := 9) C dX6_turn_5 (by decide) (fun c_3 => ?_) (fun c_3 => ?_)
  · replace hF := And.left hF c_3
    refine zv_aload_n (pc := 9) C rfl 0 rfl dX6_turn_9 ?_
    refine zv_iload_n (pc := 10) C rfl 1 rfl dX6_turn_10 ?_
    refine zv_cv0 (pc := 11) (ws' := (fun uz : zMem => (zd_X6_turn cI adM qM1 qM2 qM3 qM4 qM5 qM6 qM7 qM8 qM12 qM13 qM15 qM16 qM17 qM18 qM19 qM20 qM21 uz))) C (zv_runV (As := [.int a1]) (b := adM) (rest := []) (ci := 5) (q0 := 0) C (zc_X6_changeEdges l G cI adM qM1 qM2 qM3 qM4 qM5 qM6 qM7 qM8 qM12 qM13 qM15 qM16 qM17 qM18 qM19 qM20 qM21 T_1 a1 _ hF) (cwV 1 C.2.2.2.2.1 gX6_turn_X6_changeEdges rfl rfl rfl zy_X6_changeEdges ⟨Nat.le_of_ble_eq_true rfl, Nat.le_of_ble_eq_true rfl⟩) rfl rfl rfl rfl rfl (Nat.le_of_ble_eq_true rfl) ⟨Nat.zero_le _, Nat.zero_le _⟩ dX6_turn_11) [0, 1, 2, 3, 4, 5, 6, 7, 8, 9, 10, 11, 12, 13, 14, 15, 16, 17] [] rfl rfl rfl rfl rfl (fun _ => rfl) (fun _ => rfl) (fun _ => rfl) (fun uz hF => ?_)
    obtain ⟨T_4, hE⟩ : ∃ z, z = uz := ⟨_, rfl⟩; subst hE
    refine zv_iconst (pc := 14) (v := 0) C (by decide) dX6_turn_14 ?_
    refine zv_istore_n (pc := 15) (lv' := [(2, .int (0 : Int32)), (0, .ref adM), (1, .int a1)]) C rfl (by decide) rfl dX6_turn_15 ?_
    obtain ⟨kf, hF⟩ := hF
    refine zv_lvs [1, 2, 0] rfl (zl_X6_turn_16 adM qM1 qM2 qM3 qM4 qM5 qM6 qM7 qM8 qM12 qM13 qM15 qM16 qM17 qM18 qM19 qM20 qM21 a1 _ C ?_ kf (0 : Int32) T_4 hF)
    · intro T_32 hF
      exact zv_vret (pc := 150) C hr hlk T_32 hF rfl dX6_turn_150
  · replace hF := And.right hF c_3
    exact zv_vret (pc := 8) C hr hlk T_1 hF rfl dX6_turn_8
theorem zf_X6_copy__13 : Cond.fieldLink RX6 13 "GlassStackModel" "airLow" "[I" ∈ wsX6_copy_ := (List.mem_of_getElem? (i := 2) rfl)
theorem zf_X6_copy__16 : Cond.fieldLink RX6 16 "GlassStackModel" "groundUp" "[I" ∈ wsX6_copy_ := (List.mem_of_getElem? (i := 3) rfl)
theorem zf_X6_copy__19 : Cond.fieldLink RX6 19 "GlassStackModel" "groundLow" "[I" ∈ wsX6_copy_ := (List.mem_of_getElem? (i := 4) rfl)
theorem zf_X6_copy__22 : Cond.fieldLink RX6 22 "GlassStackModel" "many" "[I" ∈ wsX6_copy_ := (List.mem_of_getElem? (i := 5) rfl)
theorem zf_X6_copy__25 : Cond.fieldLink RX6 25 "GlassStackModel" "up" "[I" ∈ wsX6_copy_ := (List.mem_of_getElem? (i := 6) rfl)
theorem zf_X6_copy__28 : Cond.fieldLink RX6 28 "GlassStackModel" "low" "[I" ∈ wsX6_copy_ := (List.mem_of_getElem? (i := 7) rfl)
theorem zf_X6_copy__31 : Cond.fieldLink RX6 31 "GlassStackModel" "wide" "[I" ∈ wsX6_copy_ := (List.mem_of_getElem? (i := 8) rfl)
theorem zf_X6_copy__7 : Cond.fieldLink RX6 7 "GlassStackModel" "airUp" "[I" ∈ wsX6_copy_ := (List.mem_of_getElem? (i := 1) rfl)
theorem zi_X6_copy__X6 : ∀ w ∈ wsX60, w ∈ wsX6_copy_ := fun w h => List.mem_cons_of_mem _ (List.mem_append_right _ h)
theorem zy_X6_copy_ : yX6_copy_.cls = RX6 ∧ yX6_copy_.cls ≠ "java/lang/invoke/MethodHandle" ∧ yX6_copy_.cls ≠ "java/lang/invoke/VarHandle" ∧ (parseMethodDescriptor yX6_copy_.desc).map (fun d => d.parameters.length) = some 1 := by decide +kernel
set_option maxHeartbeats 4000000 in
set_option maxRecDepth 100000 in
theorem zl_X6_copy__75 {p : Program} {l : Launch} {e : Env} {s : State} {m : MethodId} {args : Array Value} {below : List Frame} {meth : Method} {c : Code} {G : va_G} {cI : ClassId} {A : Nat → Prop} {Q : State → Prop} (adM qM1 qM2 qM3 qM4 qM5 qM6 qM7 qM8 qM12 qM13 qM15 qM16 qM17 qM18 qM19 qM20 qM21 : Nat) (c1 : Int32) (c2 : Int32) (K153 : zMem → Prop) (C : zv_C p s m args c cX6_copy_ 4 RX6 wsX6_copy_ G cI A) (hK153 : ∀ (M : zMem), K153 M → zv_V p l e (headSpec wsX6_copy_ rmX6_copy_).room s m args below meth c Q G A 4 0 0 (zd_X6_copy_ cI adM qM1 qM2 qM3 qM4 qM5 qM6 qM7 qM8 qM12 qM13 qM15 qM16 qM17 qM18 qM19 qM20 qM21 M) 153 [] []) : ∀ (k : Nat) (p3 : Int32) (M : zMem), zw_X6_copy__75 c1 c2 K153 k p3 M → zv_V p l e (headSpec wsX6_copy_ rmX6_copy_).room s m args below meth c Q G A 4 0 0 (zd_X6_copy_ cI adM qM1 qM2 qM3 qM4 qM5 qM6 qM7 qM8 qM12 qM13 qM15 qM16 qM17 qM18 qM19 qM20 qM21 M) 75 [(0, .ref adM), (1, .int c1), (2, .int c2), (3, .int p3)] [] := by
  intro k
  induction k with
  | zero => intro p3 M hF; exact (show False from hF).elim
  | succ k ih =>
    intro p3 M hF
    refine zv_iload_n (pc := 75) C rfl 3 rfl dX6_copy__75 ?_
    refine zv_bipush (pc := 76) (v := 6) C (by decide) dX6_copy__76 ?_
    refine zv_icmp_ge (pc := 78) (tgt := 153) C dX6_copy__78 (by decide) (fun c_20 => ?_) (fun c_20 => ?_)
    · replace hF := And.left hF c_20
      exact zv_lvs [] rfl (hK153 M hF)
    · replace hF := And.right hF c_20
      refine zv_aload_n (pc := 81) C rfl 0 rfl dX6_copy__81 ?_
      refine zv_get (pc := 82) (CC := RX6) (T := TX6) (N := 22) (ci := 5) (v := .ref qM6) C zi_X6_copy__X6 0 rfl 6 (by decide) zf_X6_copy__25 rfl rfl dX6_copy__82 ?_
      refine zv_bipush (pc := 85) (v := 6) C (by decide) dX6_copy__85 ?_
      refine zv_iload_n (pc := 87) C rfl 2 rfl dX6_copy__87 ?_
      refine zv_imul (pc := 88) C  dX6_copy__88 ?_
      refine zv_iload_n (pc := 89) C rfl 3 rfl dX6_copy__89 ?_
      refine zv_iadd (pc := 90) C  dX6_copy__90 ?_
      refine zv_aload_n (pc := 91) C rfl 0 rfl dX6_copy__91 ?_
      refine zv_get (pc := 92) (CC := RX6) (T := TX6) (N := 22) (ci := 5) (v := .ref qM6) C zi_X6_copy__X6 0 rfl 6 (by decide) zf_X6_copy__25 rfl rfl dX6_copy__92 ?_
      refine zv_bipush (pc := 95) (v := 6) C (by decide) dX6_copy__95 ?_
      refine zv_iload_n (pc := 97) C rfl 1 rfl dX6_copy__97 ?_
      refine zv_imul (pc := 98) C  dX6_copy__98 ?_
      refine zv_iload_n (pc := 99) C rfl 3 rfl dX6_copy__99 ?_
      refine zv_iadd (pc := 100) C  dX6_copy__100 ?_
      obtain ⟨h_21, hF⟩ := hF
      refine zv_iald (pc := 101) (n := 12) (f := (M 6)) C 6 h_21 rfl dX6_copy__101 ?_
      obtain ⟨h_22, hF⟩ := hF
      obtain ⟨r_23, er_23⟩ : ∃ y : zRow, y = (upd (M 6) (Int32.toNatClampNeg (((6 : Int32) * c2) + p3)) ((M 6) (Int32.toNatClampNeg (((6 : Int32) * c1) + p3)))) := ⟨_, rfl⟩
      replace hF := hF r_23 er_23
      refine zv_iast (pc := 102) (n := 12) (f := (M 6)) (ws' := (zd_X6_copy_ cI adM qM1 qM2 qM3 qM4 qM5 qM6 qM7 qM8 qM12 qM13 qM15 qM16 qM17 qM18 qM19 qM20 qM21 (zset M 6 r_23))) C 6 h_22 rfl (by rw [er_23]; rfl) dX6_copy__102 ?_
      refine zv_aload_n (pc := 103) C rfl 0 rfl dX6_copy__103 ?_
      refine zv_get (pc := 104) (CC := RX6) (T := TX6) (N := 22) (ci := 5) (v := .ref qM7) C zi_X6_copy__X6 0 rfl 7 (by decide) zf_X6_copy__28 rfl rfl dX6_copy__104 ?_
      refine zv_bipush (pc := 107) (v := 6) C (by decide) dX6_copy__107 ?_
      refine zv_iload_n (pc := 109) C rfl 2 rfl dX6_copy__109 ?_
      refine zv_imul (pc := 110) C  dX6_copy__110 ?_
      refine zv_iload_n (pc := 111) C rfl 3 rfl dX6_copy__111 ?_
      refine zv_iadd (pc := 112) C  dX6_copy__112 ?_
      refine zv_aload_n (pc := 113) C rfl 0 rfl dX6_copy__113 ?_
      refine zv_get (pc := 114) (CC := RX6) (T := TX6) (N := 22) (ci := 5) (v := .ref qM7) C zi_X6_copy__X6 0 rfl 7 (by decide) zf_X6_copy__28 rfl rfl dX6_copy__114 ?_
      refine zv_bipush (pc := 117) (v := 6) C (by decide) dX6_copy__117 ?_
      refine zv_iload_n (pc := 119) C rfl 1 rfl dX6_copy__119 ?_
      refine zv_imul (pc := 120) C  dX6_copy__120 ?_
      refine zv_iload_n (pc := 121) C rfl 3 rfl dX6_copy__121 ?_
      refine zv_iadd (pc := 122) C  dX6_copy__122 ?_
      obtain ⟨h_24, hF⟩ := hF
      refine zv_iald (pc := 123) (n := 12) (f := (M 7)) C 7 h_24 rfl dX6_copy__123 ?_
      obtain ⟨h_25, hF⟩ := hF
      obtain ⟨r_26, er_26⟩ : ∃ y : zRow, y = (upd (M 7) (Int32.toNatClampNeg (((6 : Int32) * c2) + p3)) ((M 7) (Int32.toNatClampNeg (((6 : Int32) * c1) + p3)))) := ⟨_, rfl⟩
      replace hF := hF r_26 er_26
      refine zv_iast (pc := 124) (n := 12) (f := (M 7)) (ws' := (zd_X6_copy_ cI adM qM1 qM2 qM3 qM4 qM5 qM6 qM7 qM8 qM12 qM13 qM15 qM16 qM17 qM18 qM19 qM20 qM21 (zset (zset M 6 r_23) 7 r_26))) C 7 h_25 rfl (by rw [er_26]; rfl) dX6_copy__124 ?_
      refine zv_aload_n (pc := 125) C rfl 0 rfl dX6_copy__125 ?_
      refine zv_get (pc := 126) (CC := RX6) (T := TX6) (N := 22) (ci := 5) (v := .ref qM8) C zi_X6_copy__X6 0 rfl 8 (by decide) zf_X6_copy__31 rfl rfl dX6_copy__126 ?_
      refine zv_bipush (pc := 129) (v := 6) C (by decide) dX6_copy__129 ?_
      refine zv_iload_n (pc := 131) C rfl 2 rfl dX6_copy__131 ?_
      refine zv_imul (pc := 132) C  dX6_copy__132 ?_
      refine zv_iload_n (pc := 133) C rfl 3 rfl dX6_copy__133 ?_
      refine zv_iadd (pc := 134) C  dX6_copy__134 ?_
      refine zv_aload_n (pc := 135) C rfl 0 rfl dX6_copy__135 ?_
      refine zv_get (pc := 136) (CC := RX6) (T := TX6) (N := 22) (ci := 5) (v := .ref qM8) C zi_X6_copy__X6 0 rfl 8 (by decide) zf_X6_copy__31 rfl rfl dX6_copy__136 ?_
      refine zv_bipush (pc := 139) (v := 6) C (by decide) dX6_copy__139 ?_
      refine zv_iload_n (pc := 141) C rfl 1 rfl dX6_copy__141 ?_
      refine zv_imul (pc := 142) C  dX6_copy__142 ?_
      refine zv_iload_n (pc := 143) C rfl 3 rfl dX6_copy__143 ?_
      refine zv_iadd (pc := 144) C  dX6_copy__144 ?_
      obtain ⟨h_27, hF⟩ := hF
      refine zv_iald (pc := 145) (n := 12) (f := (M 8)) C 8 h_27 rfl dX6_copy__145 ?_
      obtain ⟨h_28, hF⟩ := hF
      obtain ⟨r_29, er_29⟩ : ∃ y : zRow, y = (upd (M 8) (Int32.toNatClampNeg (((6 : Int32) * c2) + p3)) ((M 8) (Int32.toNatClampNeg (((6 : Int32) * c1) + p3)))) := ⟨_, rfl⟩
      replace hF := hF r_29 er_29
      refine zv_iast (pc := 146) (n := 12) (f := (M 8)) (ws' := (zd_X6_copy_ cI adM qM1 qM2 qM3 qM4 qM5 qM6 qM7 qM8 qM12 qM13 qM15 qM16 qM17 qM18 qM19 qM20 qM21 (zset (zset (zset M 6 r_23) 7 r_26) 8 r_29))) C 8 h_28 rfl (by rw [er_29]; rfl) dX6_copy__146 ?_
      obtain ⟨x3_30, ex3_30⟩ : ∃ y : Int32, y = p3 + (1 : Int32) := ⟨_, rfl⟩
      replace hF := hF x3_30 ex3_30
      refine zv_iinc (pc := 147) (v := x3_30) (lv' := [(3, .int x3_30), (0, .ref adM), (1, .int c1), (2, .int c2)]) C 3 rfl (by rw [ex3_30]; rfl) (by decide) rfl dX6_copy__147 ?_
      refine zv_goto (pc := 150) (tgt := 75) C dX6_copy__150 (by decide) ?_
      exact zv_lvs [1, 2, 3, 0] rfl (ih x3_30 (zset (zset (zset M 6 r_23) 7 r_26) 8 r_29) hF)
set_option maxHeartbeats 4000000 in
set_option maxRecDepth 100000 in
theorem zc_X6_copy_ (l : Launch) (G : va_G) (cI : ClassId) (adM qM1 qM2 qM3 qM4 qM5 qM6 qM7 qM8 qM12 qM13 qM15 qM16 qM17 qM18 qM19 qM20 qM21 : Nat) (M : zMem) (a1 : Int32) (post : zMem → Prop) (hF : zw_X6_copy_ M a1 post) (sz : Nat) : Met l yX6_copy_ wsX6_copy_ rmX6_copy_ (va_Pc [.ref adM, .int a1] (zv_in G cI (zd_X6_copy_ cI adM qM1 qM2 qM3 qM4 qM5 qM6 qM7 qM8 qM12 qM13 qM15 qM16 qM17 qM18 qM19 qM20 qM21 M) sz)) (va_Qv (fun uz : zMem => post uz) (fun (uz : zMem) t => zv_out G cI (va_A (zd_X6_copy_ cI adM qM1 qM2 qM3 qM4 qM5 qM6 qM7 qM8 qM12 qM13 qM15 qM16 qM17 qM18 qM19 qM20 qM21 M) sz) (zd_X6_copy_ cI adM qM1 qM2 qM3 qM4 qM5 qM6 qM7 qM8 qM12 qM13 qM15 qM16 qM17 qM18 qM19 qM20 qM21 uz) t) (va_A (zd_X6_copy_ cI adM qM1 qM2 qM3 qM4 qM5 qM6 qM7 qM8 qM12 qM13 qM15 qM16 qM17 qM18 qM19 qM20 qM21 M) sz)) 0 0 (va_A (zd_X6_copy_ cI adM qM1 qM2 qM3 qM4 qM5 qM6 qM7 qM8 qM12 qM13 qM15 qM16 qM17 qM18 qM19 qM20 qM21 M) sz) := by
  refine zv_met (cc := cX6_copy_) (maxL := 4) (ret := none) (lv0 := [(0, .ref adM), (1, .int a1)]) (Qc := fun A => va_Qv (fun uz : zMem => post uz) (fun (uz : zMem) t => zv_out G cI A (zd_X6_copy_ cI adM qM1 qM2 qM3 qM4 qM5 qM6 qM7 qM8 qM12 qM13 qM15 qM16 qM17 qM18 qM19 qM20 qM21 uz) t) A) (by decide) rfl (Nat.le_of_ble_eq_true rfl) rfl ?_ sz
  intro p e s m below meth c A C hr hlk
  clear sz
  refine zv_aload_n (pc := 0) C rfl 0 rfl dX6_copy__0 ?_
  refine zv_iload_n (pc := 1) C rfl 1 rfl dX6_copy__1 ?_
  refine zv_ci0 (pc := 2) (ws' := (fun uz : zMem => (zd_X6_copy_ cI adM qM1 qM2 qM3 qM4 qM5 qM6 qM7 qM8 qM12 qM13 qM15 qM16 qM17 qM18 qM19 qM20 qM21 uz))) C (zv_runV (As := [.int a1]) (b := adM) (rest := []) (ci := 5) (q0 := 0) C (zc_X6_isStack l G cI adM qM1 qM2 qM3 qM4 qM5 qM6 qM7 qM8 qM12 qM13 qM15 qM16 qM17 qM18 qM19 qM20 qM21 M a1 _ hF) (cwV 1 C.2.2.2.2.1 gX6_copy__X6_isStack rfl rfl rfl zy_X6_isStack ⟨Nat.le_of_ble_eq_true rfl, Nat.le_of_ble_eq_true rfl⟩) rfl rfl rfl rfl rfl (Nat.le_of_ble_eq_true rfl) ⟨Nat.zero_le _, Nat.zero_le _⟩ dX6_copy__2) [0, 1, 2, 3, 4, 5, 6, 7, 8, 9, 10, 11, 12, 13, 14, 15, 16, 17] [] rfl rfl rfl rfl rfl (fun _ => rfl) (fun _ => rfl) (fun _ => rfl) (fun v_2 uz hF => ?_)
  obtain ⟨T_1, hE⟩ : ∃ z, z = uz := ⟨_, rfl⟩; subst hE
  refine zv_if_ne (pc := 5) (tgt := 9) C dX6_copy__5 (by decide) (fun c_3 => ?_) (fun c_3 => ?_)
  · replace hF := And.left hF c_3
    refine zv_iconst (pc := 9) (v := 1) C (by decide) dX6_copy__9 ?_
    refine zv_iload_n (pc := 10) C rfl 1 rfl dX6_copy__10 ?_
    refine zv_isub (pc := 11) C  dX6_copy__11 ?_
    refine zv_topi (fun x2_4 ex2_4 => ?_)
    replace hF := hF x2_4 ex2_4
    refine zv_istore_n (pc := 12) (lv' := [(2, .int x2_4), (0, .ref adM), (1, .int a1)]) C rfl (by decide) rfl dX6_copy__12 ?_
    refine zv_aload_n (pc := 13) C rfl 1 rfl dX6_copy__13 ?_
    refine zv_get (pc := 14) (CC := RX6) (T := TX6) (N := 22) (ci := 5) (v := .ref qM1) C zi_X6_copy__X6 0 rfl 1 (by decide) zf_X6_copy__7 rfl rfl dX6_copy__14 ?_
    refine zv_iload_n (pc := 17) C rfl 0 rfl dX6_copy__17 ?_
    refine zv_aload_n (pc := 18) C rfl 1 rfl dX6_copy__18 ?_
    refine zv_get (pc := 19) (CC := RX6) (T := TX6) (N := 22) (ci := 5) (v := .ref qM1) C zi_X6_copy__X6 0 rfl 1 (by decide) zf_X6_copy__7 rfl rfl dX6_copy__19 ?_
    refine zv_iload_n (pc := 22) C rfl 2 rfl dX6_copy__22 ?_
    obtain ⟨h_5, hF⟩ := hF
    refine zv_iald (pc := 23) (n := 2) (f := (T_1 1)) C 1 h_5 rfl dX6_copy__23 ?_
    obtain ⟨h_6, hF⟩ := hF
    obtain ⟨r_7, er_7⟩ : ∃ y : zRow, y = (upd (T_1 1) (Int32.toNatClampNeg x2_4) ((T_1 1) (Int32.toNatClampNeg a1))) := ⟨_, rfl⟩
    replace hF := hF r_7 er_7
    refine zv_iast (pc := 24) (n := 2) (f := (T_1 1)) (ws' := (zd_X6_copy_ cI adM qM1 qM2 qM3 qM4 qM5 qM6 qM7 qM8 qM12 qM13 qM15 qM16 qM17 qM18 qM19 qM20 qM21 (zset T_1 1 r_7))) C 1 h_6 rfl (by rw [er_7]; rfl) dX6_copy__24 ?_
    refine zv_aload_n (pc := 25) C rfl 1 rfl dX6_copy__25 ?_
    refine zv_get (pc := 26) (CC := RX6) (T := TX6) (N := 22) (ci := 5) (v := .ref qM2) C zi_X6_copy__X6 0 rfl 2 (by decide) zf_X6_copy__13 rfl rfl dX6_copy__26 ?_
    refine zv_iload_n (pc := 29) C rfl 0 rfl dX6_copy__29 ?_
    refine zv_aload_n (pc := 30) C rfl 1 rfl dX6_copy__30 ?_
    refine zv_get (pc := 31) (CC := RX6) (T := TX6) (N := 22) (ci := 5) (v := .ref qM2) C zi_X6_copy__X6 0 rfl 2 (by decide) zf_X6_copy__13 rfl rfl dX6_copy__31 ?_
    refine zv_iload_n (pc := 34) C rfl 2 rfl dX6_copy__34 ?_
    obtain ⟨h_8, hF⟩ := hF
    refine zv_iald (pc := 35) (n := 2) (f := (T_1 2)) C 2 h_8 rfl dX6_copy__35 ?_
    obtain ⟨h_9, hF⟩ := hF
    obtain ⟨r_10, er_10⟩ : ∃ y : zRow, y = (upd (T_1 2) (Int32.toNatClampNeg x2_4) ((T_1 2) (Int32.toNatClampNeg a1))) := ⟨_, rfl⟩
    replace hF := hF r_10 er_10
    refine zv_iast (pc := 36) (n := 2) (f := (T_1 2)) (ws' := (zd_X6_copy_ cI adM qM1 qM2 qM3 qM4 qM5 qM6 qM7 qM8 qM12 qM13 qM15 qM16 qM17 qM18 qM19 qM20 qM21 (zset (zset T_1 1 r_7) 2 r_10))) C 2 h_9 rfl (by rw [er_10]; rfl) dX6_copy__36 ?_
    refine zv_aload_n (pc := 37) C rfl 1 rfl dX6_copy__37 ?_
    refine zv_get (pc := 38) (CC := RX6) (T := TX6) (N := 22) (ci := 5) (v := .ref qM3) C zi_X6_copy__X6 0 rfl 3 (by decide) zf_X6_copy__16 rfl rfl dX6_copy__38 ?_
    refine zv_iload_n (pc := 41) C rfl 0 rfl dX6_copy__41 ?_
    refine zv_aload_n (pc := 42) C rfl 1 rfl dX6_copy__42 ?_
    refine zv_get (pc := 43) (CC := RX6) (T := TX6) (N := 22) (ci := 5) (v := .ref qM3) C zi_X6_copy__X6 0 rfl 3 (by decide) zf_X6_copy__16 rfl rfl dX6_copy__43 ?_
    refine zv_iload_n (pc := 46) C rfl 2 rfl dX6_copy__46 ?_
    obtain ⟨h_11, hF⟩ := hF
    refine zv_iald (pc := 47) (n := 2) (f := (T_1 3)) C 3 h_11 rfl dX6_copy__47 ?_
    obtain ⟨h_12, hF⟩ := hF
    obtain ⟨r_13, er_13⟩ : ∃ y : zRow, y = (upd (T_1 3) (Int32.toNatClampNeg x2_4) ((T_1 3) (Int32.toNatClampNeg a1))) := ⟨_, rfl⟩
    replace hF := hF r_13 er_13
    refine zv_iast (pc := 48) (n := 2) (f := (T_1 3)) (ws' := (zd_X6_copy_ cI adM qM1 qM2 qM3 qM4 qM5 qM6 qM7 qM8 qM12 qM13 qM15 qM16 qM17 qM18 qM19 qM20 qM21 (zset (zset (zset T_1 1 r_7) 2 r_10) 3 r_13))) C 3 h_12 rfl (by rw [er_13]; rfl) dX6_copy__48 ?_
    refine zv_aload_n (pc := 49) C rfl 1 rfl dX6_copy__49 ?_
    refine zv_get (pc := 50) (CC := RX6) (T := TX6) (N := 22) (ci := 5) (v := .ref qM4) C zi_X6_copy__X6 0 rfl 4 (by decide) zf_X6_copy__19 rfl rfl dX6_copy__50 ?_
    refine zv_iload_n (pc := 53) C rfl 0 rfl dX6_copy__53 ?_
    refine zv_aload_n (pc := 54) C rfl 1 rfl dX6_copy__54 ?_
    refine zv_get (pc := 55) (CC := RX6) (T := TX6) (N := 22) (ci := 5) (v := .ref qM4) C zi_X6_copy__X6 0 rfl 4 (by decide) zf_X6_copy__19 rfl rfl dX6_copy__55 ?_
    refine zv_iload_n (pc := 58) C rfl 2 rfl dX6_copy__58 ?_
    obtain ⟨h_14, hF⟩ := hF
    refine zv_iald (pc := 59) (n := 2) (f := (T_1 4)) C 4 h_14 rfl dX6_copy__59 ?_
    obtain ⟨h_15, hF⟩ := hF
    obtain ⟨r_16, er_16⟩ : ∃ y : zRow, y = (upd (T_1 4) (Int32.toNatClampNeg x2_4) ((T_1 4) (Int32.toNatClampNeg a1))) := ⟨_, rfl⟩
    replace hF := hF r_16 er_16
    refine zv_iast (pc := 60) (n := 2) (f := (T_1 4)) (ws' := (zd_X6_copy_ cI adM qM1 qM2 qM3 qM4 qM5 qM6 qM7 qM8 qM12 qM13 qM15 qM16 qM17 qM18 qM19 qM20 qM21 (zset (zset (zset (zset T_1 1 r_7) 2 r_10) 3 r_13) 4 r_16))) C 4 h_15 rfl (by rw [er_16]; rfl) dX6_copy__60 ?_
    refine zv_aload_n (pc := 61) C rfl 1 rfl dX6_copy__61 ?_
    refine zv_get (pc := 62) (CC := RX6) (T := TX6) (N := 22) (ci := 5) (v := .ref qM5) C zi_X6_copy__X6 0 rfl 5 (by decide) zf_X6_copy__22 rfl rfl dX6_copy__62 ?_
    refine zv_iload_n (pc := 65) C rfl 0 rfl dX6_copy__65 ?_
    refine zv_aload_n (pc := 66) C rfl 1 rfl dX6_copy__66 ?_
    refine zv_get (pc := 67) (CC := RX6) (T := TX6) (N := 22) (ci := 5) (v := .ref qM5) C zi_X6_copy__X6 0 rfl 5 (by decide) zf_X6_copy__22 rfl rfl dX6_copy__67 ?_
    refine zv_iload_n (pc := 70) C rfl 2 rfl dX6_copy__70 ?_
    obtain ⟨h_17, hF⟩ := hF
    refine zv_iald (pc := 71) (n := 2) (f := (T_1 5)) C 5 h_17 rfl dX6_copy__71 ?_
    obtain ⟨h_18, hF⟩ := hF
    obtain ⟨r_19, er_19⟩ : ∃ y : zRow, y = (upd (T_1 5) (Int32.toNatClampNeg x2_4) ((T_1 5) (Int32.toNatClampNeg a1))) := ⟨_, rfl⟩
    replace hF := hF r_19 er_19
    refine zv_iast (pc := 72) (n := 2) (f := (T_1 5)) (ws' := (zd_X6_copy_ cI adM qM1 qM2 qM3 qM4 qM5 qM6 qM7 qM8 qM12 qM13 qM15 qM16 qM17 qM18 qM19 qM20 qM21 (zset (zset (zset (zset (zset T_1 1 r_7) 2 r_10) 3 r_13) 4 r_16) 5 r_19))) C 5 h_18 rfl (by rw [er_19]; rfl) dX6_copy__72 ?_
    refine zv_iconst (pc := 73) (v := 0) C (by decide) dX6_copy__73 ?_
    refine zv_istore_n (pc := 74) (lv' := [(3, .int (0 : Int32)), (2, .int x2_4), (0, .ref adM), (1, .int a1)]) C rfl (by decide) rfl dX6_copy__74 ?_
    obtain ⟨kf, hF⟩ := hF
    refine zv_lvs [2, 3, 1, 0] rfl (zl_X6_copy__75 adM qM1 qM2 qM3 qM4 qM5 qM6 qM7 qM8 qM12 qM13 qM15 qM16 qM17 qM18 qM19 qM20 qM21 a1 x2_4 _ C ?_ kf (0 : Int32) (zset (zset (zset (zset (zset T_1 1 r_7) 2 r_10) 3 r_13) 4 r_16) 5 r_19) hF)
    · intro T_31 hF
      exact zv_vret (pc := 153) C hr hlk T_31 hF rfl dX6_copy__153
  · replace hF := And.right hF c_3
    exact zv_vret (pc := 8) C hr hlk T_1 hF rfl dX6_copy__8
theorem zf_X6_light_159 : Cond.fieldLink RX6 159 "GlassStackModel" "lightU" "I" ∈ wsX6_light := (List.mem_of_getElem? (i := 2) rfl)
theorem zf_X6_light_34 : Cond.fieldLink RX6 34 "GlassStackModel" "lightV" "I" ∈ wsX6_light := (List.mem_of_getElem? (i := 3) rfl)
theorem zf_X6_light_65 : Cond.fieldLink RX6 65 "GlassStackModel" "thrown" "I" ∈ wsX6_light := (List.mem_of_getElem? (i := 1) rfl)
theorem zi_X6_light_X6 : ∀ w ∈ wsX60, w ∈ wsX6_light := fun w h => List.mem_cons_of_mem _ (List.mem_append_right _ h)
theorem zy_X6_light : yX6_light.cls = RX6 ∧ yX6_light.cls ≠ "java/lang/invoke/MethodHandle" ∧ yX6_light.cls ≠ "java/lang/invoke/VarHandle" ∧ (parseMethodDescriptor yX6_light.desc).map (fun d => d.parameters.length) = some 2 := by decide +kernel
set_option maxHeartbeats 4000000 in
set_option maxRecDepth 100000 in
theorem zc_X6_light (l : Launch) (G : va_G) (cI : ClassId) (adM qM1 qM2 qM3 qM4 qM5 qM6 qM7 qM8 qM12 qM13 qM15 qM16 qM17 qM18 qM19 qM20 qM21 : Nat) (M : zMem) (a1 : Int32) (a2 : Int32) (post : zMem → Prop) (hF : zw_X6_light M a1 a2 post) (sz : Nat) : Met l yX6_light wsX6_light rmX6_light (va_Pc [.ref adM, .int a1, .int a2] (zv_in G cI (zd_X6_light cI adM qM1 qM2 qM3 qM4 qM5 qM6 qM7 qM8 qM12 qM13 qM15 qM16 qM17 qM18 qM19 qM20 qM21 M) sz)) (va_Qv (fun uz : zMem => post uz) (fun (uz : zMem) t => zv_out G cI (va_A (zd_X6_light cI adM qM1 qM2 qM3 qM4 qM5 qM6 qM7 qM8 qM12 qM13 qM15 qM16 qM17 qM18 qM19 qM20 qM21 M) sz) (zd_X6_light cI adM qM1 qM2 qM3 qM4 qM5 qM6 qM7 qM8 qM12 qM13 qM15 qM16 qM17 qM18 qM19 qM20 qM21 uz) t) (va_A (zd_X6_light cI adM qM1 qM2 qM3 qM4 qM5 qM6 qM7 qM8 qM12 qM13 qM15 qM16 qM17 qM18 qM19 qM20 qM21 M) sz)) 0 0 (va_A (zd_X6_light cI adM qM1 qM2 qM3 qM4 qM5 qM6 qM7 qM8 qM12 qM13 qM15 qM16 qM17 qM18 qM19 qM20 qM21 M) sz) := by
  refine zv_met (cc := cX6_light) (maxL := 3) (ret := none) (lv0 := [(0, .ref adM), (1, .int a1), (2, .int a2)]) (Qc := fun A => va_Qv (fun uz : zMem => post uz) (fun (uz : zMem) t => zv_out G cI A (zd_X6_light cI adM qM1 qM2 qM3 qM4 qM5 qM6 qM7 qM8 qM12 qM13 qM15 qM16 qM17 qM18 qM19 qM20 qM21 uz) t) A) (by decide) rfl (Nat.le_of_ble_eq_true rfl) rfl ?_ sz
  intro p e s m below meth c A C hr hlk
  clear sz
  refine zv_aload_n (pc := 0) C rfl 0 rfl dX6_light_0 ?_
  refine zv_iconst (pc := 1) (v := 0) C (by decide) dX6_light_1 ?_
  refine zv_put (pc := 2) (CC := RX6) (T := TX6) (N := 22) (ci := 5) (v := .int (0 : Int32)) (ty := .int) (ws' := (zd_X6_light cI adM qM1 qM2 qM3 qM4 qM5 qM6 qM7 qM8 qM12 qM13 qM15 qM16 qM17 qM18 qM19 qM20 qM21 (zset M 0 (fun _ => (0 : Int32))))) C zi_X6_light_X6 tyX6 tyX6_ok nmX6 0 rfl 0 (by decide) zf_X6_light_65 rfl (by decide +kernel) rfl rfl rfl (Nat.le_of_ble_eq_true rfl) rfl dX6_light_2 ?_
  refine zv_aload_n (pc := 5) C rfl 0 rfl dX6_light_5 ?_
  refine zv_iload_n (pc := 6) C rfl 2 rfl dX6_light_6 ?_
  refine zv_iconst (pc := 7) (v := 1) C (by decide) dX6_light_7 ?_
  refine zv_icmp_lt (pc := 8) (tgt := 32) C dX6_light_8 (by decide) (fun c_1 => ?_) (fun c_1 => ?_)
  · replace hF := And.left hF c_1
    refine zv_iconst (pc := 32) (v := 0) C (by decide) dX6_light_32 ?_
    refine zv_iconst (pc := 33) (v := 1) C (by decide) dX6_light_33 ?_
    refine zv_ci0 (pc := 34) (ws' := (fun uz : zMem => (zd_X6_light cI adM qM1 qM2 qM3 qM4 qM5 qM6 qM7 qM8 qM12 qM13 qM15 qM16 qM17 qM18 qM19 qM20 qM21 uz))) C (zv_runV (As := [.int (0 : Int32), .int (1 : Int32)]) (b := adM) (rest := []) (ci := 5) (q0 := 0) C (zc_X6_right l G cI adM qM1 qM2 qM3 qM4 qM5 qM6 qM7 qM8 qM12 qM13 qM15 qM16 qM17 qM18 qM19 qM20 qM21 (zset M 0 (fun _ => (0 : Int32))) (0 : Int32) (1 : Int32) _ hF) (cwV 2 C.2.2.2.2.1 gX6_light_X6_right rfl rfl rfl zy_X6_right ⟨Nat.le_of_ble_eq_true rfl, Nat.le_of_ble_eq_true rfl⟩) rfl rfl rfl rfl rfl (Nat.le_of_ble_eq_true rfl) ⟨Nat.zero_le _, Nat.zero_le _⟩ dX6_light_34) [0, 1, 2, 3, 4, 5, 6, 7, 8, 9, 10, 11, 12, 13, 14, 15, 16, 17] [] rfl rfl rfl rfl rfl (fun _ => rfl) (fun _ => rfl) (fun _ => rfl) (fun v_3 uz hF => ?_)
    obtain ⟨T_2, hE⟩ : ∃ z, z = uz := ⟨_, rfl⟩; subst hE
    refine zv_if_ne (pc := 37) (tgt := 41) C dX6_light_37 (by decide) (fun c_4 => ?_) (fun c_4 => ?_)
    · replace hF := And.left hF c_4
      refine zv_aload_n (pc := 41) C rfl 0 rfl dX6_light_41 ?_
      refine zv_iload_n (pc := 42) C rfl 1 rfl dX6_light_42 ?_
      refine zv_put (pc := 43) (CC := RX6) (T := TX6) (N := 22) (ci := 5) (v := .int a1) (ty := .int) (ws' := (zd_X6_light cI adM qM1 qM2 qM3 qM4 qM5 qM6 qM7 qM8 qM12 qM13 qM15 qM16 qM17 qM18 qM19 qM20 qM21 (zset T_2 9 (fun _ => a1)))) C zi_X6_light_X6 tyX6 tyX6_ok nmX6 0 rfl 9 (by decide) zf_X6_light_159 rfl (by decide +kernel) rfl rfl rfl (Nat.le_of_ble_eq_true rfl) rfl dX6_light_43 ?_
      refine zv_aload_n (pc := 46) C rfl 0 rfl dX6_light_46 ?_
      refine zv_iload_n (pc := 47) C rfl 2 rfl dX6_light_47 ?_
      refine zv_put (pc := 48) (CC := RX6) (T := TX6) (N := 22) (ci := 5) (v := .int a2) (ty := .int) (ws' := (zd_X6_light cI adM qM1 qM2 qM3 qM4 qM5 qM6 qM7 qM8 qM12 qM13 qM15 qM16 qM17 qM18 qM19 qM20 qM21 (zset (zset T_2 9 (fun _ => a1)) 10 (fun _ => a2)))) C zi_X6_light_X6 tyX6 tyX6_ok nmX6 0 rfl 10 (by decide) zf_X6_light_34 rfl (by decide +kernel) rfl rfl rfl (Nat.le_of_ble_eq_true rfl) rfl dX6_light_48 ?_
      exact zv_vret (pc := 51) C hr hlk (zset (zset T_2 9 (fun _ => a1)) 10 (fun _ => a2)) hF rfl dX6_light_51
    · replace hF := And.right hF c_4
      exact zv_vret (pc := 40) C hr hlk T_2 hF rfl dX6_light_40
  · replace hF := And.right hF c_1
    refine zv_iload_n (pc := 11) C rfl 2 rfl dX6_light_11 ?_
    refine zv_bipush (pc := 12) (v := 25) C (by decide) dX6_light_12 ?_
    refine zv_icmp_gt (pc := 14) (tgt := 32) C dX6_light_14 (by decide) (fun c_5 => ?_) (fun c_5 => ?_)
    · replace hF := And.left hF c_5
      refine zv_iconst (pc := 32) (v := 0) C (by decide) dX6_light_32 ?_
      refine zv_iconst (pc := 33) (v := 1) C (by decide) dX6_light_33 ?_
      refine zv_ci0 (pc := 34) (ws' := (fun uz : zMem => (zd_X6_light cI adM qM1 qM2 qM3 qM4 qM5 qM6 qM7 qM8 qM12 qM13 qM15 qM16 qM17 qM18 qM19 qM20 qM21 uz))) C (zv_runV (As := [.int (0 : Int32), .int (1 : Int32)]) (b := adM) (rest := []) (ci := 5) (q0 := 0) C (zc_X6_right l G cI adM qM1 qM2 qM3 qM4 qM5 qM6 qM7 qM8 qM12 qM13 qM15 qM16 qM17 qM18 qM19 qM20 qM21 (zset M 0 (fun _ => (0 : Int32))) (0 : Int32) (1 : Int32) _ hF) (cwV 2 C.2.2.2.2.1 gX6_light_X6_right rfl rfl rfl zy_X6_right ⟨Nat.le_of_ble_eq_true rfl, Nat.le_of_ble_eq_true rfl⟩) rfl rfl rfl rfl rfl (Nat.le_of_ble_eq_true rfl) ⟨Nat.zero_le _, Nat.zero_le _⟩ dX6_light_34) [0, 1, 2, 3, 4, 5, 6, 7, 8, 9, 10, 11, 12, 13, 14, 15, 16, 17] [] rfl rfl rfl rfl rfl (fun _ => rfl) (fun _ => rfl) (fun _ => rfl) (fun v_7 uz hF => ?_)
      obtain ⟨T_6, hE⟩ : ∃ z, z = uz := ⟨_, rfl⟩; subst hE
      refine zv_if_ne (pc := 37) (tgt := 41) C dX6_light_37 (by decide) (fun c_8 => ?_) (fun c_8 => ?_)
      · replace hF := And.left hF c_8
        refine zv_aload_n (pc := 41) C rfl 0 rfl dX6_light_41 ?_
        refine zv_iload_n (pc := 42) C rfl 1 rfl dX6_light_42 ?_
        refine zv_put (pc := 43) (CC := RX6) (T := TX6) (N := 22) (ci := 5) (v := .int a1) (ty := .int) (ws' := (zd_X6_light cI adM qM1 qM2 qM3 qM4 qM5 qM6 qM7 qM8 qM12 qM13 qM15 qM16 qM17 qM18 qM19 qM20 qM21 (zset T_6 9 (fun _ => a1)))) C zi_X6_light_X6 tyX6 tyX6_ok nmX6 0 rfl 9 (by decide) zf_X6_light_159 rfl (by decide +kernel) rfl rfl rfl (Nat.le_of_ble_eq_true rfl) rfl dX6_light_43 ?_
        refine zv_aload_n (pc := 46) C rfl 0 rfl dX6_light_46 ?_
        refine zv_iload_n (pc := 47) C rfl 2 rfl dX6_light_47 ?_
        refine zv_put (pc := 48) (CC := RX6) (T := TX6) (N := 22) (ci := 5) (v := .int a2) (ty := .int) (ws' := (zd_X6_light cI adM qM1 qM2 qM3 qM4 qM5 qM6 qM7 qM8 qM12 qM13 qM15 qM16 qM17 qM18 qM19 qM20 qM21 (zset (zset T_6 9 (fun _ => a1)) 10 (fun _ => a2)))) C zi_X6_light_X6 tyX6 tyX6_ok nmX6 0 rfl 10 (by decide) zf_X6_light_34 rfl (by decide +kernel) rfl rfl rfl (Nat.le_of_ble_eq_true rfl) rfl dX6_light_48 ?_
        exact zv_vret (pc := 51) C hr hlk (zset (zset T_6 9 (fun _ => a1)) 10 (fun _ => a2)) hF rfl dX6_light_51
      · replace hF := And.right hF c_8
        exact zv_vret (pc := 40) C hr hlk T_6 hF rfl dX6_light_40
    · replace hF := And.right hF c_5
      refine zv_iload_n (pc := 17) C rfl 1 rfl dX6_light_17 ?_
      refine zv_iload_n (pc := 18) C rfl 2 rfl dX6_light_18 ?_
      refine zv_ineg (pc := 19) C  dX6_light_19 ?_
      refine zv_icmp_lt (pc := 20) (tgt := 32) C dX6_light_20 (by decide) (fun c_9 => ?_) (fun c_9 => ?_)
      · replace hF := And.left hF c_9
        refine zv_iconst (pc := 32) (v := 0) C (by decide) dX6_light_32 ?_
        refine zv_iconst (pc := 33) (v := 1) C (by decide) dX6_light_33 ?_
        refine zv_ci0 (pc := 34) (ws' := (fun uz : zMem => (zd_X6_light cI adM qM1 qM2 qM3 qM4 qM5 qM6 qM7 qM8 qM12 qM13 qM15 qM16 qM17 qM18 qM19 qM20 qM21 uz))) C (zv_runV (As := [.int (0 : Int32), .int (1 : Int32)]) (b := adM) (rest := []) (ci := 5) (q0 := 0) C (zc_X6_right l G cI adM qM1 qM2 qM3 qM4 qM5 qM6 qM7 qM8 qM12 qM13 qM15 qM16 qM17 qM18 qM19 qM20 qM21 (zset M 0 (fun _ => (0 : Int32))) (0 : Int32) (1 : Int32) _ hF) (cwV 2 C.2.2.2.2.1 gX6_light_X6_right rfl rfl rfl zy_X6_right ⟨Nat.le_of_ble_eq_true rfl, Nat.le_of_ble_eq_true rfl⟩) rfl rfl rfl rfl rfl (Nat.le_of_ble_eq_true rfl) ⟨Nat.zero_le _, Nat.zero_le _⟩ dX6_light_34) [0, 1, 2, 3, 4, 5, 6, 7, 8, 9, 10, 11, 12, 13, 14, 15, 16, 17] [] rfl rfl rfl rfl rfl (fun _ => rfl) (fun _ => rfl) (fun _ => rfl) (fun v_11 uz hF => ?_)
        obtain ⟨T_10, hE⟩ : ∃ z, z = uz := ⟨_, rfl⟩; subst hE
        refine zv_if_ne (pc := 37) (tgt := 41) C dX6_light_37 (by decide) (fun c_12 => ?_) (fun c_12 => ?_)
        · replace hF := And.left hF c_12
          refine zv_aload_n (pc := 41) C rfl 0 rfl dX6_light_41 ?_
          refine zv_iload_n (pc := 42) C rfl 1 rfl dX6_light_42 ?_
          refine zv_put (pc := 43) (CC := RX6) (T := TX6) (N := 22) (ci := 5) (v := .int a1) (ty := .int) (ws' := (zd_X6_light cI adM qM1 qM2 qM3 qM4 qM5 qM6 qM7 qM8 qM12 qM13 qM15 qM16 qM17 qM18 qM19 qM20 qM21 (zset T_10 9 (fun _ => a1)))) C zi_X6_light_X6 tyX6 tyX6_ok nmX6 0 rfl 9 (by decide) zf_X6_light_159 rfl (by decide +kernel) rfl rfl rfl (Nat.le_of_ble_eq_true rfl) rfl dX6_light_43 ?_
          refine zv_aload_n (pc := 46) C rfl 0 rfl dX6_light_46 ?_
          refine zv_iload_n (pc := 47) C rfl 2 rfl dX6_light_47 ?_
          refine zv_put (pc := 48) (CC := RX6) (T := TX6) (N := 22) (ci := 5) (v := .int a2) (ty := .int) (ws' := (zd_X6_light cI adM qM1 qM2 qM3 qM4 qM5 qM6 qM7 qM8 qM12 qM13 qM15 qM16 qM17 qM18 qM19 qM20 qM21 (zset (zset T_10 9 (fun _ => a1)) 10 (fun _ => a2)))) C zi_X6_light_X6 tyX6 tyX6_ok nmX6 0 rfl 10 (by decide) zf_X6_light_34 rfl (by decide +kernel) rfl rfl rfl (Nat.le_of_ble_eq_true rfl) rfl dX6_light_48 ?_
          exact zv_vret (pc := 51) C hr hlk (zset (zset T_10 9 (fun _ => a1)) 10 (fun _ => a2)) hF rfl dX6_light_51
        · replace hF := And.right hF c_12
          exact zv_vret (pc := 40) C hr hlk T_10 hF rfl dX6_light_40
      · replace hF := And.right hF c_9
        refine zv_iload_n (pc := 23) C rfl 1 rfl dX6_light_23 ?_
        refine zv_iload_n (pc := 24) C rfl 2 rfl dX6_light_24 ?_
        obtain ⟨KJ_15, h0KJ_15, hF⟩ := hF
        refine zv_join (α := Int32) (KK := fun uz => KJ_15 uz) (wsJ := fun uz => (zd_X6_light cI adM qM1 qM2 qM3 qM4 qM5 qM6 qM7 qM8 qM12 qM13 qM15 qM16 qM17 qM18 qM19 qM20 qM21 (zset M 0 (fun _ => (0 : Int32))))) (pcJ := 33) (lvJ := fun uz => [(0, .ref adM), (1, .int a1), (2, .int a2)]) (stJ := fun uz => [.int uz, .ref adM]) ?_ (fun hKJ_15 => ?_)
        · rintro v_14 hF
          replace hF := h0KJ_15 v_14 hF
          refine zv_iconst (pc := 33) (v := 1) C (by decide) dX6_light_33 ?_
          refine zv_ci0 (pc := 34) (ws' := (fun uz : zMem => (zd_X6_light cI adM qM1 qM2 qM3 qM4 qM5 qM6 qM7 qM8 qM12 qM13 qM15 qM16 qM17 qM18 qM19 qM20 qM21 uz))) C (zv_runV (As := [.int v_14, .int (1 : Int32)]) (b := adM) (rest := []) (ci := 5) (q0 := 0) C (zc_X6_right l G cI adM qM1 qM2 qM3 qM4 qM5 qM6 qM7 qM8 qM12 qM13 qM15 qM16 qM17 qM18 qM19 qM20 qM21 (zset M 0 (fun _ => (0 : Int32))) v_14 (1 : Int32) _ hF) (cwV 2 C.2.2.2.2.1 gX6_light_X6_right rfl rfl rfl zy_X6_right ⟨Nat.le_of_ble_eq_true rfl, Nat.le_of_ble_eq_true rfl⟩) rfl rfl rfl rfl rfl (Nat.le_of_ble_eq_true rfl) ⟨Nat.zero_le _, Nat.zero_le _⟩ dX6_light_34) [0, 1, 2, 3, 4, 5, 6, 7, 8, 9, 10, 11, 12, 13, 14, 15, 16, 17] [] rfl rfl rfl rfl rfl (fun _ => rfl) (fun _ => rfl) (fun _ => rfl) (fun v_17 uz hF => ?_)
          obtain ⟨T_16, hE⟩ : ∃ z, z = uz := ⟨_, rfl⟩; subst hE
          refine zv_if_ne (pc := 37) (tgt := 41) C dX6_light_37 (by decide) (fun c_18 => ?_) (fun c_18 => ?_)
          · replace hF := And.left hF c_18
            refine zv_aload_n (pc := 41) C rfl 0 rfl dX6_light_41 ?_
            refine zv_iload_n (pc := 42) C rfl 1 rfl dX6_light_42 ?_
            refine zv_put (pc := 43) (CC := RX6) (T := TX6) (N := 22) (ci := 5) (v := .int a1) (ty := .int) (ws' := (zd_X6_light cI adM qM1 qM2 qM3 qM4 qM5 qM6 qM7 qM8 qM12 qM13 qM15 qM16 qM17 qM18 qM19 qM20 qM21 (zset T_16 9 (fun _ => a1)))) C zi_X6_light_X6 tyX6 tyX6_ok nmX6 0 rfl 9 (by decide) zf_X6_light_159 rfl (by decide +kernel) rfl rfl rfl (Nat.le_of_ble_eq_true rfl) rfl dX6_light_43 ?_
            refine zv_aload_n (pc := 46) C rfl 0 rfl dX6_light_46 ?_
            refine zv_iload_n (pc := 47) C rfl 2 rfl dX6_light_47 ?_
            refine zv_put (pc := 48) (CC := RX6) (T := TX6) (N := 22) (ci := 5) (v := .int a2) (ty := .int) (ws' := (zd_X6_light cI adM qM1 qM2 qM3 qM4 qM5 qM6 qM7 qM8 qM12 qM13 qM15 qM16 qM17 qM18 qM19 qM20 qM21 (zset (zset T_16 9 (fun _ => a1)) 10 (fun _ => a2)))) C zi_X6_light_X6 tyX6 tyX6_ok nmX6 0 rfl 10 (by decide) zf_X6_light_34 rfl (by decide +kernel) rfl rfl rfl (Nat.le_of_ble_eq_true rfl) rfl dX6_light_48 ?_
            exact zv_vret (pc := 51) C hr hlk (zset (zset T_16 9 (fun _ => a1)) 10 (fun _ => a2)) hF rfl dX6_light_51
          · replace hF := And.right hF c_18
            exact zv_vret (pc := 40) C hr hlk T_16 hF rfl dX6_light_40
        · skip
          refine zv_icmp_gt (pc := 25) (tgt := 32) C dX6_light_25 (by decide) (fun c_13 => ?_) (fun c_13 => ?_)
          · replace hF := And.left hF c_13
            refine zv_iconst (pc := 32) (v := 0) C (by decide) dX6_light_32 ?_
            exact zv_lvs [0, 1, 2] rfl (hKJ_15 (0 : Int32) hF)
          · replace hF := And.right hF c_13
            refine zv_iconst (pc := 28) (v := 1) C (by decide) dX6_light_28 ?_
            refine zv_goto (pc := 29) (tgt := 33) C dX6_light_29 (by decide) ?_
            exact zv_lvs [0, 1, 2] rfl (hKJ_15 (1 : Int32) hF)
theorem zy_X6_isPart : yX6_isPart.cls ≠ "java/lang/invoke/MethodHandle" ∧ yX6_isPart.cls ≠ "java/lang/invoke/VarHandle" ∧ (parseMethodDescriptor yX6_isPart.desc).map (fun d => d.parameters.length) = some 1 := by decide +kernel
set_option maxHeartbeats 4000000 in
set_option maxRecDepth 100000 in
theorem zc_X6_isPart (l : Launch) (G : va_G) (cI : ClassId) (a1 : Int32) (post : Int32 → Prop) (hF : zw_X6_isPart a1 post) (sz : Nat) : Met l yX6_isPart wsX6_isPart rmX6_isPart (va_Pc [.int a1] (zv_in G cI (zd_X6_isPart cI ) sz)) (va_Qi (fun (rz : Int32) (uz : Unit) => post rz ) (fun (uz : Unit) t => zv_out G cI (va_A (zd_X6_isPart cI ) sz) (zd_X6_isPart cI ) t) (va_A (zd_X6_isPart cI ) sz)) 0 0 (va_A (zd_X6_isPart cI ) sz) := by
  refine zv_met (cc := cX6_isPart) (maxL := 1) (ret := (some .boolean)) (lv0 := [(0, .int a1)]) (Qc := fun A => va_Qi (fun (rz : Int32) (uz : Unit) => post rz ) (fun (uz : Unit) t => zv_out G cI A (zd_X6_isPart cI ) t) A) (by decide) rfl (Nat.le_of_ble_eq_true rfl) rfl ?_ sz
  intro p e s m below meth c A C hr hlk
  clear sz
  refine zv_iload_n (pc := 0) C rfl 0 rfl dX6_isPart_0 ?_
  refine zv_if_lt (pc := 1) (tgt := 14) C dX6_isPart_1 (by decide) (fun c_1 => ?_) (fun c_1 => ?_)
  · replace hF := And.left hF c_1
    refine zv_iconst (pc := 14) (v := 0) C (by decide) dX6_isPart_14 ?_
    obtain ⟨hn_2, hF⟩ := hF
    exact zv_zret (pc := 15) C hr hlk (0 : Int32) () hn_2 hF rfl dX6_isPart_15
  · replace hF := And.right hF c_1
    refine zv_iload_n (pc := 4) C rfl 0 rfl dX6_isPart_4 ?_
    refine zv_bipush (pc := 5) (v := 40) C (by decide) dX6_isPart_5 ?_
    refine zv_icmp_ge (pc := 7) (tgt := 14) C dX6_isPart_7 (by decide) (fun c_3 => ?_) (fun c_3 => ?_)
    · replace hF := And.left hF c_3
      refine zv_iconst (pc := 14) (v := 0) C (by decide) dX6_isPart_14 ?_
      obtain ⟨hn_4, hF⟩ := hF
      exact zv_zret (pc := 15) C hr hlk (0 : Int32) () hn_4 hF rfl dX6_isPart_15
    · replace hF := And.right hF c_3
      refine zv_iconst (pc := 10) (v := 1) C (by decide) dX6_isPart_10 ?_
      refine zv_goto (pc := 11) (tgt := 15) C dX6_isPart_11 (by decide) ?_
      obtain ⟨hn_5, hF⟩ := hF
      exact zv_zret (pc := 15) C hr hlk (1 : Int32) () hn_5 hF rfl dX6_isPart_15
theorem zy_X6_toldPart : yX6_toldPart.cls = RX6 ∧ yX6_toldPart.cls ≠ "java/lang/invoke/MethodHandle" ∧ yX6_toldPart.cls ≠ "java/lang/invoke/VarHandle" ∧ (parseMethodDescriptor yX6_toldPart.desc).map (fun d => d.parameters.length) = some 4 := by decide +kernel
set_option maxHeartbeats 4000000 in
set_option maxRecDepth 100000 in
theorem zc_X6_toldPart (l : Launch) (G : va_G) (cI : ClassId) (adM qM1 qM2 qM3 qM4 qM5 qM6 qM7 qM8 qM12 qM13 qM15 qM16 qM17 qM18 qM19 qM20 qM21 : Nat) (M : zMem) (a1 : Int32) (a2 : Int32) (a3 : Int32) (a4 : Int32) (post : Int32 → zMem → Prop) (hF : zw_X6_toldPart M a1 a2 a3 a4 post) (sz : Nat) : Met l yX6_toldPart wsX6_toldPart rmX6_toldPart (va_Pc [.ref adM, .int a1, .int a2, .int a3, .int a4] (zv_in G cI (zd_X6_toldPart cI adM qM1 qM2 qM3 qM4 qM5 qM6 qM7 qM8 qM12 qM13 qM15 qM16 qM17 qM18 qM19 qM20 qM21 M) sz)) (va_Qi (fun (rz : Int32) (uz : zMem) => post rz uz) (fun (uz : zMem) t => zv_out G cI (va_A (zd_X6_toldPart cI adM qM1 qM2 qM3 qM4 qM5 qM6 qM7 qM8 qM12 qM13 qM15 qM16 qM17 qM18 qM19 qM20 qM21 M) sz) (zd_X6_toldPart cI adM qM1 qM2 qM3 qM4 qM5 qM6 qM7 qM8 qM12 qM13 qM15 qM16 qM17 qM18 qM19 qM20 qM21 uz) t) (va_A (zd_X6_toldPart cI adM qM1 qM2 qM3 qM4 qM5 qM6 qM7 qM8 qM12 qM13 qM15 qM16 qM17 qM18 qM19 qM20 qM21 M) sz)) 0 0 (va_A (zd_X6_toldPart cI adM qM1 qM2 qM3 qM4 qM5 qM6 qM7 qM8 qM12 qM13 qM15 qM16 qM17 qM18 qM19 qM20 qM21 M) sz) := by
  refine zv_met (cc := cX6_toldPart) (maxL := 5) (ret := (some .int)) (lv0 := [(0, .ref adM), (1, .int a1), (2, .int a2), (3, .int a3), (4, .int a4)]) (Qc := fun A => va_Qi (fun (rz : Int32) (uz : zMem) => post rz uz) (fun (uz : zMem) t => zv_out G cI A (zd_X6_toldPart cI adM qM1 qM2 qM3 qM4 qM5 qM6 qM7 qM8 qM12 qM13 qM15 qM16 qM17 qM18 qM19 qM20 qM21 uz) t) A) (by decide) rfl (Nat.le_of_ble_eq_true rfl) rfl ?_ sz
  intro p e s m below meth c A C hr hlk
  clear sz
  refine zv_aload_n (pc := 0) C rfl 0 rfl dX6_toldPart_0 ?_
  refine zv_bipush (pc := 1) (v := 18) C (by decide) dX6_toldPart_1 ?_
  refine zv_iload_n (pc := 3) C rfl 1 rfl dX6_toldPart_3 ?_
  refine zv_cv0 (pc := 4) (ws' := (fun uz : zMem => (zd_X6_toldPart cI adM qM1 qM2 qM3 qM4 qM5 qM6 qM7 qM8 qM12 qM13 qM15 qM16 qM17 qM18 qM19 qM20 qM21 uz))) C (zv_runV (As := [.int (18 : Int32), .int a1]) (b := adM) (rest := []) (ci := 5) (q0 := 0) C (zc_X6_copy l G cI adM qM1 qM2 qM3 qM4 qM5 qM6 qM7 qM8 qM12 qM13 qM15 qM16 qM17 qM18 qM19 qM20 qM21 M (18 : Int32) a1 _ hF) (cwV 2 C.2.2.2.2.1 gX6_toldPart_X6_copy rfl rfl rfl zy_X6_copy ⟨Nat.le_of_ble_eq_true rfl, Nat.le_of_ble_eq_true rfl⟩) rfl rfl rfl rfl rfl (Nat.le_of_ble_eq_true rfl) ⟨Nat.zero_le _, Nat.zero_le _⟩ dX6_toldPart_4) [0, 1, 2, 3, 4, 5, 6, 7, 8, 9, 10, 11, 12, 13, 14, 15, 16, 17] [] rfl rfl rfl rfl rfl (fun _ => rfl) (fun _ => rfl) (fun _ => rfl) (fun uz hF => ?_)
  obtain ⟨T_1, hE⟩ : ∃ z, z = uz := ⟨_, rfl⟩; subst hE
  refine zv_aload_n (pc := 7) C rfl 0 rfl dX6_toldPart_7 ?_
  refine zv_bipush (pc := 8) (v := 19) C (by decide) dX6_toldPart_8 ?_
  refine zv_iload_n (pc := 10) C rfl 2 rfl dX6_toldPart_10 ?_
  refine zv_cv0 (pc := 11) (ws' := (fun uz : zMem => (zd_X6_toldPart cI adM qM1 qM2 qM3 qM4 qM5 qM6 qM7 qM8 qM12 qM13 qM15 qM16 qM17 qM18 qM19 qM20 qM21 uz))) C (zv_runV (As := [.int (19 : Int32), .int a2]) (b := adM) (rest := []) (ci := 5) (q0 := 0) C (zc_X6_copy l G cI adM qM1 qM2 qM3 qM4 qM5 qM6 qM7 qM8 qM12 qM13 qM15 qM16 qM17 qM18 qM19 qM20 qM21 T_1 (19 : Int32) a2 _ hF) (cwV 2 C.2.2.2.2.1 gX6_toldPart_X6_copy rfl rfl rfl zy_X6_copy ⟨Nat.le_of_ble_eq_true rfl, Nat.le_of_ble_eq_true rfl⟩) rfl rfl rfl rfl rfl (Nat.le_of_ble_eq_true rfl) ⟨Nat.zero_le _, Nat.zero_le _⟩ dX6_toldPart_11) [0, 1, 2, 3, 4, 5, 6, 7, 8, 9, 10, 11, 12, 13, 14, 15, 16, 17] [] rfl rfl rfl rfl rfl (fun _ => rfl) (fun _ => rfl) (fun _ => rfl) (fun uz hF => ?_)
  obtain ⟨T_2, hE⟩ : ∃ z, z = uz := ⟨_, rfl⟩; subst hE
  refine zv_aload_n (pc := 14) C rfl 0 rfl dX6_toldPart_14 ?_
  refine zv_bipush (pc := 15) (v := 18) C (by decide) dX6_toldPart_15 ?_
  refine zv_bipush (pc := 17) (v := 19) C (by decide) dX6_toldPart_17 ?_
  refine zv_cv0 (pc := 19) (ws' := (fun uz : zMem => (zd_X6_toldPart cI adM qM1 qM2 qM3 qM4 qM5 qM6 qM7 qM8 qM12 qM13 qM15 qM16 qM17 qM18 qM19 qM20 qM21 uz))) C (zv_runV (As := [.int (18 : Int32), .int (19 : Int32)]) (b := adM) (rest := []) (ci := 5) (q0 := 0) C (zc_X6_shorten l G cI adM qM1 qM2 qM3 qM4 qM5 qM6 qM7 qM8 qM12 qM13 qM15 qM16 qM17 qM18 qM19 qM20 qM21 T_2 (18 : Int32) (19 : Int32) _ hF) (cwV 2 C.2.2.2.2.1 gX6_toldPart_X6_shorten rfl rfl rfl zy_X6_shorten ⟨Nat.le_of_ble_eq_true rfl, Nat.le_of_ble_eq_true rfl⟩) rfl rfl rfl rfl rfl (Nat.le_of_ble_eq_true rfl) ⟨Nat.zero_le _, Nat.zero_le _⟩ dX6_toldPart_19) [0, 1, 2, 3, 4, 5, 6, 7, 8, 9, 10, 11, 12, 13, 14, 15, 16, 17] [] rfl rfl rfl rfl rfl (fun _ => rfl) (fun _ => rfl) (fun _ => rfl) (fun uz hF => ?_)
  obtain ⟨T_3, hE⟩ : ∃ z, z = uz := ⟨_, rfl⟩; subst hE
  refine zv_aload_n (pc := 22) C rfl 0 rfl dX6_toldPart_22 ?_
  refine zv_iload_n (pc := 23) C rfl 3 rfl dX6_toldPart_23 ?_
  refine zv_if_eq (pc := 24) (tgt := 32) C dX6_toldPart_24 (by decide) (fun c_4 => ?_) (fun c_4 => ?_)
  · replace hF := And.left hF c_4
    refine zv_bipush (pc := 32) (v := 18) C (by decide) dX6_toldPart_32 ?_
    refine zv_iload (pc := 34) C 4 rfl dX6_toldPart_34 ?_
    refine zv_ci0 (pc := 36) (ws' := (fun uz : Unit => (zd_X6_toldPart cI adM qM1 qM2 qM3 qM4 qM5 qM6 qM7 qM8 qM12 qM13 qM15 qM16 qM17 qM18 qM19 qM20 qM21 T_3))) C (zv_runV (As := [.int (18 : Int32), .int a4]) (b := adM) (rest := []) (ci := 5) (q0 := 0) C (zc_X6_part l G cI adM qM1 qM2 qM3 qM4 qM5 qM6 qM7 qM8 qM12 qM13 qM15 qM16 qM17 qM18 qM19 qM20 qM21 T_3 (18 : Int32) a4 _ hF) (cwV 2 C.2.2.2.2.1 gX6_toldPart_X6_part rfl rfl rfl zy_X6_part ⟨Nat.le_of_ble_eq_true rfl, Nat.le_of_ble_eq_true rfl⟩) rfl rfl rfl rfl rfl (Nat.le_of_ble_eq_true rfl) ⟨Nat.zero_le _, Nat.zero_le _⟩ dX6_toldPart_36) [0, 1, 2, 3, 4, 5, 6, 7, 8, 9, 10, 11, 12, 13, 14, 15, 16, 17] [] rfl rfl rfl rfl rfl (fun _ => rfl) (fun _ => rfl) (fun _ => rfl) (fun v_5 uz hF => ?_)
    exact zv_iret (pc := 39) C hr hlk v_5 T_3 hF rfl dX6_toldPart_39
  · replace hF := And.right hF c_4
    refine zv_bipush (pc := 27) (v := 19) C (by decide) dX6_toldPart_27 ?_
    refine zv_goto (pc := 29) (tgt := 34) C dX6_toldPart_29 (by decide) ?_
    refine zv_iload (pc := 34) C 4 rfl dX6_toldPart_34 ?_
    refine zv_ci0 (pc := 36) (ws' := (fun uz : Unit => (zd_X6_toldPart cI adM qM1 qM2 qM3 qM4 qM5 qM6 qM7 qM8 qM12 qM13 qM15 qM16 qM17 qM18 qM19 qM20 qM21 T_3))) C (zv_runV (As := [.int (19 : Int32), .int a4]) (b := adM) (rest := []) (ci := 5) (q0 := 0) C (zc_X6_part l G cI adM qM1 qM2 qM3 qM4 qM5 qM6 qM7 qM8 qM12 qM13 qM15 qM16 qM17 qM18 qM19 qM20 qM21 T_3 (19 : Int32) a4 _ hF) (cwV 2 C.2.2.2.2.1 gX6_toldPart_X6_part rfl rfl rfl zy_X6_part ⟨Nat.le_of_ble_eq_true rfl, Nat.le_of_ble_eq_true rfl⟩) rfl rfl rfl rfl rfl (Nat.le_of_ble_eq_true rfl) ⟨Nat.zero_le _, Nat.zero_le _⟩ dX6_toldPart_36) [0, 1, 2, 3, 4, 5, 6, 7, 8, 9, 10, 11, 12, 13, 14, 15, 16, 17] [] rfl rfl rfl rfl rfl (fun _ => rfl) (fun _ => rfl) (fun _ => rfl) (fun v_6 uz hF => ?_)
    exact zv_iret (pc := 39) C hr hlk v_6 T_3 hF rfl dX6_toldPart_39
theorem zf_X6_back_159 : Cond.fieldLink RX6 159 "GlassStackModel" "lightU" "I" ∈ wsX6_back := (List.mem_of_getElem? (i := 1) rfl)
theorem zf_X6_back_34 : Cond.fieldLink RX6 34 "GlassStackModel" "lightV" "I" ∈ wsX6_back := (List.mem_of_getElem? (i := 2) rfl)
theorem zi_X6_back_X6 : ∀ w ∈ wsX60, w ∈ wsX6_back := fun w h => List.mem_cons_of_mem _ (List.mem_append_right _ h)
theorem zy_X6_back : yX6_back.cls = RX6 ∧ yX6_back.cls ≠ "java/lang/invoke/MethodHandle" ∧ yX6_back.cls ≠ "java/lang/invoke/VarHandle" ∧ (parseMethodDescriptor yX6_back.desc).map (fun d => d.parameters.length) = some 3 := by decide +kernel
set_option maxHeartbeats 4000000 in
set_option maxRecDepth 100000 in
theorem zc_X6_back (l : Launch) (G : va_G) (cI : ClassId) (adM qM1 qM2 qM3 qM4 qM5 qM6 qM7 qM8 qM12 qM13 qM15 qM16 qM17 qM18 qM19 qM20 qM21 : Nat) (M : zMem) (a1 : Int32) (a2 : Int32) (a3 : Int32) (post : Int32 → zMem → Prop) (hF : zw_X6_back M a1 a2 a3 post) (sz : Nat) : Met l yX6_back wsX6_back rmX6_back (va_Pc [.ref adM, .int a1, .int a2, .int a3] (zv_in G cI (zd_X6_back cI adM qM1 qM2 qM3 qM4 qM5 qM6 qM7 qM8 qM12 qM13 qM15 qM16 qM17 qM18 qM19 qM20 qM21 M) sz)) (va_Qi (fun (rz : Int32) (uz : zMem) => post rz uz) (fun (uz : zMem) t => zv_out G cI (va_A (zd_X6_back cI adM qM1 qM2 qM3 qM4 qM5 qM6 qM7 qM8 qM12 qM13 qM15 qM16 qM17 qM18 qM19 qM20 qM21 M) sz) (zd_X6_back cI adM qM1 qM2 qM3 qM4 qM5 qM6 qM7 qM8 qM12 qM13 qM15 qM16 qM17 qM18 qM19 qM20 qM21 uz) t) (va_A (zd_X6_back cI adM qM1 qM2 qM3 qM4 qM5 qM6 qM7 qM8 qM12 qM13 qM15 qM16 qM17 qM18 qM19 qM20 qM21 M) sz)) 0 0 (va_A (zd_X6_back cI adM qM1 qM2 qM3 qM4 qM5 qM6 qM7 qM8 qM12 qM13 qM15 qM16 qM17 qM18 qM19 qM20 qM21 M) sz) := by
  refine zv_met (cc := cX6_back) (maxL := 4) (ret := (some .int)) (lv0 := [(0, .ref adM), (1, .int a1), (2, .int a2), (3, .int a3)]) (Qc := fun A => va_Qi (fun (rz : Int32) (uz : zMem) => post rz uz) (fun (uz : zMem) t => zv_out G cI A (zd_X6_back cI adM qM1 qM2 qM3 qM4 qM5 qM6 qM7 qM8 qM12 qM13 qM15 qM16 qM17 qM18 qM19 qM20 qM21 uz) t) A) (by decide) rfl (Nat.le_of_ble_eq_true rfl) rfl ?_ sz
  intro p e s m below meth c A C hr hlk
  clear sz
  refine zv_aload_n (pc := 0) C rfl 0 rfl dX6_back_0 ?_
  refine zv_iload_n (pc := 1) C rfl 1 rfl dX6_back_1 ?_
  refine zv_ci0 (pc := 2) (ws' := (fun uz : zMem => (zd_X6_back cI adM qM1 qM2 qM3 qM4 qM5 qM6 qM7 qM8 qM12 qM13 qM15 qM16 qM17 qM18 qM19 qM20 qM21 uz))) C (zv_runV (As := [.int a1]) (b := adM) (rest := []) (ci := 5) (q0 := 0) C (zc_X6_isStack l G cI adM qM1 qM2 qM3 qM4 qM5 qM6 qM7 qM8 qM12 qM13 qM15 qM16 qM17 qM18 qM19 qM20 qM21 M a1 _ hF) (cwV 1 C.2.2.2.2.1 gX6_back_X6_isStack rfl rfl rfl zy_X6_isStack ⟨Nat.le_of_ble_eq_true rfl, Nat.le_of_ble_eq_true rfl⟩) rfl rfl rfl rfl rfl (Nat.le_of_ble_eq_true rfl) ⟨Nat.zero_le _, Nat.zero_le _⟩ dX6_back_2) [0, 1, 2, 3, 4, 5, 6, 7, 8, 9, 10, 11, 12, 13, 14, 15, 16, 17] [] rfl rfl rfl rfl rfl (fun _ => rfl) (fun _ => rfl) (fun _ => rfl) (fun v_2 uz hF => ?_)
  obtain ⟨T_1, hE⟩ : ∃ z, z = uz := ⟨_, rfl⟩; subst hE
  refine zv_if_eq (pc := 5) (tgt := 20) C dX6_back_5 (by decide) (fun c_3 => ?_) (fun c_3 => ?_)
  · replace hF := And.left hF c_3
    refine zv_iconst (pc := 20) (v := 0) C (by decide) dX6_back_20 ?_
    exact zv_iret (pc := 21) C hr hlk (0 : Int32) T_1 hF rfl dX6_back_21
  · replace hF := And.right hF c_3
    refine zv_aload_n (pc := 8) C rfl 0 rfl dX6_back_8 ?_
    refine zv_iload_n (pc := 9) C rfl 3 rfl dX6_back_9 ?_
    refine zv_ci0 (pc := 10) (ws' := (fun uz : Unit => (zd_X6_back cI adM qM1 qM2 qM3 qM4 qM5 qM6 qM7 qM8 qM12 qM13 qM15 qM16 qM17 qM18 qM19 qM20 qM21 T_1))) C (zv_runS (As := [.int a3]) (rest := [.ref adM]) C (zc_X6_isPart l G cI a3 _ hF) (va_cwS 1 C.2.2.2.2.1 gX6_back_X6_isPart rfl rfl rfl zy_X6_isPart ⟨Nat.le_of_ble_eq_true rfl, Nat.le_of_ble_eq_true rfl⟩) rfl rfl (Nat.le_of_ble_eq_true rfl) ⟨Nat.zero_le _, Nat.zero_le _⟩ dX6_back_10) [] [0, 1, 2, 3, 4, 5, 6, 7, 8, 9, 10, 11, 12, 13, 14, 15, 16, 17] rfl rfl rfl rfl rfl (fun _ => rfl) (fun _ => rfl) (fun _ => rfl) (fun v_4 uz hF => ?_)
    refine zv_iconst (pc := 13) (v := 2) C (by decide) dX6_back_13 ?_
    refine zv_ci0 (pc := 14) (ws' := (fun uz : zMem => (zd_X6_back cI adM qM1 qM2 qM3 qM4 qM5 qM6 qM7 qM8 qM12 qM13 qM15 qM16 qM17 qM18 qM19 qM20 qM21 uz))) C (zv_runV (As := [.int v_4, .int (2 : Int32)]) (b := adM) (rest := []) (ci := 5) (q0 := 0) C (zc_X6_right l G cI adM qM1 qM2 qM3 qM4 qM5 qM6 qM7 qM8 qM12 qM13 qM15 qM16 qM17 qM18 qM19 qM20 qM21 T_1 v_4 (2 : Int32) _ hF) (cwV 2 C.2.2.2.2.1 gX6_back_X6_right rfl rfl rfl zy_X6_right ⟨Nat.le_of_ble_eq_true rfl, Nat.le_of_ble_eq_true rfl⟩) rfl rfl rfl rfl rfl (Nat.le_of_ble_eq_true rfl) ⟨Nat.zero_le _, Nat.zero_le _⟩ dX6_back_14) [0, 1, 2, 3, 4, 5, 6, 7, 8, 9, 10, 11, 12, 13, 14, 15, 16, 17] [] rfl rfl rfl rfl rfl (fun _ => rfl) (fun _ => rfl) (fun _ => rfl) (fun v_6 uz hF => ?_)
    obtain ⟨T_5, hE⟩ : ∃ z, z = uz := ⟨_, rfl⟩; subst hE
    refine zv_if_ne (pc := 17) (tgt := 22) C dX6_back_17 (by decide) (fun c_7 => ?_) (fun c_7 => ?_)
    · replace hF := And.left hF c_7
      refine zv_aload_n (pc := 22) C rfl 0 rfl dX6_back_22 ?_
      refine zv_iload_n (pc := 23) C rfl 1 rfl dX6_back_23 ?_
      refine zv_aload_n (pc := 24) C rfl 0 rfl dX6_back_24 ?_
      refine zv_get (pc := 25) (CC := RX6) (T := TX6) (N := 22) (ci := 5) (v := .int (T_5 9 0)) C zi_X6_back_X6 0 rfl 9 (by decide) zf_X6_back_159 rfl rfl dX6_back_25 ?_
      refine zv_aload_n (pc := 28) C rfl 0 rfl dX6_back_28 ?_
      refine zv_get (pc := 29) (CC := RX6) (T := TX6) (N := 22) (ci := 5) (v := .int (T_5 10 0)) C zi_X6_back_X6 0 rfl 10 (by decide) zf_X6_back_34 rfl rfl dX6_back_29 ?_
      refine zv_cv0 (pc := 32) (ws' := (fun uz : zMem => (zd_X6_back cI adM qM1 qM2 qM3 qM4 qM5 qM6 qM7 qM8 qM12 qM13 qM15 qM16 qM17 qM18 qM19 qM20 qM21 uz))) C (zv_runV (As := [.int a1, .int (T_5 9 0), .int (T_5 10 0)]) (b := adM) (rest := []) (ci := 5) (q0 := 0) C (zc_X6_backOf l G cI adM qM1 qM2 qM3 qM4 qM5 qM6 qM7 qM8 qM12 qM13 qM15 qM16 qM17 qM18 qM19 qM20 qM21 T_5 a1 (T_5 9 0) (T_5 10 0) _ hF) (cwV 3 C.2.2.2.2.1 gX6_back_X6_backOf rfl rfl rfl zy_X6_backOf ⟨Nat.le_of_ble_eq_true rfl, Nat.le_of_ble_eq_true rfl⟩) rfl rfl rfl rfl rfl (Nat.le_of_ble_eq_true rfl) ⟨Nat.zero_le _, Nat.zero_le _⟩ dX6_back_32) [0, 1, 2, 3, 4, 5, 6, 7, 8, 9, 10, 11, 12, 13, 14, 15, 16, 17] [] rfl rfl rfl rfl rfl (fun _ => rfl) (fun _ => rfl) (fun _ => rfl) (fun uz hF => ?_)
      obtain ⟨T_8, hE⟩ : ∃ z, z = uz := ⟨_, rfl⟩; subst hE
      refine zv_aload_n (pc := 35) C rfl 0 rfl dX6_back_35 ?_
      refine zv_bipush (pc := 36) (v := 14) C (by decide) dX6_back_36 ?_
      refine zv_bipush (pc := 38) (v := 15) C (by decide) dX6_back_38 ?_
      refine zv_iload_n (pc := 40) C rfl 2 rfl dX6_back_40 ?_
      refine zv_iload_n (pc := 41) C rfl 3 rfl dX6_back_41 ?_
      refine zv_ci0 (pc := 42) (ws' := (fun uz : zMem => (zd_X6_back cI adM qM1 qM2 qM3 qM4 qM5 qM6 qM7 qM8 qM12 qM13 qM15 qM16 qM17 qM18 qM19 qM20 qM21 uz))) C (zv_runV (As := [.int (14 : Int32), .int (15 : Int32), .int a2, .int a3]) (b := adM) (rest := []) (ci := 5) (q0 := 0) C (zc_X6_toldPart l G cI adM qM1 qM2 qM3 qM4 qM5 qM6 qM7 qM8 qM12 qM13 qM15 qM16 qM17 qM18 qM19 qM20 qM21 T_8 (14 : Int32) (15 : Int32) a2 a3 _ hF) (cwV 4 C.2.2.2.2.1 gX6_back_X6_toldPart rfl rfl rfl zy_X6_toldPart ⟨Nat.le_of_ble_eq_true rfl, Nat.le_of_ble_eq_true rfl⟩) rfl rfl rfl rfl rfl (Nat.le_of_ble_eq_true rfl) ⟨Nat.zero_le _, Nat.zero_le _⟩ dX6_back_42) [0, 1, 2, 3, 4, 5, 6, 7, 8, 9, 10, 11, 12, 13, 14, 15, 16, 17] [] rfl rfl rfl rfl rfl (fun _ => rfl) (fun _ => rfl) (fun _ => rfl) (fun v_10 uz hF => ?_)
      obtain ⟨T_9, hE⟩ : ∃ z, z = uz := ⟨_, rfl⟩; subst hE
      exact zv_iret (pc := 45) C hr hlk v_10 T_9 hF rfl dX6_back_45
    · replace hF := And.right hF c_7
      refine zv_iconst (pc := 20) (v := 0) C (by decide) dX6_back_20 ?_
      exact zv_iret (pc := 21) C hr hlk (0 : Int32) T_5 hF rfl dX6_back_21
theorem zf_X6_on_159 : Cond.fieldLink RX6 159 "GlassStackModel" "lightU" "I" ∈ wsX6_on := (List.mem_of_getElem? (i := 1) rfl)
theorem zf_X6_on_34 : Cond.fieldLink RX6 34 "GlassStackModel" "lightV" "I" ∈ wsX6_on := (List.mem_of_getElem? (i := 2) rfl)
theorem zi_X6_on_X6 : ∀ w ∈ wsX60, w ∈ wsX6_on := fun w h => List.mem_cons_of_mem _ (List.mem_append_right _ h)
theorem zy_X6_on : yX6_on.cls = RX6 ∧ yX6_on.cls ≠ "java/lang/invoke/MethodHandle" ∧ yX6_on.cls ≠ "java/lang/invoke/VarHandle" ∧ (parseMethodDescriptor yX6_on.desc).map (fun d => d.parameters.length) = some 3 := by decide +kernel
set_option maxHeartbeats 4000000 in
set_option maxRecDepth 100000 in
theorem zc_X6_on (l : Launch) (G : va_G) (cI : ClassId) (adM qM1 qM2 qM3 qM4 qM5 qM6 qM7 qM8 qM12 qM13 qM15 qM16 qM17 qM18 qM19 qM20 qM21 : Nat) (M : zMem) (a1 : Int32) (a2 : Int32) (a3 : Int32) (post : Int32 → zMem → Prop) (hF : zw_X6_on M a1 a2 a3 post) (sz : Nat) : Met l yX6_on wsX6_on rmX6_on (va_Pc [.ref adM, .int a1, .int a2, .int a3] (zv_in G cI (zd_X6_on cI adM qM1 qM2 qM3 qM4 qM5 qM6 qM7 qM8 qM12 qM13 qM15 qM16 qM17 qM18 qM19 qM20 qM21 M) sz)) (va_Qi (fun (rz : Int32) (uz : zMem) => post rz uz) (fun (uz : zMem) t => zv_out G cI (va_A (zd_X6_on cI adM qM1 qM2 qM3 qM4 qM5 qM6 qM7 qM8 qM12 qM13 qM15 qM16 qM17 qM18 qM19 qM20 qM21 M) sz) (zd_X6_on cI adM qM1 qM2 qM3 qM4 qM5 qM6 qM7 qM8 qM12 qM13 qM15 qM16 qM17 qM18 qM19 qM20 qM21 uz) t) (va_A (zd_X6_on cI adM qM1 qM2 qM3 qM4 qM5 qM6 qM7 qM8 qM12 qM13 qM15 qM16 qM17 qM18 qM19 qM20 qM21 M) sz)) 0 0 (va_A (zd_X6_on cI adM qM1 qM2 qM3 qM4 qM5 qM6 qM7 qM8 qM12 qM13 qM15 qM16 qM17 qM18 qM19 qM20 qM21 M) sz) := by
  refine zv_met (cc := cX6_on) (maxL := 4) (ret := (some .int)) (lv0 := [(0, .ref adM), (1, .int a1), (2, .int a2), (3, .int a3)]) (Qc := fun A => va_Qi (fun (rz : Int32) (uz : zMem) => post rz uz) (fun (uz : zMem) t => zv_out G cI A (zd_X6_on cI adM qM1 qM2 qM3 qM4 qM5 qM6 qM7 qM8 qM12 qM13 qM15 qM16 qM17 qM18 qM19 qM20 qM21 uz) t) A) (by decide) rfl (Nat.le_of_ble_eq_true rfl) rfl ?_ sz
  intro p e s m below meth c A C hr hlk
  clear sz
  refine zv_aload_n (pc := 0) C rfl 0 rfl dX6_on_0 ?_
  refine zv_iload_n (pc := 1) C rfl 1 rfl dX6_on_1 ?_
  refine zv_ci0 (pc := 2) (ws' := (fun uz : zMem => (zd_X6_on cI adM qM1 qM2 qM3 qM4 qM5 qM6 qM7 qM8 qM12 qM13 qM15 qM16 qM17 qM18 qM19 qM20 qM21 uz))) C (zv_runV (As := [.int a1]) (b := adM) (rest := []) (ci := 5) (q0 := 0) C (zc_X6_isStack l G cI adM qM1 qM2 qM3 qM4 qM5 qM6 qM7 qM8 qM12 qM13 qM15 qM16 qM17 qM18 qM19 qM20 qM21 M a1 _ hF) (cwV 1 C.2.2.2.2.1 gX6_on_X6_isStack rfl rfl rfl zy_X6_isStack ⟨Nat.le_of_ble_eq_true rfl, Nat.le_of_ble_eq_true rfl⟩) rfl rfl rfl rfl rfl (Nat.le_of_ble_eq_true rfl) ⟨Nat.zero_le _, Nat.zero_le _⟩ dX6_on_2) [0, 1, 2, 3, 4, 5, 6, 7, 8, 9, 10, 11, 12, 13, 14, 15, 16, 17] [] rfl rfl rfl rfl rfl (fun _ => rfl) (fun _ => rfl) (fun _ => rfl) (fun v_2 uz hF => ?_)
  obtain ⟨T_1, hE⟩ : ∃ z, z = uz := ⟨_, rfl⟩; subst hE
  refine zv_if_eq (pc := 5) (tgt := 20) C dX6_on_5 (by decide) (fun c_3 => ?_) (fun c_3 => ?_)
  · replace hF := And.left hF c_3
    refine zv_iconst (pc := 20) (v := 0) C (by decide) dX6_on_20 ?_
    exact zv_iret (pc := 21) C hr hlk (0 : Int32) T_1 hF rfl dX6_on_21
  · replace hF := And.right hF c_3
    refine zv_aload_n (pc := 8) C rfl 0 rfl dX6_on_8 ?_
    refine zv_iload_n (pc := 9) C rfl 3 rfl dX6_on_9 ?_
    refine zv_ci0 (pc := 10) (ws' := (fun uz : Unit => (zd_X6_on cI adM qM1 qM2 qM3 qM4 qM5 qM6 qM7 qM8 qM12 qM13 qM15 qM16 qM17 qM18 qM19 qM20 qM21 T_1))) C (zv_runS (As := [.int a3]) (rest := [.ref adM]) C (zc_X6_isPart l G cI a3 _ hF) (va_cwS 1 C.2.2.2.2.1 gX6_on_X6_isPart rfl rfl rfl zy_X6_isPart ⟨Nat.le_of_ble_eq_true rfl, Nat.le_of_ble_eq_true rfl⟩) rfl rfl (Nat.le_of_ble_eq_true rfl) ⟨Nat.zero_le _, Nat.zero_le _⟩ dX6_on_10) [] [0, 1, 2, 3, 4, 5, 6, 7, 8, 9, 10, 11, 12, 13, 14, 15, 16, 17] rfl rfl rfl rfl rfl (fun _ => rfl) (fun _ => rfl) (fun _ => rfl) (fun v_4 uz hF => ?_)
    refine zv_iconst (pc := 13) (v := 2) C (by decide) dX6_on_13 ?_
    refine zv_ci0 (pc := 14) (ws' := (fun uz : zMem => (zd_X6_on cI adM qM1 qM2 qM3 qM4 qM5 qM6 qM7 qM8 qM12 qM13 qM15 qM16 qM17 qM18 qM19 qM20 qM21 uz))) C (zv_runV (As := [.int v_4, .int (2 : Int32)]) (b := adM) (rest := []) (ci := 5) (q0 := 0) C (zc_X6_right l G cI adM qM1 qM2 qM3 qM4 qM5 qM6 qM7 qM8 qM12 qM13 qM15 qM16 qM17 qM18 qM19 qM20 qM21 T_1 v_4 (2 : Int32) _ hF) (cwV 2 C.2.2.2.2.1 gX6_on_X6_right rfl rfl rfl zy_X6_right ⟨Nat.le_of_ble_eq_true rfl, Nat.le_of_ble_eq_true rfl⟩) rfl rfl rfl rfl rfl (Nat.le_of_ble_eq_true rfl) ⟨Nat.zero_le _, Nat.zero_le _⟩ dX6_on_14) [0, 1, 2, 3, 4, 5, 6, 7, 8, 9, 10, 11, 12, 13, 14, 15, 16, 17] [] rfl rfl rfl rfl rfl (fun _ => rfl) (fun _ => rfl) (fun _ => rfl) (fun v_6 uz hF => ?_)
    obtain ⟨T_5, hE⟩ : ∃ z, z = uz := ⟨_, rfl⟩; subst hE
    refine zv_if_ne (pc := 17) (tgt := 22) C dX6_on_17 (by decide) (fun c_7 => ?_) (fun c_7 => ?_)
    · replace hF := And.left hF c_7
      refine zv_aload_n (pc := 22) C rfl 0 rfl dX6_on_22 ?_
      refine zv_iload_n (pc := 23) C rfl 1 rfl dX6_on_23 ?_
      refine zv_aload_n (pc := 24) C rfl 0 rfl dX6_on_24 ?_
      refine zv_get (pc := 25) (CC := RX6) (T := TX6) (N := 22) (ci := 5) (v := .int (T_5 9 0)) C zi_X6_on_X6 0 rfl 9 (by decide) zf_X6_on_159 rfl rfl dX6_on_25 ?_
      refine zv_aload_n (pc := 28) C rfl 0 rfl dX6_on_28 ?_
      refine zv_get (pc := 29) (CC := RX6) (T := TX6) (N := 22) (ci := 5) (v := .int (T_5 10 0)) C zi_X6_on_X6 0 rfl 10 (by decide) zf_X6_on_34 rfl rfl dX6_on_29 ?_
      refine zv_cv0 (pc := 32) (ws' := (fun uz : zMem => (zd_X6_on cI adM qM1 qM2 qM3 qM4 qM5 qM6 qM7 qM8 qM12 qM13 qM15 qM16 qM17 qM18 qM19 qM20 qM21 uz))) C (zv_runV (As := [.int a1, .int (T_5 9 0), .int (T_5 10 0)]) (b := adM) (rest := []) (ci := 5) (q0 := 0) C (zc_X6_backOf l G cI adM qM1 qM2 qM3 qM4 qM5 qM6 qM7 qM8 qM12 qM13 qM15 qM16 qM17 qM18 qM19 qM20 qM21 T_5 a1 (T_5 9 0) (T_5 10 0) _ hF) (cwV 3 C.2.2.2.2.1 gX6_on_X6_backOf rfl rfl rfl zy_X6_backOf ⟨Nat.le_of_ble_eq_true rfl, Nat.le_of_ble_eq_true rfl⟩) rfl rfl rfl rfl rfl (Nat.le_of_ble_eq_true rfl) ⟨Nat.zero_le _, Nat.zero_le _⟩ dX6_on_32) [0, 1, 2, 3, 4, 5, 6, 7, 8, 9, 10, 11, 12, 13, 14, 15, 16, 17] [] rfl rfl rfl rfl rfl (fun _ => rfl) (fun _ => rfl) (fun _ => rfl) (fun uz hF => ?_)
      obtain ⟨T_8, hE⟩ : ∃ z, z = uz := ⟨_, rfl⟩; subst hE
      refine zv_aload_n (pc := 35) C rfl 0 rfl dX6_on_35 ?_
      refine zv_bipush (pc := 36) (v := 14) C (by decide) dX6_on_36 ?_
      refine zv_bipush (pc := 38) (v := 15) C (by decide) dX6_on_38 ?_
      refine zv_bipush (pc := 40) (v := 14) C (by decide) dX6_on_40 ?_
      refine zv_cv0 (pc := 42) (ws' := (fun uz : zMem => (zd_X6_on cI adM qM1 qM2 qM3 qM4 qM5 qM6 qM7 qM8 qM12 qM13 qM15 qM16 qM17 qM18 qM19 qM20 qM21 uz))) C (zv_runV (As := [.int (14 : Int32), .int (15 : Int32), .int (14 : Int32)]) (b := adM) (rest := []) (ci := 5) (q0 := 0) C (zc_X6_minus l G cI adM qM1 qM2 qM3 qM4 qM5 qM6 qM7 qM8 qM12 qM13 qM15 qM16 qM17 qM18 qM19 qM20 qM21 T_8 (14 : Int32) (15 : Int32) (14 : Int32) _ hF) (cwV 3 C.2.2.2.2.1 gX6_on_X6_minus rfl rfl rfl zy_X6_minus ⟨Nat.le_of_ble_eq_true rfl, Nat.le_of_ble_eq_true rfl⟩) rfl rfl rfl rfl rfl (Nat.le_of_ble_eq_true rfl) ⟨Nat.zero_le _, Nat.zero_le _⟩ dX6_on_42) [0, 1, 2, 3, 4, 5, 6, 7, 8, 9, 10, 11, 12, 13, 14, 15, 16, 17] [] rfl rfl rfl rfl rfl (fun _ => rfl) (fun _ => rfl) (fun _ => rfl) (fun uz hF => ?_)
      obtain ⟨T_9, hE⟩ : ∃ z, z = uz := ⟨_, rfl⟩; subst hE
      refine zv_aload_n (pc := 45) C rfl 0 rfl dX6_on_45 ?_
      refine zv_bipush (pc := 46) (v := 14) C (by decide) dX6_on_46 ?_
      refine zv_bipush (pc := 48) (v := 15) C (by decide) dX6_on_48 ?_
      refine zv_iload_n (pc := 50) C rfl 2 rfl dX6_on_50 ?_
      refine zv_iload_n (pc := 51) C rfl 3 rfl dX6_on_51 ?_
      refine zv_ci0 (pc := 52) (ws' := (fun uz : zMem => (zd_X6_on cI adM qM1 qM2 qM3 qM4 qM5 qM6 qM7 qM8 qM12 qM13 qM15 qM16 qM17 qM18 qM19 qM20 qM21 uz))) C (zv_runV (As := [.int (14 : Int32), .int (15 : Int32), .int a2, .int a3]) (b := adM) (rest := []) (ci := 5) (q0 := 0) C (zc_X6_toldPart l G cI adM qM1 qM2 qM3 qM4 qM5 qM6 qM7 qM8 qM12 qM13 qM15 qM16 qM17 qM18 qM19 qM20 qM21 T_9 (14 : Int32) (15 : Int32) a2 a3 _ hF) (cwV 4 C.2.2.2.2.1 gX6_on_X6_toldPart rfl rfl rfl zy_X6_toldPart ⟨Nat.le_of_ble_eq_true rfl, Nat.le_of_ble_eq_true rfl⟩) rfl rfl rfl rfl rfl (Nat.le_of_ble_eq_true rfl) ⟨Nat.zero_le _, Nat.zero_le _⟩ dX6_on_52) [0, 1, 2, 3, 4, 5, 6, 7, 8, 9, 10, 11, 12, 13, 14, 15, 16, 17] [] rfl rfl rfl rfl rfl (fun _ => rfl) (fun _ => rfl) (fun _ => rfl) (fun v_11 uz hF => ?_)
      obtain ⟨T_10, hE⟩ : ∃ z, z = uz := ⟨_, rfl⟩; subst hE
      exact zv_iret (pc := 55) C hr hlk v_11 T_10 hF rfl dX6_on_55
    · replace hF := And.right hF c_7
      refine zv_iconst (pc := 20) (v := 0) C (by decide) dX6_on_20 ?_
      exact zv_iret (pc := 21) C hr hlk (0 : Int32) T_5 hF rfl dX6_on_21
theorem zf_X6_entry_159 : Cond.fieldLink RX6 159 "GlassStackModel" "lightU" "I" ∈ wsX6_entry := (List.mem_of_getElem? (i := 1) rfl)
theorem zf_X6_entry_34 : Cond.fieldLink RX6 34 "GlassStackModel" "lightV" "I" ∈ wsX6_entry := (List.mem_of_getElem? (i := 2) rfl)
theorem zi_X6_entry_X6 : ∀ w ∈ wsX60, w ∈ wsX6_entry := fun w h => List.mem_cons_of_mem _ (List.mem_append_right _ h)
theorem zy_X6_entry : yX6_entry.cls = RX6 ∧ yX6_entry.cls ≠ "java/lang/invoke/MethodHandle" ∧ yX6_entry.cls ≠ "java/lang/invoke/VarHandle" ∧ (parseMethodDescriptor yX6_entry.desc).map (fun d => d.parameters.length) = some 4 := by decide +kernel
set_option maxHeartbeats 4000000 in
set_option maxRecDepth 100000 in
theorem zc_X6_entry (l : Launch) (G : va_G) (cI : ClassId) (adM qM1 qM2 qM3 qM4 qM5 qM6 qM7 qM8 qM12 qM13 qM15 qM16 qM17 qM18 qM19 qM20 qM21 : Nat) (M : zMem) (a1 : Int32) (a2 : Int32) (a3 : Int32) (a4 : Int32) (post : Int32 → zMem → Prop) (hF : zw_X6_entry M a1 a2 a3 a4 post) (sz : Nat) : Met l yX6_entry wsX6_entry rmX6_entry (va_Pc [.ref adM, .int a1, .int a2, .int a3, .int a4] (zv_in G cI (zd_X6_entry cI adM qM1 qM2 qM3 qM4 qM5 qM6 qM7 qM8 qM12 qM13 qM15 qM16 qM17 qM18 qM19 qM20 qM21 M) sz)) (va_Qi (fun (rz : Int32) (uz : zMem) => post rz uz) (fun (uz : zMem) t => zv_out G cI (va_A (zd_X6_entry cI adM qM1 qM2 qM3 qM4 qM5 qM6 qM7 qM8 qM12 qM13 qM15 qM16 qM17 qM18 qM19 qM20 qM21 M) sz) (zd_X6_entry cI adM qM1 qM2 qM3 qM4 qM5 qM6 qM7 qM8 qM12 qM13 qM15 qM16 qM17 qM18 qM19 qM20 qM21 uz) t) (va_A (zd_X6_entry cI adM qM1 qM2 qM3 qM4 qM5 qM6 qM7 qM8 qM12 qM13 qM15 qM16 qM17 qM18 qM19 qM20 qM21 M) sz)) 0 0 (va_A (zd_X6_entry cI adM qM1 qM2 qM3 qM4 qM5 qM6 qM7 qM8 qM12 qM13 qM15 qM16 qM17 qM18 qM19 qM20 qM21 M) sz) := by
  refine zv_met (cc := cX6_entry) (maxL := 5) (ret := (some .int)) (lv0 := [(0, .ref adM), (1, .int a1), (2, .int a2), (3, .int a3), (4, .int a4)]) (Qc := fun A => va_Qi (fun (rz : Int32) (uz : zMem) => post rz uz) (fun (uz : zMem) t => zv_out G cI A (zd_X6_entry cI adM qM1 qM2 qM3 qM4 qM5 qM6 qM7 qM8 qM12 qM13 qM15 qM16 qM17 qM18 qM19 qM20 qM21 uz) t) A) (by decide) rfl (Nat.le_of_ble_eq_true rfl) rfl ?_ sz
  intro p e s m below meth c A C hr hlk
  clear sz
  refine zv_aload_n (pc := 0) C rfl 0 rfl dX6_entry_0 ?_
  refine zv_iload_n (pc := 1) C rfl 1 rfl dX6_entry_1 ?_
  refine zv_ci0 (pc := 2) (ws' := (fun uz : zMem => (zd_X6_entry cI adM qM1 qM2 qM3 qM4 qM5 qM6 qM7 qM8 qM12 qM13 qM15 qM16 qM17 qM18 qM19 qM20 qM21 uz))) C (zv_runV (As := [.int a1]) (b := adM) (rest := []) (ci := 5) (q0 := 0) C (zc_X6_isStack l G cI adM qM1 qM2 qM3 qM4 qM5 qM6 qM7 qM8 qM12 qM13 qM15 qM16 qM17 qM18 qM19 qM20 qM21 M a1 _ hF) (cwV 1 C.2.2.2.2.1 gX6_entry_X6_isStack rfl rfl rfl zy_X6_isStack ⟨Nat.le_of_ble_eq_true rfl, Nat.le_of_ble_eq_true rfl⟩) rfl rfl rfl rfl rfl (Nat.le_of_ble_eq_true rfl) ⟨Nat.zero_le _, Nat.zero_le _⟩ dX6_entry_2) [0, 1, 2, 3, 4, 5, 6, 7, 8, 9, 10, 11, 12, 13, 14, 15, 16, 17] [] rfl rfl rfl rfl rfl (fun _ => rfl) (fun _ => rfl) (fun _ => rfl) (fun v_2 uz hF => ?_)
  obtain ⟨T_1, hE⟩ : ∃ z, z = uz := ⟨_, rfl⟩; subst hE
  refine zv_if_eq (pc := 5) (tgt := 38) C dX6_entry_5 (by decide) (fun c_3 => ?_) (fun c_3 => ?_)
  · replace hF := And.left hF c_3
    refine zv_iconst (pc := 38) (v := 0) C (by decide) dX6_entry_38 ?_
    exact zv_iret (pc := 39) C hr hlk (0 : Int32) T_1 hF rfl dX6_entry_39
  · replace hF := And.right hF c_3
    refine zv_aload_n (pc := 8) C rfl 0 rfl dX6_entry_8 ?_
    refine zv_iload_n (pc := 9) C rfl 2 rfl dX6_entry_9 ?_
    refine zv_if_lt (pc := 10) (tgt := 30) C dX6_entry_10 (by decide) (fun c_4 => ?_) (fun c_4 => ?_)
    · replace hF := And.left hF c_4
      refine zv_iconst (pc := 30) (v := 0) C (by decide) dX6_entry_30 ?_
      refine zv_iconst (pc := 31) (v := 2) C (by decide) dX6_entry_31 ?_
      refine zv_ci0 (pc := 32) (ws' := (fun uz : zMem => (zd_X6_entry cI adM qM1 qM2 qM3 qM4 qM5 qM6 qM7 qM8 qM12 qM13 qM15 qM16 qM17 qM18 qM19 qM20 qM21 uz))) C (zv_runV (As := [.int (0 : Int32), .int (2 : Int32)]) (b := adM) (rest := []) (ci := 5) (q0 := 0) C (zc_X6_right l G cI adM qM1 qM2 qM3 qM4 qM5 qM6 qM7 qM8 qM12 qM13 qM15 qM16 qM17 qM18 qM19 qM20 qM21 T_1 (0 : Int32) (2 : Int32) _ hF) (cwV 2 C.2.2.2.2.1 gX6_entry_X6_right rfl rfl rfl zy_X6_right ⟨Nat.le_of_ble_eq_true rfl, Nat.le_of_ble_eq_true rfl⟩) rfl rfl rfl rfl rfl (Nat.le_of_ble_eq_true rfl) ⟨Nat.zero_le _, Nat.zero_le _⟩ dX6_entry_32) [0, 1, 2, 3, 4, 5, 6, 7, 8, 9, 10, 11, 12, 13, 14, 15, 16, 17] [] rfl rfl rfl rfl rfl (fun _ => rfl) (fun _ => rfl) (fun _ => rfl) (fun v_6 uz hF => ?_)
      obtain ⟨T_5, hE⟩ : ∃ z, z = uz := ⟨_, rfl⟩; subst hE
      refine zv_if_ne (pc := 35) (tgt := 40) C dX6_entry_35 (by decide) (fun c_7 => ?_) (fun c_7 => ?_)
      · replace hF := And.left hF c_7
        refine zv_aload_n (pc := 40) C rfl 0 rfl dX6_entry_40 ?_
        refine zv_iload_n (pc := 41) C rfl 1 rfl dX6_entry_41 ?_
        refine zv_aload_n (pc := 42) C rfl 0 rfl dX6_entry_42 ?_
        refine zv_get (pc := 43) (CC := RX6) (T := TX6) (N := 22) (ci := 5) (v := .int (T_5 9 0)) C zi_X6_entry_X6 0 rfl 9 (by decide) zf_X6_entry_159 rfl rfl dX6_entry_43 ?_
        refine zv_aload_n (pc := 46) C rfl 0 rfl dX6_entry_46 ?_
        refine zv_get (pc := 47) (CC := RX6) (T := TX6) (N := 22) (ci := 5) (v := .int (T_5 10 0)) C zi_X6_entry_X6 0 rfl 10 (by decide) zf_X6_entry_34 rfl rfl dX6_entry_47 ?_
        refine zv_cv0 (pc := 50) (ws' := (fun uz : zMem => (zd_X6_entry cI adM qM1 qM2 qM3 qM4 qM5 qM6 qM7 qM8 qM12 qM13 qM15 qM16 qM17 qM18 qM19 qM20 qM21 uz))) C (zv_runV (As := [.int a1, .int (T_5 9 0), .int (T_5 10 0)]) (b := adM) (rest := []) (ci := 5) (q0 := 0) C (zc_X6_table l G cI adM qM1 qM2 qM3 qM4 qM5 qM6 qM7 qM8 qM12 qM13 qM15 qM16 qM17 qM18 qM19 qM20 qM21 T_5 a1 (T_5 9 0) (T_5 10 0) _ hF) (cwV 3 C.2.2.2.2.1 gX6_entry_X6_table rfl rfl rfl zy_X6_table ⟨Nat.le_of_ble_eq_true rfl, Nat.le_of_ble_eq_true rfl⟩) rfl rfl rfl rfl rfl (Nat.le_of_ble_eq_true rfl) ⟨Nat.zero_le _, Nat.zero_le _⟩ dX6_entry_50) [0, 1, 2, 3, 4, 5, 6, 7, 8, 9, 10, 11, 12, 13, 14, 15, 16, 17] [] rfl rfl rfl rfl rfl (fun _ => rfl) (fun _ => rfl) (fun _ => rfl) (fun uz hF => ?_)
        obtain ⟨T_8, hE⟩ : ∃ z, z = uz := ⟨_, rfl⟩; subst hE
        refine zv_aload_n (pc := 53) C rfl 0 rfl dX6_entry_53 ?_
        refine zv_iload_n (pc := 54) C rfl 2 rfl dX6_entry_54 ?_
        refine zv_iload_n (pc := 55) C rfl 2 rfl dX6_entry_55 ?_
        refine zv_if_eq (pc := 56) (tgt := 64) C dX6_entry_56 (by decide) (fun c_9 => ?_) (fun c_9 => ?_)
        · replace hF := And.left hF c_9
          refine zv_iconst (pc := 64) (v := 4) C (by decide) dX6_entry_64 ?_
          refine zv_goto (pc := 65) (tgt := 69) C dX6_entry_65 (by decide) ?_
          refine zv_iload_n (pc := 69) C rfl 3 rfl dX6_entry_69 ?_
          refine zv_iload (pc := 70) C 4 rfl dX6_entry_70 ?_
          refine zv_ci0 (pc := 72) (ws' := (fun uz : zMem => (zd_X6_entry cI adM qM1 qM2 qM3 qM4 qM5 qM6 qM7 qM8 qM12 qM13 qM15 qM16 qM17 qM18 qM19 qM20 qM21 uz))) C (zv_runV (As := [.int a2, .int (4 : Int32), .int a3, .int a4]) (b := adM) (rest := []) (ci := 5) (q0 := 0) C (zc_X6_toldPart l G cI adM qM1 qM2 qM3 qM4 qM5 qM6 qM7 qM8 qM12 qM13 qM15 qM16 qM17 qM18 qM19 qM20 qM21 T_8 a2 (4 : Int32) a3 a4 _ hF) (cwV 4 C.2.2.2.2.1 gX6_entry_X6_toldPart rfl rfl rfl zy_X6_toldPart ⟨Nat.le_of_ble_eq_true rfl, Nat.le_of_ble_eq_true rfl⟩) rfl rfl rfl rfl rfl (Nat.le_of_ble_eq_true rfl) ⟨Nat.zero_le _, Nat.zero_le _⟩ dX6_entry_72) [0, 1, 2, 3, 4, 5, 6, 7, 8, 9, 10, 11, 12, 13, 14, 15, 16, 17] [] rfl rfl rfl rfl rfl (fun _ => rfl) (fun _ => rfl) (fun _ => rfl) (fun v_11 uz hF => ?_)
          obtain ⟨T_10, hE⟩ : ∃ z, z = uz := ⟨_, rfl⟩; subst hE
          exact zv_iret (pc := 75) C hr hlk v_11 T_10 hF rfl dX6_entry_75
        · replace hF := And.right hF c_9
          refine zv_iload_n (pc := 59) C rfl 2 rfl dX6_entry_59 ?_
          refine zv_iconst (pc := 60) (v := 3) C (by decide) dX6_entry_60 ?_
          refine zv_icmp_ne (pc := 61) (tgt := 68) C dX6_entry_61 (by decide) (fun c_12 => ?_) (fun c_12 => ?_)
          · replace hF := And.left hF c_12
            refine zv_iconst (pc := 68) (v := 5) C (by decide) dX6_entry_68 ?_
            refine zv_iload_n (pc := 69) C rfl 3 rfl dX6_entry_69 ?_
            refine zv_iload (pc := 70) C 4 rfl dX6_entry_70 ?_
            refine zv_ci0 (pc := 72) (ws' := (fun uz : zMem => (zd_X6_entry cI adM qM1 qM2 qM3 qM4 qM5 qM6 qM7 qM8 qM12 qM13 qM15 qM16 qM17 qM18 qM19 qM20 qM21 uz))) C (zv_runV (As := [.int a2, .int (5 : Int32), .int a3, .int a4]) (b := adM) (rest := []) (ci := 5) (q0 := 0) C (zc_X6_toldPart l G cI adM qM1 qM2 qM3 qM4 qM5 qM6 qM7 qM8 qM12 qM13 qM15 qM16 qM17 qM18 qM19 qM20 qM21 T_8 a2 (5 : Int32) a3 a4 _ hF) (cwV 4 C.2.2.2.2.1 gX6_entry_X6_toldPart rfl rfl rfl zy_X6_toldPart ⟨Nat.le_of_ble_eq_true rfl, Nat.le_of_ble_eq_true rfl⟩) rfl rfl rfl rfl rfl (Nat.le_of_ble_eq_true rfl) ⟨Nat.zero_le _, Nat.zero_le _⟩ dX6_entry_72) [0, 1, 2, 3, 4, 5, 6, 7, 8, 9, 10, 11, 12, 13, 14, 15, 16, 17] [] rfl rfl rfl rfl rfl (fun _ => rfl) (fun _ => rfl) (fun _ => rfl) (fun v_14 uz hF => ?_)
            obtain ⟨T_13, hE⟩ : ∃ z, z = uz := ⟨_, rfl⟩; subst hE
            exact zv_iret (pc := 75) C hr hlk v_14 T_13 hF rfl dX6_entry_75
          · replace hF := And.right hF c_12
            refine zv_iconst (pc := 64) (v := 4) C (by decide) dX6_entry_64 ?_
            refine zv_goto (pc := 65) (tgt := 69) C dX6_entry_65 (by decide) ?_
            refine zv_iload_n (pc := 69) C rfl 3 rfl dX6_entry_69 ?_
            refine zv_iload (pc := 70) C 4 rfl dX6_entry_70 ?_
            refine zv_ci0 (pc := 72) (ws' := (fun uz : zMem => (zd_X6_entry cI adM qM1 qM2 qM3 qM4 qM5 qM6 qM7 qM8 qM12 qM13 qM15 qM16 qM17 qM18 qM19 qM20 qM21 uz))) C (zv_runV (As := [.int a2, .int (4 : Int32), .int a3, .int a4]) (b := adM) (rest := []) (ci := 5) (q0 := 0) C (zc_X6_toldPart l G cI adM qM1 qM2 qM3 qM4 qM5 qM6 qM7 qM8 qM12 qM13 qM15 qM16 qM17 qM18 qM19 qM20 qM21 T_8 a2 (4 : Int32) a3 a4 _ hF) (cwV 4 C.2.2.2.2.1 gX6_entry_X6_toldPart rfl rfl rfl zy_X6_toldPart ⟨Nat.le_of_ble_eq_true rfl, Nat.le_of_ble_eq_true rfl⟩) rfl rfl rfl rfl rfl (Nat.le_of_ble_eq_true rfl) ⟨Nat.zero_le _, Nat.zero_le _⟩ dX6_entry_72) [0, 1, 2, 3, 4, 5, 6, 7, 8, 9, 10, 11, 12, 13, 14, 15, 16, 17] [] rfl rfl rfl rfl rfl (fun _ => rfl) (fun _ => rfl) (fun _ => rfl) (fun v_16 uz hF => ?_)
            obtain ⟨T_15, hE⟩ : ∃ z, z = uz := ⟨_, rfl⟩; subst hE
            exact zv_iret (pc := 75) C hr hlk v_16 T_15 hF rfl dX6_entry_75
      · replace hF := And.right hF c_7
        refine zv_iconst (pc := 38) (v := 0) C (by decide) dX6_entry_38 ?_
        exact zv_iret (pc := 39) C hr hlk (0 : Int32) T_5 hF rfl dX6_entry_39
    · replace hF := And.right hF c_4
      refine zv_iload_n (pc := 13) C rfl 2 rfl dX6_entry_13 ?_
      refine zv_iconst (pc := 14) (v := 3) C (by decide) dX6_entry_14 ?_
      refine zv_icmp_gt (pc := 15) (tgt := 30) C dX6_entry_15 (by decide) (fun c_17 => ?_) (fun c_17 => ?_)
      · replace hF := And.left hF c_17
        refine zv_iconst (pc := 30) (v := 0) C (by decide) dX6_entry_30 ?_
        refine zv_iconst (pc := 31) (v := 2) C (by decide) dX6_entry_31 ?_
        refine zv_ci0 (pc := 32) (ws' := (fun uz : zMem => (zd_X6_entry cI adM qM1 qM2 qM3 qM4 qM5 qM6 qM7 qM8 qM12 qM13 qM15 qM16 qM17 qM18 qM19 qM20 qM21 uz))) C (zv_runV (As := [.int (0 : Int32), .int (2 : Int32)]) (b := adM) (rest := []) (ci := 5) (q0 := 0) C (zc_X6_right l G cI adM qM1 qM2 qM3 qM4 qM5 qM6 qM7 qM8 qM12 qM13 qM15 qM16 qM17 qM18 qM19 qM20 qM21 T_1 (0 : Int32) (2 : Int32) _ hF) (cwV 2 C.2.2.2.2.1 gX6_entry_X6_right rfl rfl rfl zy_X6_right ⟨Nat.le_of_ble_eq_true rfl, Nat.le_of_ble_eq_true rfl⟩) rfl rfl rfl rfl rfl (Nat.le_of_ble_eq_true rfl) ⟨Nat.zero_le _, Nat.zero_le _⟩ dX6_entry_32) [0, 1, 2, 3, 4, 5, 6, 7, 8, 9, 10, 11, 12, 13, 14, 15, 16, 17] [] rfl rfl rfl rfl rfl (fun _ => rfl) (fun _ => rfl) (fun _ => rfl) (fun v_19 uz hF => ?_)
        obtain ⟨T_18, hE⟩ : ∃ z, z = uz := ⟨_, rfl⟩; subst hE
        refine zv_if_ne (pc := 35) (tgt := 40) C dX6_entry_35 (by decide) (fun c_20 => ?_) (fun c_20 => ?_)
        · replace hF := And.left hF c_20
          refine zv_aload_n (pc := 40) C rfl 0 rfl dX6_entry_40 ?_
          refine zv_iload_n (pc := 41) C rfl 1 rfl dX6_entry_41 ?_
          refine zv_aload_n (pc := 42) C rfl 0 rfl dX6_entry_42 ?_
          refine zv_get (pc := 43) (CC := RX6) (T := TX6) (N := 22) (ci := 5) (v := .int (T_18 9 0)) C zi_X6_entry_X6 0 rfl 9 (by decide) zf_X6_entry_159 rfl rfl dX6_entry_43 ?_
          refine zv_aload_n (pc := 46) C rfl 0 rfl dX6_entry_46 ?_
          refine zv_get (pc := 47) (CC := RX6) (T := TX6) (N := 22) (ci := 5) (v := .int (T_18 10 0)) C zi_X6_entry_X6 0 rfl 10 (by decide) zf_X6_entry_34 rfl rfl dX6_entry_47 ?_
          refine zv_cv0 (pc := 50) (ws' := (fun uz : zMem => (zd_X6_entry cI adM qM1 qM2 qM3 qM4 qM5 qM6 qM7 qM8 qM12 qM13 qM15 qM16 qM17 qM18 qM19 qM20 qM21 uz))) C (zv_runV (As := [.int a1, .int (T_18 9 0), .int (T_18 10 0)]) (b := adM) (rest := []) (ci := 5) (q0 := 0) C (zc_X6_table l G cI adM qM1 qM2 qM3 qM4 qM5 qM6 qM7 qM8 qM12 qM13 qM15 qM16 qM17 qM18 qM19 qM20 qM21 T_18 a1 (T_18 9 0) (T_18 10 0) _ hF) (cwV 3 C.2.2.2.2.1 gX6_entry_X6_table rfl rfl rfl zy_X6_table ⟨Nat.le_of_ble_eq_true rfl, Nat.le_of_ble_eq_true rfl⟩) rfl rfl rfl rfl rfl (Nat.le_of_ble_eq_true rfl) ⟨Nat.zero_le _, Nat.zero_le _⟩ dX6_entry_50) [0, 1, 2, 3, 4, 5, 6, 7, 8, 9, 10, 11, 12, 13, 14, 15, 16, 17] [] rfl rfl rfl rfl rfl (fun _ => rfl) (fun _ => rfl) (fun _ => rfl) (fun uz hF => ?_)
          obtain ⟨T_21, hE⟩ : ∃ z, z = uz := ⟨_, rfl⟩; subst hE
          refine zv_aload_n (pc := 53) C rfl 0 rfl dX6_entry_53 ?_
          refine zv_iload_n (pc := 54) C rfl 2 rfl dX6_entry_54 ?_
          refine zv_iload_n (pc := 55) C rfl 2 rfl dX6_entry_55 ?_
          refine zv_if_eq (pc := 56) (tgt := 64) C dX6_entry_56 (by decide) (fun c_22 => ?_) (fun c_22 => ?_)
          · replace hF := And.left hF c_22
            refine zv_iconst (pc := 64) (v := 4) C (by decide) dX6_entry_64 ?_
            refine zv_goto (pc := 65) (tgt := 69) C dX6_entry_65 (by decide) ?_
            refine zv_iload_n (pc := 69) C rfl 3 rfl dX6_entry_69 ?_
            refine zv_iload (pc := 70) C 4 rfl dX6_entry_70 ?_
            refine zv_ci0 (pc := 72) (ws' := (fun uz : zMem => (zd_X6_entry cI adM qM1 qM2 qM3 qM4 qM5 qM6 qM7 qM8 qM12 qM13 qM15 qM16 qM17 qM18 qM19 qM20 qM21 uz))) C (zv_runV (As := [.int a2, .int (4 : Int32), .int a3, .int a4]) (b := adM) (rest := []) (ci := 5) (q0 := 0) C (zc_X6_toldPart l G cI adM qM1 qM2 qM3 qM4 qM5 qM6 qM7 qM8 qM12 qM13 qM15 qM16 qM17 qM18 qM19 qM20 qM21 T_21 a2 (4 : Int32) a3 a4 _ hF) (cwV 4 C.2.2.2.2.1 gX6_entry_X6_toldPart rfl rfl rfl zy_X6_toldPart ⟨Nat.le_of_ble_eq_true rfl, Nat.le_of_ble_eq_true rfl⟩) rfl rfl rfl rfl rfl (Nat.le_of_ble_eq_true rfl) ⟨Nat.zero_le _, Nat.zero_le _⟩ dX6_entry_72) [0, 1, 2, 3, 4, 5, 6, 7, 8, 9, 10, 11, 12, 13, 14, 15, 16, 17] [] rfl rfl rfl rfl rfl (fun _ => rfl) (fun _ => rfl) (fun _ => rfl) (fun v_24 uz hF => ?_)
            obtain ⟨T_23, hE⟩ : ∃ z, z = uz := ⟨_, rfl⟩; subst hE
            exact zv_iret (pc := 75) C hr hlk v_24 T_23 hF rfl dX6_entry_75
          · replace hF := And.right hF c_22
            refine zv_iload_n (pc := 59) C rfl 2 rfl dX6_entry_59 ?_
            refine zv_iconst (pc := 60) (v := 3) C (by decide) dX6_entry_60 ?_
            refine zv_icmp_ne (pc := 61) (tgt := 68) C dX6_entry_61 (by decide) (fun c_25 => ?_) (fun c_25 => ?_)
            · replace hF := And.left hF c_25
              refine zv_iconst (pc := 68) (v := 5) C (by decide) dX6_entry_68 ?_
              refine zv_iload_n (pc := 69) C rfl 3 rfl dX6_entry_69 ?_
              refine zv_iload (pc := 70) C 4 rfl dX6_entry_70 ?_
              refine zv_ci0 (pc := 72) (ws' := (fun uz : zMem => (zd_X6_entry cI adM qM1 qM2 qM3 qM4 qM5 qM6 qM7 qM8 qM12 qM13 qM15 qM16 qM17 qM18 qM19 qM20 qM21 uz))) C (zv_runV (As := [.int a2, .int (5 : Int32), .int a3, .int a4]) (b := adM) (rest := []) (ci := 5) (q0 := 0) C (zc_X6_toldPart l G cI adM qM1 qM2 qM3 qM4 qM5 qM6 qM7 qM8 qM12 qM13 qM15 qM16 qM17 qM18 qM19 qM20 qM21 T_21 a2 (5 : Int32) a3 a4 _ hF) (cwV 4 C.2.2.2.2.1 gX6_entry_X6_toldPart rfl rfl rfl zy_X6_toldPart ⟨Nat.le_of_ble_eq_true rfl, Nat.le_of_ble_eq_true rfl⟩) rfl rfl rfl rfl rfl (Nat.le_of_ble_eq_true rfl) ⟨Nat.zero_le _, Nat.zero_le _⟩ dX6_entry_72) [0, 1, 2, 3, 4, 5, 6, 7, 8, 9, 10, 11, 12, 13, 14, 15, 16, 17] [] rfl rfl rfl rfl rfl (fun _ => rfl) (fun _ => rfl) (fun _ => rfl) (fun v_27 uz hF => ?_)
              obtain ⟨T_26, hE⟩ : ∃ z, z = uz := ⟨_, rfl⟩; subst hE
              exact zv_iret (pc := 75) C hr hlk v_27 T_26 hF rfl dX6_entry_75
            · replace hF := And.right hF c_25
              refine zv_iconst (pc := 64) (v := 4) C (by decide) dX6_entry_64 ?_
              refine zv_goto (pc := 65) (tgt := 69) C dX6_entry_65 (by decide) ?_
              refine zv_iload_n (pc := 69) C rfl 3 rfl dX6_entry_69 ?_
              refine zv_iload (pc := 70) C 4 rfl dX6_entry_70 ?_
              refine zv_ci0 (pc := 72) (ws' := (fun uz : zMem => (zd_X6_entry cI adM qM1 qM2 qM3 qM4 qM5 qM6 qM7 qM8 qM12 qM13 qM15 qM16 qM17 qM18 qM19 qM20 qM21 uz))) C (zv_runV (As := [.int a2, .int (4 : Int32), .int a3, .int a4]) (b := adM) (rest := []) (ci := 5) (q0 := 0) C (zc_X6_toldPart l G cI adM qM1 qM2 qM3 qM4 qM5 qM6 qM7 qM8 qM12 qM13 qM15 qM16 qM17 qM18 qM19 qM20 qM21 T_21 a2 (4 : Int32) a3 a4 _ hF) (cwV 4 C.2.2.2.2.1 gX6_entry_X6_toldPart rfl rfl rfl zy_X6_toldPart ⟨Nat.le_of_ble_eq_true rfl, Nat.le_of_ble_eq_true rfl⟩) rfl rfl rfl rfl rfl (Nat.le_of_ble_eq_true rfl) ⟨Nat.zero_le _, Nat.zero_le _⟩ dX6_entry_72) [0, 1, 2, 3, 4, 5, 6, 7, 8, 9, 10, 11, 12, 13, 14, 15, 16, 17] [] rfl rfl rfl rfl rfl (fun _ => rfl) (fun _ => rfl) (fun _ => rfl) (fun v_29 uz hF => ?_)
              obtain ⟨T_28, hE⟩ : ∃ z, z = uz := ⟨_, rfl⟩; subst hE
              exact zv_iret (pc := 75) C hr hlk v_29 T_28 hF rfl dX6_entry_75
        · replace hF := And.right hF c_20
          refine zv_iconst (pc := 38) (v := 0) C (by decide) dX6_entry_38 ?_
          exact zv_iret (pc := 39) C hr hlk (0 : Int32) T_18 hF rfl dX6_entry_39
      · replace hF := And.right hF c_17
        refine zv_iload (pc := 18) C 4 rfl dX6_entry_18 ?_
        refine zv_ci0 (pc := 20) (ws' := (fun uz : Unit => (zd_X6_entry cI adM qM1 qM2 qM3 qM4 qM5 qM6 qM7 qM8 qM12 qM13 qM15 qM16 qM17 qM18 qM19 qM20 qM21 T_1))) C (zv_runS (As := [.int a4]) (rest := [.ref adM]) C (zc_X6_isPart l G cI a4 _ hF) (va_cwS 1 C.2.2.2.2.1 gX6_entry_X6_isPart rfl rfl rfl zy_X6_isPart ⟨Nat.le_of_ble_eq_true rfl, Nat.le_of_ble_eq_true rfl⟩) rfl rfl (Nat.le_of_ble_eq_true rfl) ⟨Nat.zero_le _, Nat.zero_le _⟩ dX6_entry_20) [] [0, 1, 2, 3, 4, 5, 6, 7, 8, 9, 10, 11, 12, 13, 14, 15, 16, 17] rfl rfl rfl rfl rfl (fun _ => rfl) (fun _ => rfl) (fun _ => rfl) (fun v_30 uz hF => ?_)
        obtain ⟨KJ_33, h0KJ_33, hF⟩ := hF
        refine zv_join (α := Int32) (KK := fun uz => KJ_33 uz) (wsJ := fun uz => (zd_X6_entry cI adM qM1 qM2 qM3 qM4 qM5 qM6 qM7 qM8 qM12 qM13 qM15 qM16 qM17 qM18 qM19 qM20 qM21 T_1)) (pcJ := 31) (lvJ := fun uz => [(0, .ref adM), (1, .int a1), (2, .int a2), (3, .int a3), (4, .int a4)]) (stJ := fun uz => [.int uz, .ref adM]) ?_ (fun hKJ_33 => ?_)
        · rintro v_32 hF
          replace hF := h0KJ_33 v_32 hF
          refine zv_iconst (pc := 31) (v := 2) C (by decide) dX6_entry_31 ?_
          refine zv_ci0 (pc := 32) (ws' := (fun uz : zMem => (zd_X6_entry cI adM qM1 qM2 qM3 qM4 qM5 qM6 qM7 qM8 qM12 qM13 qM15 qM16 qM17 qM18 qM19 qM20 qM21 uz))) C (zv_runV (As := [.int v_32, .int (2 : Int32)]) (b := adM) (rest := []) (ci := 5) (q0 := 0) C (zc_X6_right l G cI adM qM1 qM2 qM3 qM4 qM5 qM6 qM7 qM8 qM12 qM13 qM15 qM16 qM17 qM18 qM19 qM20 qM21 T_1 v_32 (2 : Int32) _ hF) (cwV 2 C.2.2.2.2.1 gX6_entry_X6_right rfl rfl rfl zy_X6_right ⟨Nat.le_of_ble_eq_true rfl, Nat.le_of_ble_eq_true rfl⟩) rfl rfl rfl rfl rfl (Nat.le_of_ble_eq_true rfl) ⟨Nat.zero_le _, Nat.zero_le _⟩ dX6_entry_32) [0, 1, 2, 3, 4, 5, 6, 7, 8, 9, 10, 11, 12, 13, 14, 15, 16, 17] [] rfl rfl rfl rfl rfl (fun _ => rfl) (fun _ => rfl) (fun _ => rfl) (fun v_35 uz hF => ?_)
          obtain ⟨T_34, hE⟩ : ∃ z, z = uz := ⟨_, rfl⟩; subst hE
          refine zv_if_ne (pc := 35) (tgt := 40) C dX6_entry_35 (by decide) (fun c_36 => ?_) (fun c_36 => ?_)
          · replace hF := And.left hF c_36
            refine zv_aload_n (pc := 40) C rfl 0 rfl dX6_entry_40 ?_
            refine zv_iload_n (pc := 41) C rfl 1 rfl dX6_entry_41 ?_
            refine zv_aload_n (pc := 42) C rfl 0 rfl dX6_entry_42 ?_
            refine zv_get (pc := 43) (CC := RX6) (T := TX6) (N := 22) (ci := 5) (v := .int (T_34 9 0)) C zi_X6_entry_X6 0 rfl 9 (by decide) zf_X6_entry_159 rfl rfl dX6_entry_43 ?_
            refine zv_aload_n (pc := 46) C rfl 0 rfl dX6_entry_46 ?_
            refine zv_get (pc := 47) (CC := RX6) (T := TX6) (N := 22) (ci := 5) (v := .int (T_34 10 0)) C zi_X6_entry_X6 0 rfl 10 (by decide) zf_X6_entry_34 rfl rfl dX6_entry_47 ?_
            refine zv_cv0 (pc := 50) (ws' := (fun uz : zMem => (zd_X6_entry cI adM qM1 qM2 qM3 qM4 qM5 qM6 qM7 qM8 qM12 qM13 qM15 qM16 qM17 qM18 qM19 qM20 qM21 uz))) C (zv_runV (As := [.int a1, .int (T_34 9 0), .int (T_34 10 0)]) (b := adM) (rest := []) (ci := 5) (q0 := 0) C (zc_X6_table l G cI adM qM1 qM2 qM3 qM4 qM5 qM6 qM7 qM8 qM12 qM13 qM15 qM16 qM17 qM18 qM19 qM20 qM21 T_34 a1 (T_34 9 0) (T_34 10 0) _ hF) (cwV 3 C.2.2.2.2.1 gX6_entry_X6_table rfl rfl rfl zy_X6_table ⟨Nat.le_of_ble_eq_true rfl, Nat.le_of_ble_eq_true rfl⟩) rfl rfl rfl rfl rfl (Nat.le_of_ble_eq_true rfl) ⟨Nat.zero_le _, Nat.zero_le _⟩ dX6_entry_50) [0, 1, 2, 3, 4, 5, 6, 7, 8, 9, 10, 11, 12, 13, 14, 15, 16, 17] [] rfl rfl rfl rfl rfl (fun _ => rfl) (fun _ => rfl) (fun _ => rfl) (fun uz hF => ?_)
            obtain ⟨T_37, hE⟩ : ∃ z, z = uz := ⟨_, rfl⟩; subst hE
            refine zv_aload_n (pc := 53) C rfl 0 rfl dX6_entry_53 ?_
            refine zv_iload_n (pc := 54) C rfl 2 rfl dX6_entry_54 ?_
            refine zv_iload_n (pc := 55) C rfl 2 rfl dX6_entry_55 ?_
            refine zv_if_eq (pc := 56) (tgt := 64) C dX6_entry_56 (by decide) (fun c_38 => ?_) (fun c_38 => ?_)
            · replace hF := And.left hF c_38
              refine zv_iconst (pc := 64) (v := 4) C (by decide) dX6_entry_64 ?_
              refine zv_goto (pc := 65) (tgt := 69) C dX6_entry_65 (by decide) ?_
              refine zv_iload_n (pc := 69) C rfl 3 rfl dX6_entry_69 ?_
              refine zv_iload (pc := 70) C 4 rfl dX6_entry_70 ?_
              refine zv_ci0 (pc := 72) (ws' := (fun uz : zMem => (zd_X6_entry cI adM qM1 qM2 qM3 qM4 qM5 qM6 qM7 qM8 qM12 qM13 qM15 qM16 qM17 qM18 qM19 qM20 qM21 uz))) C (zv_runV (As := [.int a2, .int (4 : Int32), .int a3, .int a4]) (b := adM) (rest := []) (ci := 5) (q0 := 0) C (zc_X6_toldPart l G cI adM qM1 qM2 qM3 qM4 qM5 qM6 qM7 qM8 qM12 qM13 qM15 qM16 qM17 qM18 qM19 qM20 qM21 T_37 a2 (4 : Int32) a3 a4 _ hF) (cwV 4 C.2.2.2.2.1 gX6_entry_X6_toldPart rfl rfl rfl zy_X6_toldPart ⟨Nat.le_of_ble_eq_true rfl, Nat.le_of_ble_eq_true rfl⟩) rfl rfl rfl rfl rfl (Nat.le_of_ble_eq_true rfl) ⟨Nat.zero_le _, Nat.zero_le _⟩ dX6_entry_72) [0, 1, 2, 3, 4, 5, 6, 7, 8, 9, 10, 11, 12, 13, 14, 15, 16, 17] [] rfl rfl rfl rfl rfl (fun _ => rfl) (fun _ => rfl) (fun _ => rfl) (fun v_40 uz hF => ?_)
              obtain ⟨T_39, hE⟩ : ∃ z, z = uz := ⟨_, rfl⟩; subst hE
              exact zv_iret (pc := 75) C hr hlk v_40 T_39 hF rfl dX6_entry_75
            · replace hF := And.right hF c_38
              refine zv_iload_n (pc := 59) C rfl 2 rfl dX6_entry_59 ?_
              refine zv_iconst (pc := 60) (v := 3) C (by decide) dX6_entry_60 ?_
              refine zv_icmp_ne (pc := 61) (tgt := 68) C dX6_entry_61 (by decide) (fun c_41 => ?_) (fun c_41 => ?_)
              · replace hF := And.left hF c_41
                refine zv_iconst (pc := 68) (v := 5) C (by decide) dX6_entry_68 ?_
                refine zv_iload_n (pc := 69) C rfl 3 rfl dX6_entry_69 ?_
                refine zv_iload (pc := 70) C 4 rfl dX6_entry_70 ?_
                refine zv_ci0 (pc := 72) (ws' := (fun uz : zMem => (zd_X6_entry cI adM qM1 qM2 qM3 qM4 qM5 qM6 qM7 qM8 qM12 qM13 qM15 qM16 qM17 qM18 qM19 qM20 qM21 uz))) C (zv_runV (As := [.int a2, .int (5 : Int32), .int a3, .int a4]) (b := adM) (rest := []) (ci := 5) (q0 := 0) C (zc_X6_toldPart l G cI adM qM1 qM2 qM3 qM4 qM5 qM6 qM7 qM8 qM12 qM13 qM15 qM16 qM17 qM18 qM19 qM20 qM21 T_37 a2 (5 : Int32) a3 a4 _ hF) (cwV 4 C.2.2.2.2.1 gX6_entry_X6_toldPart rfl rfl rfl zy_X6_toldPart ⟨Nat.le_of_ble_eq_true rfl, Nat.le_of_ble_eq_true rfl⟩) rfl rfl rfl rfl rfl (Nat.le_of_ble_eq_true rfl) ⟨Nat.zero_le _, Nat.zero_le _⟩ dX6_entry_72) [0, 1, 2, 3, 4, 5, 6, 7, 8, 9, 10, 11, 12, 13, 14, 15, 16, 17] [] rfl rfl rfl rfl rfl (fun _ => rfl) (fun _ => rfl) (fun _ => rfl) (fun v_43 uz hF => ?_)
                obtain ⟨T_42, hE⟩ : ∃ z, z = uz := ⟨_, rfl⟩; subst hE
                exact zv_iret (pc := 75) C hr hlk v_43 T_42 hF rfl dX6_entry_75
              · replace hF := And.right hF c_41
                refine zv_iconst (pc := 64) (v := 4) C (by decide) dX6_entry_64 ?_
                refine zv_goto (pc := 65) (tgt := 69) C dX6_entry_65 (by decide) ?_
                refine zv_iload_n (pc := 69) C rfl 3 rfl dX6_entry_69 ?_
                refine zv_iload (pc := 70) C 4 rfl dX6_entry_70 ?_
                refine zv_ci0 (pc := 72) (ws' := (fun uz : zMem => (zd_X6_entry cI adM qM1 qM2 qM3 qM4 qM5 qM6 qM7 qM8 qM12 qM13 qM15 qM16 qM17 qM18 qM19 qM20 qM21 uz))) C (zv_runV (As := [.int a2, .int (4 : Int32), .int a3, .int a4]) (b := adM) (rest := []) (ci := 5) (q0 := 0) C (zc_X6_toldPart l G cI adM qM1 qM2 qM3 qM4 qM5 qM6 qM7 qM8 qM12 qM13 qM15 qM16 qM17 qM18 qM19 qM20 qM21 T_37 a2 (4 : Int32) a3 a4 _ hF) (cwV 4 C.2.2.2.2.1 gX6_entry_X6_toldPart rfl rfl rfl zy_X6_toldPart ⟨Nat.le_of_ble_eq_true rfl, Nat.le_of_ble_eq_true rfl⟩) rfl rfl rfl rfl rfl (Nat.le_of_ble_eq_true rfl) ⟨Nat.zero_le _, Nat.zero_le _⟩ dX6_entry_72) [0, 1, 2, 3, 4, 5, 6, 7, 8, 9, 10, 11, 12, 13, 14, 15, 16, 17] [] rfl rfl rfl rfl rfl (fun _ => rfl) (fun _ => rfl) (fun _ => rfl) (fun v_45 uz hF => ?_)
                obtain ⟨T_44, hE⟩ : ∃ z, z = uz := ⟨_, rfl⟩; subst hE
                exact zv_iret (pc := 75) C hr hlk v_45 T_44 hF rfl dX6_entry_75
          · replace hF := And.right hF c_36
            refine zv_iconst (pc := 38) (v := 0) C (by decide) dX6_entry_38 ?_
            exact zv_iret (pc := 39) C hr hlk (0 : Int32) T_34 hF rfl dX6_entry_39
        · skip
          refine zv_if_eq (pc := 23) (tgt := 30) C dX6_entry_23 (by decide) (fun c_31 => ?_) (fun c_31 => ?_)
          · replace hF := And.left hF c_31
            refine zv_iconst (pc := 30) (v := 0) C (by decide) dX6_entry_30 ?_
            exact zv_lvs [0, 1, 2, 3, 4] rfl (hKJ_33 (0 : Int32) hF)
          · replace hF := And.right hF c_31
            refine zv_iconst (pc := 26) (v := 1) C (by decide) dX6_entry_26 ?_
            refine zv_goto (pc := 27) (tgt := 31) C dX6_entry_27 (by decide) ?_
            exact zv_lvs [0, 1, 2, 3, 4] rfl (hKJ_33 (1 : Int32) hF)
theorem zf_X6_sign_159 : Cond.fieldLink RX6 159 "GlassStackModel" "lightU" "I" ∈ wsX6_sign := (List.mem_of_getElem? (i := 1) rfl)
theorem zf_X6_sign_34 : Cond.fieldLink RX6 34 "GlassStackModel" "lightV" "I" ∈ wsX6_sign := (List.mem_of_getElem? (i := 2) rfl)
theorem zf_X6_sign_62 : Cond.fieldLink RX6 62 "GlassStackModel" "sign" "[I" ∈ wsX6_sign := (List.mem_of_getElem? (i := 3) rfl)
theorem zi_X6_sign_X6 : ∀ w ∈ wsX60, w ∈ wsX6_sign := fun w h => List.mem_cons_of_mem _ (List.mem_append_right _ h)
theorem zy_X6_sign : yX6_sign.cls = RX6 ∧ yX6_sign.cls ≠ "java/lang/invoke/MethodHandle" ∧ yX6_sign.cls ≠ "java/lang/invoke/VarHandle" ∧ (parseMethodDescriptor yX6_sign.desc).map (fun d => d.parameters.length) = some 2 := by decide +kernel
set_option maxHeartbeats 4000000 in
set_option maxRecDepth 100000 in
theorem zc_X6_sign (l : Launch) (G : va_G) (cI : ClassId) (adM qM1 qM2 qM3 qM4 qM5 qM6 qM7 qM8 qM12 qM13 qM15 qM16 qM17 qM18 qM19 qM20 qM21 : Nat) (M : zMem) (a1 : Int32) (a2 : Int32) (post : Int32 → zMem → Prop) (hF : zw_X6_sign M a1 a2 post) (sz : Nat) : Met l yX6_sign wsX6_sign rmX6_sign (va_Pc [.ref adM, .int a1, .int a2] (zv_in G cI (zd_X6_sign cI adM qM1 qM2 qM3 qM4 qM5 qM6 qM7 qM8 qM12 qM13 qM15 qM16 qM17 qM18 qM19 qM20 qM21 M) sz)) (va_Qi (fun (rz : Int32) (uz : zMem) => post rz uz) (fun (uz : zMem) t => zv_out G cI (va_A (zd_X6_sign cI adM qM1 qM2 qM3 qM4 qM5 qM6 qM7 qM8 qM12 qM13 qM15 qM16 qM17 qM18 qM19 qM20 qM21 M) sz) (zd_X6_sign cI adM qM1 qM2 qM3 qM4 qM5 qM6 qM7 qM8 qM12 qM13 qM15 qM16 qM17 qM18 qM19 qM20 qM21 uz) t) (va_A (zd_X6_sign cI adM qM1 qM2 qM3 qM4 qM5 qM6 qM7 qM8 qM12 qM13 qM15 qM16 qM17 qM18 qM19 qM20 qM21 M) sz)) 0 0 (va_A (zd_X6_sign cI adM qM1 qM2 qM3 qM4 qM5 qM6 qM7 qM8 qM12 qM13 qM15 qM16 qM17 qM18 qM19 qM20 qM21 M) sz) := by
  refine zv_met (cc := cX6_sign) (maxL := 3) (ret := (some .int)) (lv0 := [(0, .ref adM), (1, .int a1), (2, .int a2)]) (Qc := fun A => va_Qi (fun (rz : Int32) (uz : zMem) => post rz uz) (fun (uz : zMem) t => zv_out G cI A (zd_X6_sign cI adM qM1 qM2 qM3 qM4 qM5 qM6 qM7 qM8 qM12 qM13 qM15 qM16 qM17 qM18 qM19 qM20 qM21 uz) t) A) (by decide) rfl (Nat.le_of_ble_eq_true rfl) rfl ?_ sz
  intro p e s m below meth c A C hr hlk
  clear sz
  refine zv_aload_n (pc := 0) C rfl 0 rfl dX6_sign_0 ?_
  refine zv_iload_n (pc := 1) C rfl 1 rfl dX6_sign_1 ?_
  refine zv_ci0 (pc := 2) (ws' := (fun uz : zMem => (zd_X6_sign cI adM qM1 qM2 qM3 qM4 qM5 qM6 qM7 qM8 qM12 qM13 qM15 qM16 qM17 qM18 qM19 qM20 qM21 uz))) C (zv_runV (As := [.int a1]) (b := adM) (rest := []) (ci := 5) (q0 := 0) C (zc_X6_isStack l G cI adM qM1 qM2 qM3 qM4 qM5 qM6 qM7 qM8 qM12 qM13 qM15 qM16 qM17 qM18 qM19 qM20 qM21 M a1 _ hF) (cwV 1 C.2.2.2.2.1 gX6_sign_X6_isStack rfl rfl rfl zy_X6_isStack ⟨Nat.le_of_ble_eq_true rfl, Nat.le_of_ble_eq_true rfl⟩) rfl rfl rfl rfl rfl (Nat.le_of_ble_eq_true rfl) ⟨Nat.zero_le _, Nat.zero_le _⟩ dX6_sign_2) [0, 1, 2, 3, 4, 5, 6, 7, 8, 9, 10, 11, 12, 13, 14, 15, 16, 17] [] rfl rfl rfl rfl rfl (fun _ => rfl) (fun _ => rfl) (fun _ => rfl) (fun v_2 uz hF => ?_)
  obtain ⟨T_1, hE⟩ : ∃ z, z = uz := ⟨_, rfl⟩; subst hE
  refine zv_if_eq (pc := 5) (tgt := 30) C dX6_sign_5 (by decide) (fun c_3 => ?_) (fun c_3 => ?_)
  · replace hF := And.left hF c_3
    refine zv_iconst (pc := 30) (v := 0) C (by decide) dX6_sign_30 ?_
    exact zv_iret (pc := 31) C hr hlk (0 : Int32) T_1 hF rfl dX6_sign_31
  · replace hF := And.right hF c_3
    refine zv_aload_n (pc := 8) C rfl 0 rfl dX6_sign_8 ?_
    refine zv_iload_n (pc := 9) C rfl 2 rfl dX6_sign_9 ?_
    refine zv_if_lt (pc := 10) (tgt := 22) C dX6_sign_10 (by decide) (fun c_4 => ?_) (fun c_4 => ?_)
    · replace hF := And.left hF c_4
      refine zv_iconst (pc := 22) (v := 0) C (by decide) dX6_sign_22 ?_
      refine zv_iconst (pc := 23) (v := 2) C (by decide) dX6_sign_23 ?_
      refine zv_ci0 (pc := 24) (ws' := (fun uz : zMem => (zd_X6_sign cI adM qM1 qM2 qM3 qM4 qM5 qM6 qM7 qM8 qM12 qM13 qM15 qM16 qM17 qM18 qM19 qM20 qM21 uz))) C (zv_runV (As := [.int (0 : Int32), .int (2 : Int32)]) (b := adM) (rest := []) (ci := 5) (q0 := 0) C (zc_X6_right l G cI adM qM1 qM2 qM3 qM4 qM5 qM6 qM7 qM8 qM12 qM13 qM15 qM16 qM17 qM18 qM19 qM20 qM21 T_1 (0 : Int32) (2 : Int32) _ hF) (cwV 2 C.2.2.2.2.1 gX6_sign_X6_right rfl rfl rfl zy_X6_right ⟨Nat.le_of_ble_eq_true rfl, Nat.le_of_ble_eq_true rfl⟩) rfl rfl rfl rfl rfl (Nat.le_of_ble_eq_true rfl) ⟨Nat.zero_le _, Nat.zero_le _⟩ dX6_sign_24) [0, 1, 2, 3, 4, 5, 6, 7, 8, 9, 10, 11, 12, 13, 14, 15, 16, 17] [] rfl rfl rfl rfl rfl (fun _ => rfl) (fun _ => rfl) (fun _ => rfl) (fun v_6 uz hF => ?_)
      obtain ⟨T_5, hE⟩ : ∃ z, z = uz := ⟨_, rfl⟩; subst hE
      refine zv_if_ne (pc := 27) (tgt := 32) C dX6_sign_27 (by decide) (fun c_7 => ?_) (fun c_7 => ?_)
      · replace hF := And.left hF c_7
        refine zv_aload_n (pc := 32) C rfl 0 rfl dX6_sign_32 ?_
        refine zv_iload_n (pc := 33) C rfl 1 rfl dX6_sign_33 ?_
        refine zv_aload_n (pc := 34) C rfl 0 rfl dX6_sign_34 ?_
        refine zv_get (pc := 35) (CC := RX6) (T := TX6) (N := 22) (ci := 5) (v := .int (T_5 9 0)) C zi_X6_sign_X6 0 rfl 9 (by decide) zf_X6_sign_159 rfl rfl dX6_sign_35 ?_
        refine zv_aload_n (pc := 38) C rfl 0 rfl dX6_sign_38 ?_
        refine zv_get (pc := 39) (CC := RX6) (T := TX6) (N := 22) (ci := 5) (v := .int (T_5 10 0)) C zi_X6_sign_X6 0 rfl 10 (by decide) zf_X6_sign_34 rfl rfl dX6_sign_39 ?_
        refine zv_cv0 (pc := 42) (ws' := (fun uz : zMem => (zd_X6_sign cI adM qM1 qM2 qM3 qM4 qM5 qM6 qM7 qM8 qM12 qM13 qM15 qM16 qM17 qM18 qM19 qM20 qM21 uz))) C (zv_runV (As := [.int a1, .int (T_5 9 0), .int (T_5 10 0)]) (b := adM) (rest := []) (ci := 5) (q0 := 0) C (zc_X6_table l G cI adM qM1 qM2 qM3 qM4 qM5 qM6 qM7 qM8 qM12 qM13 qM15 qM16 qM17 qM18 qM19 qM20 qM21 T_5 a1 (T_5 9 0) (T_5 10 0) _ hF) (cwV 3 C.2.2.2.2.1 gX6_sign_X6_table rfl rfl rfl zy_X6_table ⟨Nat.le_of_ble_eq_true rfl, Nat.le_of_ble_eq_true rfl⟩) rfl rfl rfl rfl rfl (Nat.le_of_ble_eq_true rfl) ⟨Nat.zero_le _, Nat.zero_le _⟩ dX6_sign_42) [0, 1, 2, 3, 4, 5, 6, 7, 8, 9, 10, 11, 12, 13, 14, 15, 16, 17] [] rfl rfl rfl rfl rfl (fun _ => rfl) (fun _ => rfl) (fun _ => rfl) (fun uz hF => ?_)
        obtain ⟨T_8, hE⟩ : ∃ z, z = uz := ⟨_, rfl⟩; subst hE
        refine zv_aload_n (pc := 45) C rfl 0 rfl dX6_sign_45 ?_
        refine zv_get (pc := 46) (CC := RX6) (T := TX6) (N := 22) (ci := 5) (v := .ref qM21) C zi_X6_sign_X6 0 rfl 21 (by decide) zf_X6_sign_62 rfl rfl dX6_sign_46 ?_
        refine zv_iload_n (pc := 49) C rfl 2 rfl dX6_sign_49 ?_
        obtain ⟨h_9, hF⟩ := hF
        refine zv_iald (pc := 50) (n := 60) (f := (T_8 21)) C 17 h_9 rfl dX6_sign_50 ?_
        exact zv_iret (pc := 51) C hr hlk ((T_8 21) (Int32.toNatClampNeg a2)) T_8 hF rfl dX6_sign_51
      · replace hF := And.right hF c_7
        refine zv_iconst (pc := 30) (v := 0) C (by decide) dX6_sign_30 ?_
        exact zv_iret (pc := 31) C hr hlk (0 : Int32) T_5 hF rfl dX6_sign_31
    · replace hF := And.right hF c_4
      refine zv_iload_n (pc := 13) C rfl 2 rfl dX6_sign_13 ?_
      refine zv_iconst (pc := 14) (v := 3) C (by decide) dX6_sign_14 ?_
      obtain ⟨KJ_12, h0KJ_12, hF⟩ := hF
      refine zv_join (α := Int32) (KK := fun uz => KJ_12 uz) (wsJ := fun uz => (zd_X6_sign cI adM qM1 qM2 qM3 qM4 qM5 qM6 qM7 qM8 qM12 qM13 qM15 qM16 qM17 qM18 qM19 qM20 qM21 T_1)) (pcJ := 23) (lvJ := fun uz => [(0, .ref adM), (1, .int a1), (2, .int a2)]) (stJ := fun uz => [.int uz, .ref adM]) ?_ (fun hKJ_12 => ?_)
      · rintro v_11 hF
        replace hF := h0KJ_12 v_11 hF
        refine zv_iconst (pc := 23) (v := 2) C (by decide) dX6_sign_23 ?_
        refine zv_ci0 (pc := 24) (ws' := (fun uz : zMem => (zd_X6_sign cI adM qM1 qM2 qM3 qM4 qM5 qM6 qM7 qM8 qM12 qM13 qM15 qM16 qM17 qM18 qM19 qM20 qM21 uz))) C (zv_runV (As := [.int v_11, .int (2 : Int32)]) (b := adM) (rest := []) (ci := 5) (q0 := 0) C (zc_X6_right l G cI adM qM1 qM2 qM3 qM4 qM5 qM6 qM7 qM8 qM12 qM13 qM15 qM16 qM17 qM18 qM19 qM20 qM21 T_1 v_11 (2 : Int32) _ hF) (cwV 2 C.2.2.2.2.1 gX6_sign_X6_right rfl rfl rfl zy_X6_right ⟨Nat.le_of_ble_eq_true rfl, Nat.le_of_ble_eq_true rfl⟩) rfl rfl rfl rfl rfl (Nat.le_of_ble_eq_true rfl) ⟨Nat.zero_le _, Nat.zero_le _⟩ dX6_sign_24) [0, 1, 2, 3, 4, 5, 6, 7, 8, 9, 10, 11, 12, 13, 14, 15, 16, 17] [] rfl rfl rfl rfl rfl (fun _ => rfl) (fun _ => rfl) (fun _ => rfl) (fun v_14 uz hF => ?_)
        obtain ⟨T_13, hE⟩ : ∃ z, z = uz := ⟨_, rfl⟩; subst hE
        refine zv_if_ne (pc := 27) (tgt := 32) C dX6_sign_27 (by decide) (fun c_15 => ?_) (fun c_15 => ?_)
        · replace hF := And.left hF c_15
          refine zv_aload_n (pc := 32) C rfl 0 rfl dX6_sign_32 ?_
          refine zv_iload_n (pc := 33) C rfl 1 rfl dX6_sign_33 ?_
          refine zv_aload_n (pc := 34) C rfl 0 rfl dX6_sign_34 ?_
          refine zv_get (pc := 35) (CC := RX6) (T := TX6) (N := 22) (ci := 5) (v := .int (T_13 9 0)) C zi_X6_sign_X6 0 rfl 9 (by decide) zf_X6_sign_159 rfl rfl dX6_sign_35 ?_
          refine zv_aload_n (pc := 38) C rfl 0 rfl dX6_sign_38 ?_
          refine zv_get (pc := 39) (CC := RX6) (T := TX6) (N := 22) (ci := 5) (v := .int (T_13 10 0)) C zi_X6_sign_X6 0 rfl 10 (by decide) zf_X6_sign_34 rfl rfl dX6_sign_39 ?_
          refine zv_cv0 (pc := 42) (ws' := (fun uz : zMem => (zd_X6_sign cI adM qM1 qM2 qM3 qM4 qM5 qM6 qM7 qM8 qM12 qM13 qM15 qM16 qM17 qM18 qM19 qM20 qM21 uz))) C (zv_runV (As := [.int a1, .int (T_13 9 0), .int (T_13 10 0)]) (b := adM) (rest := []) (ci := 5) (q0 := 0) C (zc_X6_table l G cI adM qM1 qM2 qM3 qM4 qM5 qM6 qM7 qM8 qM12 qM13 qM15 qM16 qM17 qM18 qM19 qM20 qM21 T_13 a1 (T_13 9 0) (T_13 10 0) _ hF) (cwV 3 C.2.2.2.2.1 gX6_sign_X6_table rfl rfl rfl zy_X6_table ⟨Nat.le_of_ble_eq_true rfl, Nat.le_of_ble_eq_true rfl⟩) rfl rfl rfl rfl rfl (Nat.le_of_ble_eq_true rfl) ⟨Nat.zero_le _, Nat.zero_le _⟩ dX6_sign_42) [0, 1, 2, 3, 4, 5, 6, 7, 8, 9, 10, 11, 12, 13, 14, 15, 16, 17] [] rfl rfl rfl rfl rfl (fun _ => rfl) (fun _ => rfl) (fun _ => rfl) (fun uz hF => ?_)
          obtain ⟨T_16, hE⟩ : ∃ z, z = uz := ⟨_, rfl⟩; subst hE
          refine zv_aload_n (pc := 45) C rfl 0 rfl dX6_sign_45 ?_
          refine zv_get (pc := 46) (CC := RX6) (T := TX6) (N := 22) (ci := 5) (v := .ref qM21) C zi_X6_sign_X6 0 rfl 21 (by decide) zf_X6_sign_62 rfl rfl dX6_sign_46 ?_
          refine zv_iload_n (pc := 49) C rfl 2 rfl dX6_sign_49 ?_
          obtain ⟨h_17, hF⟩ := hF
          refine zv_iald (pc := 50) (n := 60) (f := (T_16 21)) C 17 h_17 rfl dX6_sign_50 ?_
          exact zv_iret (pc := 51) C hr hlk ((T_16 21) (Int32.toNatClampNeg a2)) T_16 hF rfl dX6_sign_51
        · replace hF := And.right hF c_15
          refine zv_iconst (pc := 30) (v := 0) C (by decide) dX6_sign_30 ?_
          exact zv_iret (pc := 31) C hr hlk (0 : Int32) T_13 hF rfl dX6_sign_31
      · skip
        refine zv_icmp_gt (pc := 15) (tgt := 22) C dX6_sign_15 (by decide) (fun c_10 => ?_) (fun c_10 => ?_)
        · replace hF := And.left hF c_10
          refine zv_iconst (pc := 22) (v := 0) C (by decide) dX6_sign_22 ?_
          exact zv_lvs [0, 1, 2] rfl (hKJ_12 (0 : Int32) hF)
        · replace hF := And.right hF c_10
          refine zv_iconst (pc := 18) (v := 1) C (by decide) dX6_sign_18 ?_
          refine zv_goto (pc := 19) (tgt := 23) C dX6_sign_19 (by decide) ?_
          exact zv_lvs [0, 1, 2] rfl (hKJ_12 (1 : Int32) hF)
theorem zf_X6_stops_159 : Cond.fieldLink RX6 159 "GlassStackModel" "lightU" "I" ∈ wsX6_stops := (List.mem_of_getElem? (i := 1) rfl)
theorem zf_X6_stops_34 : Cond.fieldLink RX6 34 "GlassStackModel" "lightV" "I" ∈ wsX6_stops := (List.mem_of_getElem? (i := 2) rfl)
theorem zi_X6_stops_X6 : ∀ w ∈ wsX60, w ∈ wsX6_stops := fun w h => List.mem_cons_of_mem _ (List.mem_append_right _ h)
theorem zy_X6_stops : yX6_stops.cls = RX6 ∧ yX6_stops.cls ≠ "java/lang/invoke/MethodHandle" ∧ yX6_stops.cls ≠ "java/lang/invoke/VarHandle" ∧ (parseMethodDescriptor yX6_stops.desc).map (fun d => d.parameters.length) = some 1 := by decide +kernel
set_option maxHeartbeats 4000000 in
set_option maxRecDepth 100000 in
theorem zc_X6_stops (l : Launch) (G : va_G) (cI : ClassId) (adM qM1 qM2 qM3 qM4 qM5 qM6 qM7 qM8 qM12 qM13 qM15 qM16 qM17 qM18 qM19 qM20 qM21 : Nat) (M : zMem) (a1 : Int32) (post : Int32 → zMem → Prop) (hF : zw_X6_stops M a1 post) (sz : Nat) : Met l yX6_stops wsX6_stops rmX6_stops (va_Pc [.ref adM, .int a1] (zv_in G cI (zd_X6_stops cI adM qM1 qM2 qM3 qM4 qM5 qM6 qM7 qM8 qM12 qM13 qM15 qM16 qM17 qM18 qM19 qM20 qM21 M) sz)) (va_Qi (fun (rz : Int32) (uz : zMem) => post rz uz) (fun (uz : zMem) t => zv_out G cI (va_A (zd_X6_stops cI adM qM1 qM2 qM3 qM4 qM5 qM6 qM7 qM8 qM12 qM13 qM15 qM16 qM17 qM18 qM19 qM20 qM21 M) sz) (zd_X6_stops cI adM qM1 qM2 qM3 qM4 qM5 qM6 qM7 qM8 qM12 qM13 qM15 qM16 qM17 qM18 qM19 qM20 qM21 uz) t) (va_A (zd_X6_stops cI adM qM1 qM2 qM3 qM4 qM5 qM6 qM7 qM8 qM12 qM13 qM15 qM16 qM17 qM18 qM19 qM20 qM21 M) sz)) 0 0 (va_A (zd_X6_stops cI adM qM1 qM2 qM3 qM4 qM5 qM6 qM7 qM8 qM12 qM13 qM15 qM16 qM17 qM18 qM19 qM20 qM21 M) sz) := by
  refine zv_met (cc := cX6_stops) (maxL := 2) (ret := (some .boolean)) (lv0 := [(0, .ref adM), (1, .int a1)]) (Qc := fun A => va_Qi (fun (rz : Int32) (uz : zMem) => post rz uz) (fun (uz : zMem) t => zv_out G cI A (zd_X6_stops cI adM qM1 qM2 qM3 qM4 qM5 qM6 qM7 qM8 qM12 qM13 qM15 qM16 qM17 qM18 qM19 qM20 qM21 uz) t) A) (by decide) rfl (Nat.le_of_ble_eq_true rfl) rfl ?_ sz
  intro p e s m below meth c A C hr hlk
  clear sz
  refine zv_aload_n (pc := 0) C rfl 0 rfl dX6_stops_0 ?_
  refine zv_iload_n (pc := 1) C rfl 1 rfl dX6_stops_1 ?_
  refine zv_ci0 (pc := 2) (ws' := (fun uz : zMem => (zd_X6_stops cI adM qM1 qM2 qM3 qM4 qM5 qM6 qM7 qM8 qM12 qM13 qM15 qM16 qM17 qM18 qM19 qM20 qM21 uz))) C (zv_runV (As := [.int a1]) (b := adM) (rest := []) (ci := 5) (q0 := 0) C (zc_X6_isStack l G cI adM qM1 qM2 qM3 qM4 qM5 qM6 qM7 qM8 qM12 qM13 qM15 qM16 qM17 qM18 qM19 qM20 qM21 M a1 _ hF) (cwV 1 C.2.2.2.2.1 gX6_stops_X6_isStack rfl rfl rfl zy_X6_isStack ⟨Nat.le_of_ble_eq_true rfl, Nat.le_of_ble_eq_true rfl⟩) rfl rfl rfl rfl rfl (Nat.le_of_ble_eq_true rfl) ⟨Nat.zero_le _, Nat.zero_le _⟩ dX6_stops_2) [0, 1, 2, 3, 4, 5, 6, 7, 8, 9, 10, 11, 12, 13, 14, 15, 16, 17] [] rfl rfl rfl rfl rfl (fun _ => rfl) (fun _ => rfl) (fun _ => rfl) (fun v_2 uz hF => ?_)
  obtain ⟨T_1, hE⟩ : ∃ z, z = uz := ⟨_, rfl⟩; subst hE
  refine zv_if_ne (pc := 5) (tgt := 10) C dX6_stops_5 (by decide) (fun c_3 => ?_) (fun c_3 => ?_)
  · replace hF := And.left hF c_3
    refine zv_aload_n (pc := 10) C rfl 0 rfl dX6_stops_10 ?_
    refine zv_iload_n (pc := 11) C rfl 1 rfl dX6_stops_11 ?_
    refine zv_aload_n (pc := 12) C rfl 0 rfl dX6_stops_12 ?_
    refine zv_get (pc := 13) (CC := RX6) (T := TX6) (N := 22) (ci := 5) (v := .int (T_1 9 0)) C zi_X6_stops_X6 0 rfl 9 (by decide) zf_X6_stops_159 rfl rfl dX6_stops_13 ?_
    refine zv_aload_n (pc := 16) C rfl 0 rfl dX6_stops_16 ?_
    refine zv_get (pc := 17) (CC := RX6) (T := TX6) (N := 22) (ci := 5) (v := .int (T_1 10 0)) C zi_X6_stops_X6 0 rfl 10 (by decide) zf_X6_stops_34 rfl rfl dX6_stops_17 ?_
    refine zv_cv0 (pc := 20) (ws' := (fun uz : zMem => (zd_X6_stops cI adM qM1 qM2 qM3 qM4 qM5 qM6 qM7 qM8 qM12 qM13 qM15 qM16 qM17 qM18 qM19 qM20 qM21 uz))) C (zv_runV (As := [.int a1, .int (T_1 9 0), .int (T_1 10 0)]) (b := adM) (rest := []) (ci := 5) (q0 := 0) C (zc_X6_table l G cI adM qM1 qM2 qM3 qM4 qM5 qM6 qM7 qM8 qM12 qM13 qM15 qM16 qM17 qM18 qM19 qM20 qM21 T_1 a1 (T_1 9 0) (T_1 10 0) _ hF) (cwV 3 C.2.2.2.2.1 gX6_stops_X6_table rfl rfl rfl zy_X6_table ⟨Nat.le_of_ble_eq_true rfl, Nat.le_of_ble_eq_true rfl⟩) rfl rfl rfl rfl rfl (Nat.le_of_ble_eq_true rfl) ⟨Nat.zero_le _, Nat.zero_le _⟩ dX6_stops_20) [0, 1, 2, 3, 4, 5, 6, 7, 8, 9, 10, 11, 12, 13, 14, 15, 16, 17] [] rfl rfl rfl rfl rfl (fun _ => rfl) (fun _ => rfl) (fun _ => rfl) (fun uz hF => ?_)
    obtain ⟨T_4, hE⟩ : ∃ z, z = uz := ⟨_, rfl⟩; subst hE
    refine zv_aload_n (pc := 23) C rfl 0 rfl dX6_stops_23 ?_
    refine zv_bipush (pc := 24) (v := 10) C (by decide) dX6_stops_24 ?_
    refine zv_iconst (pc := 26) (v := 0) C (by decide) dX6_stops_26 ?_
    refine zv_iconst (pc := 27) (v := 3) C (by decide) dX6_stops_27 ?_
    refine zv_cv0 (pc := 28) (ws' := (fun uz : zMem => (zd_X6_stops cI adM qM1 qM2 qM3 qM4 qM5 qM6 qM7 qM8 qM12 qM13 qM15 qM16 qM17 qM18 qM19 qM20 qM21 uz))) C (zv_runV (As := [.int (10 : Int32), .int (0 : Int32), .int (3 : Int32)]) (b := adM) (rest := []) (ci := 5) (q0 := 0) C (zc_X6_plus l G cI adM qM1 qM2 qM3 qM4 qM5 qM6 qM7 qM8 qM12 qM13 qM15 qM16 qM17 qM18 qM19 qM20 qM21 T_4 (10 : Int32) (0 : Int32) (3 : Int32) _ hF) (cwV 3 C.2.2.2.2.1 gX6_stops_X6_plus rfl rfl rfl zy_X6_plus ⟨Nat.le_of_ble_eq_true rfl, Nat.le_of_ble_eq_true rfl⟩) rfl rfl rfl rfl rfl (Nat.le_of_ble_eq_true rfl) ⟨Nat.zero_le _, Nat.zero_le _⟩ dX6_stops_28) [0, 1, 2, 3, 4, 5, 6, 7, 8, 9, 10, 11, 12, 13, 14, 15, 16, 17] [] rfl rfl rfl rfl rfl (fun _ => rfl) (fun _ => rfl) (fun _ => rfl) (fun uz hF => ?_)
    obtain ⟨T_5, hE⟩ : ∃ z, z = uz := ⟨_, rfl⟩; subst hE
    refine zv_aload_n (pc := 31) C rfl 0 rfl dX6_stops_31 ?_
    refine zv_bipush (pc := 32) (v := 11) C (by decide) dX6_stops_32 ?_
    refine zv_bipush (pc := 34) (v := 10) C (by decide) dX6_stops_34 ?_
    refine zv_bipush (pc := 36) (v := 10) C (by decide) dX6_stops_36 ?_
    refine zv_cv0 (pc := 38) (ws' := (fun uz : zMem => (zd_X6_stops cI adM qM1 qM2 qM3 qM4 qM5 qM6 qM7 qM8 qM12 qM13 qM15 qM16 qM17 qM18 qM19 qM20 qM21 uz))) C (zv_runV (As := [.int (11 : Int32), .int (10 : Int32), .int (10 : Int32)]) (b := adM) (rest := []) (ci := 5) (q0 := 0) C (zc_X6_times l G cI adM qM1 qM2 qM3 qM4 qM5 qM6 qM7 qM8 qM12 qM13 qM15 qM16 qM17 qM18 qM19 qM20 qM21 T_5 (11 : Int32) (10 : Int32) (10 : Int32) _ hF) (cwV 3 C.2.2.2.2.1 gX6_stops_X6_times rfl rfl rfl zy_X6_times ⟨Nat.le_of_ble_eq_true rfl, Nat.le_of_ble_eq_true rfl⟩) rfl rfl rfl rfl rfl (Nat.le_of_ble_eq_true rfl) ⟨Nat.zero_le _, Nat.zero_le _⟩ dX6_stops_38) [0, 1, 2, 3, 4, 5, 6, 7, 8, 9, 10, 11, 12, 13, 14, 15, 16, 17] [] rfl rfl rfl rfl rfl (fun _ => rfl) (fun _ => rfl) (fun _ => rfl) (fun uz hF => ?_)
    obtain ⟨T_6, hE⟩ : ∃ z, z = uz := ⟨_, rfl⟩; subst hE
    refine zv_aload_n (pc := 41) C rfl 0 rfl dX6_stops_41 ?_
    refine zv_bipush (pc := 42) (v := 12) C (by decide) dX6_stops_42 ?_
    refine zv_iconst (pc := 44) (v := 4) C (by decide) dX6_stops_44 ?_
    refine zv_iconst (pc := 45) (v := 4) C (by decide) dX6_stops_45 ?_
    refine zv_cv0 (pc := 46) (ws' := (fun uz : zMem => (zd_X6_stops cI adM qM1 qM2 qM3 qM4 qM5 qM6 qM7 qM8 qM12 qM13 qM15 qM16 qM17 qM18 qM19 qM20 qM21 uz))) C (zv_runV (As := [.int (12 : Int32), .int (4 : Int32), .int (4 : Int32)]) (b := adM) (rest := []) (ci := 5) (q0 := 0) C (zc_X6_times l G cI adM qM1 qM2 qM3 qM4 qM5 qM6 qM7 qM8 qM12 qM13 qM15 qM16 qM17 qM18 qM19 qM20 qM21 T_6 (12 : Int32) (4 : Int32) (4 : Int32) _ hF) (cwV 3 C.2.2.2.2.1 gX6_stops_X6_times rfl rfl rfl zy_X6_times ⟨Nat.le_of_ble_eq_true rfl, Nat.le_of_ble_eq_true rfl⟩) rfl rfl rfl rfl rfl (Nat.le_of_ble_eq_true rfl) ⟨Nat.zero_le _, Nat.zero_le _⟩ dX6_stops_46) [0, 1, 2, 3, 4, 5, 6, 7, 8, 9, 10, 11, 12, 13, 14, 15, 16, 17] [] rfl rfl rfl rfl rfl (fun _ => rfl) (fun _ => rfl) (fun _ => rfl) (fun uz hF => ?_)
    obtain ⟨T_7, hE⟩ : ∃ z, z = uz := ⟨_, rfl⟩; subst hE
    refine zv_aload_n (pc := 49) C rfl 0 rfl dX6_stops_49 ?_
    refine zv_bipush (pc := 50) (v := 12) C (by decide) dX6_stops_50 ?_
    refine zv_ldc2 (pc := 52) C (v := 4) (List.mem_of_getElem? (i := 3) rfl) dX6_stops_52 ?_
    refine zv_cv0 (pc := 55) (ws' := (fun uz : zMem => (zd_X6_stops cI adM qM1 qM2 qM3 qM4 qM5 qM6 qM7 qM8 qM12 qM13 qM15 qM16 qM17 qM18 qM19 qM20 qM21 uz))) C (zv_runV (As := [.int (12 : Int32), .long (4 : Int64)]) (b := adM) (rest := []) (ci := 5) (q0 := 0) C (zc_X6_by l G cI adM qM1 qM2 qM3 qM4 qM5 qM6 qM7 qM8 qM12 qM13 qM15 qM16 qM17 qM18 qM19 qM20 qM21 T_7 (12 : Int32) (4 : Int64) _ hF) (cwV 2 C.2.2.2.2.1 gX6_stops_X6_by rfl rfl rfl zy_X6_by ⟨Nat.le_of_ble_eq_true rfl, Nat.le_of_ble_eq_true rfl⟩) rfl rfl rfl rfl rfl (Nat.le_of_ble_eq_true rfl) ⟨Nat.zero_le _, Nat.zero_le _⟩ dX6_stops_55) [0, 1, 2, 3, 4, 5, 6, 7, 8, 9, 10, 11, 12, 13, 14, 15, 16, 17] [] rfl rfl rfl rfl rfl (fun _ => rfl) (fun _ => rfl) (fun _ => rfl) (fun uz hF => ?_)
    obtain ⟨T_8, hE⟩ : ∃ z, z = uz := ⟨_, rfl⟩; subst hE
    refine zv_aload_n (pc := 58) C rfl 0 rfl dX6_stops_58 ?_
    refine zv_bipush (pc := 59) (v := 11) C (by decide) dX6_stops_59 ?_
    refine zv_bipush (pc := 61) (v := 12) C (by decide) dX6_stops_61 ?_
    refine zv_ci0 (pc := 63) (ws' := (fun uz : Unit => (zd_X6_stops cI adM qM1 qM2 qM3 qM4 qM5 qM6 qM7 qM8 qM12 qM13 qM15 qM16 qM17 qM18 qM19 qM20 qM21 T_8))) C (zv_runV (As := [.int (11 : Int32), .int (12 : Int32)]) (b := adM) (rest := []) (ci := 5) (q0 := 0) C (zc_X6_compare l G cI adM qM1 qM2 qM3 qM4 qM5 qM6 qM7 qM8 qM12 qM13 qM15 qM16 qM17 qM18 qM19 qM20 qM21 T_8 (11 : Int32) (12 : Int32) _ hF) (cwV 2 C.2.2.2.2.1 gX6_stops_X6_compare rfl rfl rfl zy_X6_compare ⟨Nat.le_of_ble_eq_true rfl, Nat.le_of_ble_eq_true rfl⟩) rfl rfl rfl rfl rfl (Nat.le_of_ble_eq_true rfl) ⟨Nat.zero_le _, Nat.zero_le _⟩ dX6_stops_63) [0, 1, 2, 3, 4, 5, 6, 7, 8, 9, 10, 11, 12, 13, 14, 15, 16, 17] [] rfl rfl rfl rfl rfl (fun _ => rfl) (fun _ => rfl) (fun _ => rfl) (fun v_9 uz hF => ?_)
    refine zv_if_le (pc := 66) (tgt := 73) C dX6_stops_66 (by decide) (fun c_10 => ?_) (fun c_10 => ?_)
    · replace hF := And.left hF c_10
      refine zv_iconst (pc := 73) (v := 0) C (by decide) dX6_stops_73 ?_
      obtain ⟨hn_11, hF⟩ := hF
      exact zv_zret (pc := 74) C hr hlk (0 : Int32) T_8 hn_11 hF rfl dX6_stops_74
    · replace hF := And.right hF c_10
      refine zv_iconst (pc := 69) (v := 1) C (by decide) dX6_stops_69 ?_
      refine zv_goto (pc := 70) (tgt := 74) C dX6_stops_70 (by decide) ?_
      obtain ⟨hn_12, hF⟩ := hF
      exact zv_zret (pc := 74) C hr hlk (1 : Int32) T_8 hn_12 hF rfl dX6_stops_74
  · replace hF := And.right hF c_3
    refine zv_iconst (pc := 8) (v := 0) C (by decide) dX6_stops_8 ?_
    obtain ⟨hn_13, hF⟩ := hF
    exact zv_zret (pc := 9) C hr hlk (0 : Int32) T_1 hn_13 hF rfl dX6_stops_9
theorem zf_X6_less_159 : Cond.fieldLink RX6 159 "GlassStackModel" "lightU" "I" ∈ wsX6_less := (List.mem_of_getElem? (i := 2) rfl)
theorem zf_X6_less_34 : Cond.fieldLink RX6 34 "GlassStackModel" "lightV" "I" ∈ wsX6_less := (List.mem_of_getElem? (i := 3) rfl)
theorem zf_X6_less_65 : Cond.fieldLink RX6 65 "GlassStackModel" "thrown" "I" ∈ wsX6_less := (List.mem_of_getElem? (i := 1) rfl)
theorem zi_X6_less_X6 : ∀ w ∈ wsX60, w ∈ wsX6_less := fun w h => List.mem_cons_of_mem _ (List.mem_append_right _ h)
theorem zy_X6_less : yX6_less.cls = RX6 ∧ yX6_less.cls ≠ "java/lang/invoke/MethodHandle" ∧ yX6_less.cls ≠ "java/lang/invoke/VarHandle" ∧ (parseMethodDescriptor yX6_less.desc).map (fun d => d.parameters.length) = some 0 := by decide +kernel
set_option maxHeartbeats 4000000 in
set_option maxRecDepth 100000 in
theorem zc_X6_less (l : Launch) (G : va_G) (cI : ClassId) (adM qM1 qM2 qM3 qM4 qM5 qM6 qM7 qM8 qM12 qM13 qM15 qM16 qM17 qM18 qM19 qM20 qM21 : Nat) (M : zMem) (post : Int32 → zMem → Prop) (hF : zw_X6_less M post) (sz : Nat) : Met l yX6_less wsX6_less rmX6_less (va_Pc [.ref adM] (zv_in G cI (zd_X6_less cI adM qM1 qM2 qM3 qM4 qM5 qM6 qM7 qM8 qM12 qM13 qM15 qM16 qM17 qM18 qM19 qM20 qM21 M) sz)) (va_Qi (fun (rz : Int32) (uz : zMem) => post rz uz) (fun (uz : zMem) t => zv_out G cI (va_A (zd_X6_less cI adM qM1 qM2 qM3 qM4 qM5 qM6 qM7 qM8 qM12 qM13 qM15 qM16 qM17 qM18 qM19 qM20 qM21 M) sz) (zd_X6_less cI adM qM1 qM2 qM3 qM4 qM5 qM6 qM7 qM8 qM12 qM13 qM15 qM16 qM17 qM18 qM19 qM20 qM21 uz) t) (va_A (zd_X6_less cI adM qM1 qM2 qM3 qM4 qM5 qM6 qM7 qM8 qM12 qM13 qM15 qM16 qM17 qM18 qM19 qM20 qM21 M) sz)) 0 0 (va_A (zd_X6_less cI adM qM1 qM2 qM3 qM4 qM5 qM6 qM7 qM8 qM12 qM13 qM15 qM16 qM17 qM18 qM19 qM20 qM21 M) sz) := by
  refine zv_met (cc := cX6_less) (maxL := 2) (ret := (some .int)) (lv0 := [(0, .ref adM)]) (Qc := fun A => va_Qi (fun (rz : Int32) (uz : zMem) => post rz uz) (fun (uz : zMem) t => zv_out G cI A (zd_X6_less cI adM qM1 qM2 qM3 qM4 qM5 qM6 qM7 qM8 qM12 qM13 qM15 qM16 qM17 qM18 qM19 qM20 qM21 uz) t) A) (by decide) rfl (Nat.le_of_ble_eq_true rfl) rfl ?_ sz
  intro p e s m below meth c A C hr hlk
  clear sz
  refine zv_aload_n (pc := 0) C rfl 0 rfl dX6_less_0 ?_
  refine zv_iconst (pc := 1) (v := 0) C (by decide) dX6_less_1 ?_
  refine zv_put (pc := 2) (CC := RX6) (T := TX6) (N := 22) (ci := 5) (v := .int (0 : Int32)) (ty := .int) (ws' := (zd_X6_less cI adM qM1 qM2 qM3 qM4 qM5 qM6 qM7 qM8 qM12 qM13 qM15 qM16 qM17 qM18 qM19 qM20 qM21 (zset M 0 (fun _ => (0 : Int32))))) C zi_X6_less_X6 tyX6 tyX6_ok nmX6 0 rfl 0 (by decide) zf_X6_less_65 rfl (by decide +kernel) rfl rfl rfl (Nat.le_of_ble_eq_true rfl) rfl dX6_less_2 ?_
  refine zv_aload_n (pc := 5) C rfl 0 rfl dX6_less_5 ?_
  refine zv_iconst (pc := 6) (v := 0) C (by decide) dX6_less_6 ?_
  refine zv_aload_n (pc := 7) C rfl 0 rfl dX6_less_7 ?_
  refine zv_get (pc := 8) (CC := RX6) (T := TX6) (N := 22) (ci := 5) (v := .int (M 9 0)) C zi_X6_less_X6 0 rfl 9 (by decide) zf_X6_less_159 rfl rfl dX6_less_8 ?_
  refine zv_aload_n (pc := 11) C rfl 0 rfl dX6_less_11 ?_
  refine zv_get (pc := 12) (CC := RX6) (T := TX6) (N := 22) (ci := 5) (v := .int (M 10 0)) C zi_X6_less_X6 0 rfl 10 (by decide) zf_X6_less_34 rfl rfl dX6_less_12 ?_
  refine zv_cv0 (pc := 15) (ws' := (fun uz : zMem => (zd_X6_less cI adM qM1 qM2 qM3 qM4 qM5 qM6 qM7 qM8 qM12 qM13 qM15 qM16 qM17 qM18 qM19 qM20 qM21 uz))) C (zv_runV (As := [.int (0 : Int32), .int (M 9 0), .int (M 10 0)]) (b := adM) (rest := []) (ci := 5) (q0 := 0) C (zc_X6_backOf l G cI adM qM1 qM2 qM3 qM4 qM5 qM6 qM7 qM8 qM12 qM13 qM15 qM16 qM17 qM18 qM19 qM20 qM21 (zset M 0 (fun _ => (0 : Int32))) (0 : Int32) (M 9 0) (M 10 0) _ hF) (cwV 3 C.2.2.2.2.1 gX6_less_X6_backOf rfl rfl rfl zy_X6_backOf ⟨Nat.le_of_ble_eq_true rfl, Nat.le_of_ble_eq_true rfl⟩) rfl rfl rfl rfl rfl (Nat.le_of_ble_eq_true rfl) ⟨Nat.zero_le _, Nat.zero_le _⟩ dX6_less_15) [0, 1, 2, 3, 4, 5, 6, 7, 8, 9, 10, 11, 12, 13, 14, 15, 16, 17] [] rfl rfl rfl rfl rfl (fun _ => rfl) (fun _ => rfl) (fun _ => rfl) (fun uz hF => ?_)
  obtain ⟨T_1, hE⟩ : ∃ z, z = uz := ⟨_, rfl⟩; subst hE
  refine zv_aload_n (pc := 18) C rfl 0 rfl dX6_less_18 ?_
  refine zv_bipush (pc := 19) (v := 24) C (by decide) dX6_less_19 ?_
  refine zv_bipush (pc := 21) (v := 14) C (by decide) dX6_less_21 ?_
  refine zv_cv0 (pc := 23) (ws' := (fun uz : zMem => (zd_X6_less cI adM qM1 qM2 qM3 qM4 qM5 qM6 qM7 qM8 qM12 qM13 qM15 qM16 qM17 qM18 qM19 qM20 qM21 uz))) C (zv_runV (As := [.int (24 : Int32), .int (14 : Int32)]) (b := adM) (rest := []) (ci := 5) (q0 := 0) C (zc_X6_copy l G cI adM qM1 qM2 qM3 qM4 qM5 qM6 qM7 qM8 qM12 qM13 qM15 qM16 qM17 qM18 qM19 qM20 qM21 T_1 (24 : Int32) (14 : Int32) _ hF) (cwV 2 C.2.2.2.2.1 gX6_less_X6_copy rfl rfl rfl zy_X6_copy ⟨Nat.le_of_ble_eq_true rfl, Nat.le_of_ble_eq_true rfl⟩) rfl rfl rfl rfl rfl (Nat.le_of_ble_eq_true rfl) ⟨Nat.zero_le _, Nat.zero_le _⟩ dX6_less_23) [0, 1, 2, 3, 4, 5, 6, 7, 8, 9, 10, 11, 12, 13, 14, 15, 16, 17] [] rfl rfl rfl rfl rfl (fun _ => rfl) (fun _ => rfl) (fun _ => rfl) (fun uz hF => ?_)
  obtain ⟨T_2, hE⟩ : ∃ z, z = uz := ⟨_, rfl⟩; subst hE
  refine zv_aload_n (pc := 26) C rfl 0 rfl dX6_less_26 ?_
  refine zv_bipush (pc := 27) (v := 25) C (by decide) dX6_less_27 ?_
  refine zv_bipush (pc := 29) (v := 15) C (by decide) dX6_less_29 ?_
  refine zv_cv0 (pc := 31) (ws' := (fun uz : zMem => (zd_X6_less cI adM qM1 qM2 qM3 qM4 qM5 qM6 qM7 qM8 qM12 qM13 qM15 qM16 qM17 qM18 qM19 qM20 qM21 uz))) C (zv_runV (As := [.int (25 : Int32), .int (15 : Int32)]) (b := adM) (rest := []) (ci := 5) (q0 := 0) C (zc_X6_copy l G cI adM qM1 qM2 qM3 qM4 qM5 qM6 qM7 qM8 qM12 qM13 qM15 qM16 qM17 qM18 qM19 qM20 qM21 T_2 (25 : Int32) (15 : Int32) _ hF) (cwV 2 C.2.2.2.2.1 gX6_less_X6_copy rfl rfl rfl zy_X6_copy ⟨Nat.le_of_ble_eq_true rfl, Nat.le_of_ble_eq_true rfl⟩) rfl rfl rfl rfl rfl (Nat.le_of_ble_eq_true rfl) ⟨Nat.zero_le _, Nat.zero_le _⟩ dX6_less_31) [0, 1, 2, 3, 4, 5, 6, 7, 8, 9, 10, 11, 12, 13, 14, 15, 16, 17] [] rfl rfl rfl rfl rfl (fun _ => rfl) (fun _ => rfl) (fun _ => rfl) (fun uz hF => ?_)
  obtain ⟨T_3, hE⟩ : ∃ z, z = uz := ⟨_, rfl⟩; subst hE
  refine zv_aload_n (pc := 34) C rfl 0 rfl dX6_less_34 ?_
  refine zv_iconst (pc := 35) (v := 1) C (by decide) dX6_less_35 ?_
  refine zv_aload_n (pc := 36) C rfl 0 rfl dX6_less_36 ?_
  refine zv_get (pc := 37) (CC := RX6) (T := TX6) (N := 22) (ci := 5) (v := .int (T_3 9 0)) C zi_X6_less_X6 0 rfl 9 (by decide) zf_X6_less_159 rfl rfl dX6_less_37 ?_
  refine zv_aload_n (pc := 40) C rfl 0 rfl dX6_less_40 ?_
  refine zv_get (pc := 41) (CC := RX6) (T := TX6) (N := 22) (ci := 5) (v := .int (T_3 10 0)) C zi_X6_less_X6 0 rfl 10 (by decide) zf_X6_less_34 rfl rfl dX6_less_41 ?_
  refine zv_cv0 (pc := 44) (ws' := (fun uz : zMem => (zd_X6_less cI adM qM1 qM2 qM3 qM4 qM5 qM6 qM7 qM8 qM12 qM13 qM15 qM16 qM17 qM18 qM19 qM20 qM21 uz))) C (zv_runV (As := [.int (1 : Int32), .int (T_3 9 0), .int (T_3 10 0)]) (b := adM) (rest := []) (ci := 5) (q0 := 0) C (zc_X6_backOf l G cI adM qM1 qM2 qM3 qM4 qM5 qM6 qM7 qM8 qM12 qM13 qM15 qM16 qM17 qM18 qM19 qM20 qM21 T_3 (1 : Int32) (T_3 9 0) (T_3 10 0) _ hF) (cwV 3 C.2.2.2.2.1 gX6_less_X6_backOf rfl rfl rfl zy_X6_backOf ⟨Nat.le_of_ble_eq_true rfl, Nat.le_of_ble_eq_true rfl⟩) rfl rfl rfl rfl rfl (Nat.le_of_ble_eq_true rfl) ⟨Nat.zero_le _, Nat.zero_le _⟩ dX6_less_44) [0, 1, 2, 3, 4, 5, 6, 7, 8, 9, 10, 11, 12, 13, 14, 15, 16, 17] [] rfl rfl rfl rfl rfl (fun _ => rfl) (fun _ => rfl) (fun _ => rfl) (fun uz hF => ?_)
  obtain ⟨T_4, hE⟩ : ∃ z, z = uz := ⟨_, rfl⟩; subst hE
  refine zv_aload_n (pc := 47) C rfl 0 rfl dX6_less_47 ?_
  refine zv_bipush (pc := 48) (v := 24) C (by decide) dX6_less_48 ?_
  refine zv_bipush (pc := 50) (v := 25) C (by decide) dX6_less_50 ?_
  refine zv_ci0 (pc := 52) (ws' := (fun uz : zMem => (zd_X6_less cI adM qM1 qM2 qM3 qM4 qM5 qM6 qM7 qM8 qM12 qM13 qM15 qM16 qM17 qM18 qM19 qM20 qM21 uz))) C (zv_runV (As := [.int (24 : Int32), .int (25 : Int32)]) (b := adM) (rest := []) (ci := 5) (q0 := 0) C (zc_X6_against l G cI adM qM1 qM2 qM3 qM4 qM5 qM6 qM7 qM8 qM12 qM13 qM15 qM16 qM17 qM18 qM19 qM20 qM21 T_4 (24 : Int32) (25 : Int32) _ hF) (cwV 2 C.2.2.2.2.1 gX6_less_X6_against rfl rfl rfl zy_X6_against ⟨Nat.le_of_ble_eq_true rfl, Nat.le_of_ble_eq_true rfl⟩) rfl rfl rfl rfl rfl (Nat.le_of_ble_eq_true rfl) ⟨Nat.zero_le _, Nat.zero_le _⟩ dX6_less_52) [0, 1, 2, 3, 4, 5, 6, 7, 8, 9, 10, 11, 12, 13, 14, 15, 16, 17] [] rfl rfl rfl rfl rfl (fun _ => rfl) (fun _ => rfl) (fun _ => rfl) (fun v_6 uz hF => ?_)
  obtain ⟨T_5, hE⟩ : ∃ z, z = uz := ⟨_, rfl⟩; subst hE
  refine zv_istore_n (pc := 55) (lv' := [(1, .int v_6), (0, .ref adM)]) C rfl (by decide) rfl dX6_less_55 ?_
  refine zv_iload_n (pc := 56) C rfl 0 rfl dX6_less_56 ?_
  refine zv_if_ge (pc := 57) (tgt := 64) C dX6_less_57 (by decide) (fun c_7 => ?_) (fun c_7 => ?_)
  · replace hF := And.left hF c_7
    refine zv_iload_n (pc := 64) C rfl 0 rfl dX6_less_64 ?_
    refine zv_if_le (pc := 65) (tgt := 72) C dX6_less_65 (by decide) (fun c_8 => ?_) (fun c_8 => ?_)
    · replace hF := And.left hF c_8
      refine zv_iconst (pc := 72) (v := -1) C (by decide) dX6_less_72 ?_
      exact zv_iret (pc := 73) C hr hlk (-1 : Int32) T_5 hF rfl dX6_less_73
    · replace hF := And.right hF c_8
      refine zv_iconst (pc := 68) (v := 0) C (by decide) dX6_less_68 ?_
      refine zv_goto (pc := 69) (tgt := 73) C dX6_less_69 (by decide) ?_
      exact zv_iret (pc := 73) C hr hlk (0 : Int32) T_5 hF rfl dX6_less_73
  · replace hF := And.right hF c_7
    refine zv_iconst (pc := 60) (v := 1) C (by decide) dX6_less_60 ?_
    refine zv_goto (pc := 61) (tgt := 73) C dX6_less_61 (by decide) ?_
    exact zv_iret (pc := 73) C hr hlk (1 : Int32) T_5 hF rfl dX6_less_73
theorem zy_X6_extreme : yX6_extreme.cls = RX6 ∧ yX6_extreme.cls ≠ "java/lang/invoke/MethodHandle" ∧ yX6_extreme.cls ≠ "java/lang/invoke/VarHandle" ∧ (parseMethodDescriptor yX6_extreme.desc).map (fun d => d.parameters.length) = some 3 := by decide +kernel
set_option maxHeartbeats 4000000 in
set_option maxRecDepth 100000 in
theorem zl_X6_extreme_42 {p : Program} {l : Launch} {e : Env} {s : State} {m : MethodId} {args : Array Value} {below : List Frame} {meth : Method} {c : Code} {G : va_G} {cI : ClassId} {A : Nat → Prop} {Q : State → Prop} (adM qM1 qM2 qM3 qM4 qM5 qM6 qM7 qM8 qM12 qM13 qM15 qM16 qM17 qM18 qM19 qM20 qM21 : Nat) (c1 : Int32) (c2 : Int32) (c3 : Int32) (K130 : Int32 → zMem → Prop) (C : zv_C p s m args c cX6_extreme 7 RX6 wsX6_extreme G cI A) (hK130 : ∀ (p4 : Int32) (M : zMem), K130 p4 M → zv_V p l e (headSpec wsX6_extreme rmX6_extreme).room s m args below meth c Q G A 7 0 0 (zd_X6_extreme cI adM qM1 qM2 qM3 qM4 qM5 qM6 qM7 qM8 qM12 qM13 qM15 qM16 qM17 qM18 qM19 qM20 qM21 M) 130 [(4, .int p4)] []) : ∀ (k : Nat) (p4 : Int32) (p5 : Int32) (M : zMem), zw_X6_extreme_42 c1 c2 c3 K130 k p4 p5 M → zv_V p l e (headSpec wsX6_extreme rmX6_extreme).room s m args below meth c Q G A 7 0 0 (zd_X6_extreme cI adM qM1 qM2 qM3 qM4 qM5 qM6 qM7 qM8 qM12 qM13 qM15 qM16 qM17 qM18 qM19 qM20 qM21 M) 42 [(0, .ref adM), (1, .int c1), (2, .int c2), (3, .int c3), (4, .int p4), (5, .int p5)] [] := by
  intro k
  induction k with
  | zero => intro p4 p5 M hF; exact (show False from hF).elim
  | succ k ih =>
    intro p4 p5 M hF
    refine zv_iload (pc := 42) C 5 rfl dX6_extreme_42 ?_
    refine zv_iload_n (pc := 44) C rfl 2 rfl dX6_extreme_44 ?_
    refine zv_icmp_gt (pc := 45) (tgt := 130) C dX6_extreme_45 (by decide) (fun c_10 => ?_) (fun c_10 => ?_)
    · replace hF := And.left hF c_10
      exact zv_lvs [4] rfl (hK130 p4 M hF)
    · replace hF := And.right hF c_10
      refine zv_aload_n (pc := 48) C rfl 0 rfl dX6_extreme_48 ?_
      refine zv_iload_n (pc := 49) C rfl 1 rfl dX6_extreme_49 ?_
      refine zv_iload (pc := 50) C 5 rfl dX6_extreme_50 ?_
      refine zv_iload_n (pc := 52) C rfl 2 rfl dX6_extreme_52 ?_
      refine zv_cv0 (pc := 53) (ws' := (fun uz : zMem => (zd_X6_extreme cI adM qM1 qM2 qM3 qM4 qM5 qM6 qM7 qM8 qM12 qM13 qM15 qM16 qM17 qM18 qM19 qM20 qM21 uz))) C (zv_runV (As := [.int c1, .int p5, .int c2]) (b := adM) (rest := []) (ci := 5) (q0 := 0) C (zc_X6_backOf l G cI adM qM1 qM2 qM3 qM4 qM5 qM6 qM7 qM8 qM12 qM13 qM15 qM16 qM17 qM18 qM19 qM20 qM21 M c1 p5 c2 _ hF) (cwV 3 C.2.2.2.2.1 gX6_extreme_X6_backOf rfl rfl rfl zy_X6_backOf ⟨Nat.le_of_ble_eq_true rfl, Nat.le_of_ble_eq_true rfl⟩) rfl rfl rfl rfl rfl (Nat.le_of_ble_eq_true rfl) ⟨Nat.zero_le _, Nat.zero_le _⟩ dX6_extreme_53) [0, 1, 2, 3, 4, 5, 6, 7, 8, 9, 10, 11, 12, 13, 14, 15, 16, 17] [] rfl rfl rfl rfl rfl (fun _ => rfl) (fun _ => rfl) (fun _ => rfl) (fun uz hF => ?_)
      obtain ⟨T_11, hE⟩ : ∃ z, z = uz := ⟨_, rfl⟩; subst hE
      refine zv_iload (pc := 56) C 5 rfl dX6_extreme_56 ?_
      refine zv_iload_n (pc := 58) C rfl 2 rfl dX6_extreme_58 ?_
      refine zv_ineg (pc := 59) C  dX6_extreme_59 ?_
      obtain ⟨KJ_15, h0KJ_15, hF⟩ := hF
      refine zv_join (α := Int32 × zMem) (KK := fun uz => KJ_15 uz.1 uz.2) (wsJ := fun uz => (zd_X6_extreme cI adM qM1 qM2 qM3 qM4 qM5 qM6 qM7 qM8 qM12 qM13 qM15 qM16 qM17 qM18 qM19 qM20 qM21 uz.2)) (pcJ := 75) (lvJ := fun uz => [(0, .ref adM), (1, .int c1), (2, .int c2), (3, .int c3), (4, .int p4), (5, .int p5)]) (stJ := fun uz => [.int uz.1]) ?_ (fun hKJ_15 => ?_)
      · rintro ⟨v_13, T_14⟩ hF
        replace hF := h0KJ_15 v_13 T_14 hF
        refine zv_istore (pc := 75) (lv' := [(6, .int v_13), (0, .ref adM), (1, .int c1), (2, .int c2), (3, .int c3), (4, .int p4), (5, .int p5)]) C (by decide) rfl dX6_extreme_75 ?_
        refine zv_iload (pc := 77) C 6 rfl dX6_extreme_77 ?_
        refine zv_iload_n (pc := 79) C rfl 3 rfl dX6_extreme_79 ?_
        refine zv_ineg (pc := 80) C  dX6_extreme_80 ?_
        refine zv_icmp_le (pc := 81) (tgt := 104) C dX6_extreme_81 (by decide) (fun c_16 => ?_) (fun c_16 => ?_)
        · replace hF := And.left hF c_16
          refine zv_iload (pc := 104) C 6 rfl dX6_extreme_104 ?_
          refine zv_istore (pc := 106) (lv' := [(4, .int p5), (6, .int v_13), (0, .ref adM), (1, .int c1), (2, .int c2), (3, .int c3), (5, .int p5)]) C (by decide) rfl dX6_extreme_106 ?_
          refine zv_aload_n (pc := 108) C rfl 2 rfl dX6_extreme_108 ?_
          refine zv_bipush (pc := 109) (v := 16) C (by decide) dX6_extreme_109 ?_
          refine zv_bipush (pc := 111) (v := 14) C (by decide) dX6_extreme_111 ?_
          refine zv_cv0 (pc := 113) (ws' := (fun uz : zMem => (zd_X6_extreme cI adM qM1 qM2 qM3 qM4 qM5 qM6 qM7 qM8 qM12 qM13 qM15 qM16 qM17 qM18 qM19 qM20 qM21 uz))) C (zv_runV (As := [.int (16 : Int32), .int (14 : Int32)]) (b := adM) (rest := []) (ci := 5) (q0 := 0) C (zc_X6_copy l G cI adM qM1 qM2 qM3 qM4 qM5 qM6 qM7 qM8 qM12 qM13 qM15 qM16 qM17 qM18 qM19 qM20 qM21 T_14 (16 : Int32) (14 : Int32) _ hF) (cwV 2 C.2.2.2.2.1 gX6_extreme_X6_copy rfl rfl rfl zy_X6_copy ⟨Nat.le_of_ble_eq_true rfl, Nat.le_of_ble_eq_true rfl⟩) rfl rfl rfl rfl rfl (Nat.le_of_ble_eq_true rfl) ⟨Nat.zero_le _, Nat.zero_le _⟩ dX6_extreme_113) [0, 1, 2, 3, 4, 5, 6, 7, 8, 9, 10, 11, 12, 13, 14, 15, 16, 17] [] rfl rfl rfl rfl rfl (fun _ => rfl) (fun _ => rfl) (fun _ => rfl) (fun uz hF => ?_)
          obtain ⟨T_17, hE⟩ : ∃ z, z = uz := ⟨_, rfl⟩; subst hE
          refine zv_aload_n (pc := 116) C rfl 2 rfl dX6_extreme_116 ?_
          refine zv_bipush (pc := 117) (v := 17) C (by decide) dX6_extreme_117 ?_
          refine zv_bipush (pc := 119) (v := 15) C (by decide) dX6_extreme_119 ?_
          refine zv_cv0 (pc := 121) (ws' := (fun uz : zMem => (zd_X6_extreme cI adM qM1 qM2 qM3 qM4 qM5 qM6 qM7 qM8 qM12 qM13 qM15 qM16 qM17 qM18 qM19 qM20 qM21 uz))) C (zv_runV (As := [.int (17 : Int32), .int (15 : Int32)]) (b := adM) (rest := []) (ci := 5) (q0 := 0) C (zc_X6_copy l G cI adM qM1 qM2 qM3 qM4 qM5 qM6 qM7 qM8 qM12 qM13 qM15 qM16 qM17 qM18 qM19 qM20 qM21 T_17 (17 : Int32) (15 : Int32) _ hF) (cwV 2 C.2.2.2.2.1 gX6_extreme_X6_copy rfl rfl rfl zy_X6_copy ⟨Nat.le_of_ble_eq_true rfl, Nat.le_of_ble_eq_true rfl⟩) rfl rfl rfl rfl rfl (Nat.le_of_ble_eq_true rfl) ⟨Nat.zero_le _, Nat.zero_le _⟩ dX6_extreme_121) [0, 1, 2, 3, 4, 5, 6, 7, 8, 9, 10, 11, 12, 13, 14, 15, 16, 17] [] rfl rfl rfl rfl rfl (fun _ => rfl) (fun _ => rfl) (fun _ => rfl) (fun uz hF => ?_)
          obtain ⟨T_18, hE⟩ : ∃ z, z = uz := ⟨_, rfl⟩; subst hE
          obtain ⟨x5_19, ex5_19⟩ : ∃ y : Int32, y = p5 + (1 : Int32) := ⟨_, rfl⟩
          replace hF := hF x5_19 ex5_19
          refine zv_iinc (pc := 124) (v := x5_19) (lv' := [(5, .int x5_19), (4, .int p5), (6, .int v_13), (0, .ref adM), (1, .int c1), (2, .int c2), (3, .int c3)]) C 6 rfl (by rw [ex5_19]; rfl) (by decide) rfl dX6_extreme_124 ?_
          refine zv_goto (pc := 127) (tgt := 42) C dX6_extreme_127 (by decide) ?_
          exact zv_lvs [3, 4, 5, 6, 1, 0] rfl (ih p5 x5_19 T_18 hF)
        · replace hF := And.right hF c_16
          refine zv_iload_n (pc := 84) C rfl 4 rfl dX6_extreme_84 ?_
          refine zv_if_eq (pc := 85) (tgt := 96) C dX6_extreme_85 (by decide) (fun c_20 => ?_) (fun c_20 => ?_)
          · replace hF := And.left hF c_20
            refine zv_iload (pc := 96) C 0 rfl dX6_extreme_96 ?_
            refine zv_if_gt (pc := 98) (tgt := 104) C dX6_extreme_98 (by decide) (fun c_21 => ?_) (fun c_21 => ?_)
            · replace hF := And.left hF c_21
              refine zv_iload (pc := 104) C 6 rfl dX6_extreme_104 ?_
              refine zv_istore (pc := 106) (lv' := [(4, .int p5), (6, .int v_13), (0, .ref adM), (1, .int c1), (2, .int c2), (3, .int c3), (5, .int p5)]) C (by decide) rfl dX6_extreme_106 ?_
              refine zv_aload_n (pc := 108) C rfl 2 rfl dX6_extreme_108 ?_
              refine zv_bipush (pc := 109) (v := 16) C (by decide) dX6_extreme_109 ?_
              refine zv_bipush (pc := 111) (v := 14) C (by decide) dX6_extreme_111 ?_
              refine zv_cv0 (pc := 113) (ws' := (fun uz : zMem => (zd_X6_extreme cI adM qM1 qM2 qM3 qM4 qM5 qM6 qM7 qM8 qM12 qM13 qM15 qM16 qM17 qM18 qM19 qM20 qM21 uz))) C (zv_runV (As := [.int (16 : Int32), .int (14 : Int32)]) (b := adM) (rest := []) (ci := 5) (q0 := 0) C (zc_X6_copy l G cI adM qM1 qM2 qM3 qM4 qM5 qM6 qM7 qM8 qM12 qM13 qM15 qM16 qM17 qM18 qM19 qM20 qM21 T_14 (16 : Int32) (14 : Int32) _ hF) (cwV 2 C.2.2.2.2.1 gX6_extreme_X6_copy rfl rfl rfl zy_X6_copy ⟨Nat.le_of_ble_eq_true rfl, Nat.le_of_ble_eq_true rfl⟩) rfl rfl rfl rfl rfl (Nat.le_of_ble_eq_true rfl) ⟨Nat.zero_le _, Nat.zero_le _⟩ dX6_extreme_113) [0, 1, 2, 3, 4, 5, 6, 7, 8, 9, 10, 11, 12, 13, 14, 15, 16, 17] [] rfl rfl rfl rfl rfl (fun _ => rfl) (fun _ => rfl) (fun _ => rfl) (fun uz hF => ?_)
              obtain ⟨T_22, hE⟩ : ∃ z, z = uz := ⟨_, rfl⟩; subst hE
              refine zv_aload_n (pc := 116) C rfl 2 rfl dX6_extreme_116 ?_
              refine zv_bipush (pc := 117) (v := 17) C (by decide) dX6_extreme_117 ?_
              refine zv_bipush (pc := 119) (v := 15) C (by decide) dX6_extreme_119 ?_
              refine zv_cv0 (pc := 121) (ws' := (fun uz : zMem => (zd_X6_extreme cI adM qM1 qM2 qM3 qM4 qM5 qM6 qM7 qM8 qM12 qM13 qM15 qM16 qM17 qM18 qM19 qM20 qM21 uz))) C (zv_runV (As := [.int (17 : Int32), .int (15 : Int32)]) (b := adM) (rest := []) (ci := 5) (q0 := 0) C (zc_X6_copy l G cI adM qM1 qM2 qM3 qM4 qM5 qM6 qM7 qM8 qM12 qM13 qM15 qM16 qM17 qM18 qM19 qM20 qM21 T_22 (17 : Int32) (15 : Int32) _ hF) (cwV 2 C.2.2.2.2.1 gX6_extreme_X6_copy rfl rfl rfl zy_X6_copy ⟨Nat.le_of_ble_eq_true rfl, Nat.le_of_ble_eq_true rfl⟩) rfl rfl rfl rfl rfl (Nat.le_of_ble_eq_true rfl) ⟨Nat.zero_le _, Nat.zero_le _⟩ dX6_extreme_121) [0, 1, 2, 3, 4, 5, 6, 7, 8, 9, 10, 11, 12, 13, 14, 15, 16, 17] [] rfl rfl rfl rfl rfl (fun _ => rfl) (fun _ => rfl) (fun _ => rfl) (fun uz hF => ?_)
              obtain ⟨T_23, hE⟩ : ∃ z, z = uz := ⟨_, rfl⟩; subst hE
              obtain ⟨x5_24, ex5_24⟩ : ∃ y : Int32, y = p5 + (1 : Int32) := ⟨_, rfl⟩
              replace hF := hF x5_24 ex5_24
              refine zv_iinc (pc := 124) (v := x5_24) (lv' := [(5, .int x5_24), (4, .int p5), (6, .int v_13), (0, .ref adM), (1, .int c1), (2, .int c2), (3, .int c3)]) C 6 rfl (by rw [ex5_24]; rfl) (by decide) rfl dX6_extreme_124 ?_
              refine zv_goto (pc := 127) (tgt := 42) C dX6_extreme_127 (by decide) ?_
              exact zv_lvs [3, 4, 5, 6, 1, 0] rfl (ih p5 x5_24 T_23 hF)
            · replace hF := And.right hF c_21
              refine zv_goto (pc := 101) (tgt := 124) C dX6_extreme_101 (by decide) ?_
              obtain ⟨x5_25, ex5_25⟩ : ∃ y : Int32, y = p5 + (1 : Int32) := ⟨_, rfl⟩
              replace hF := hF x5_25 ex5_25
              refine zv_iinc (pc := 124) (v := x5_25) (lv' := [(5, .int x5_25), (6, .int v_13), (0, .ref adM), (1, .int c1), (2, .int c2), (3, .int c3), (4, .int p4)]) C 6 rfl (by rw [ex5_25]; rfl) (by decide) rfl dX6_extreme_124 ?_
              refine zv_goto (pc := 127) (tgt := 42) C dX6_extreme_127 (by decide) ?_
              exact zv_lvs [2, 3, 4, 5, 6, 0] rfl (ih p4 x5_25 T_14 hF)
          · replace hF := And.right hF c_20
            refine zv_iload (pc := 88) C 0 rfl dX6_extreme_88 ?_
            refine zv_if_lt (pc := 90) (tgt := 104) C dX6_extreme_90 (by decide) (fun c_26 => ?_) (fun c_26 => ?_)
            · replace hF := And.left hF c_26
              refine zv_iload (pc := 104) C 6 rfl dX6_extreme_104 ?_
              refine zv_istore (pc := 106) (lv' := [(4, .int p5), (6, .int v_13), (0, .ref adM), (1, .int c1), (2, .int c2), (3, .int c3), (5, .int p5)]) C (by decide) rfl dX6_extreme_106 ?_
              refine zv_aload_n (pc := 108) C rfl 2 rfl dX6_extreme_108 ?_
              refine zv_bipush (pc := 109) (v := 16) C (by decide) dX6_extreme_109 ?_
              refine zv_bipush (pc := 111) (v := 14) C (by decide) dX6_extreme_111 ?_
              refine zv_cv0 (pc := 113) (ws' := (fun uz : zMem => (zd_X6_extreme cI adM qM1 qM2 qM3 qM4 qM5 qM6 qM7 qM8 qM12 qM13 qM15 qM16 qM17 qM18 qM19 qM20 qM21 uz))) C (zv_runV (As := [.int (16 : Int32), .int (14 : Int32)]) (b := adM) (rest := []) (ci := 5) (q0 := 0) C (zc_X6_copy l G cI adM qM1 qM2 qM3 qM4 qM5 qM6 qM7 qM8 qM12 qM13 qM15 qM16 qM17 qM18 qM19 qM20 qM21 T_14 (16 : Int32) (14 : Int32) _ hF) (cwV 2 C.2.2.2.2.1 gX6_extreme_X6_copy rfl rfl rfl zy_X6_copy ⟨Nat.le_of_ble_eq_true rfl, Nat.le_of_ble_eq_true rfl⟩) rfl rfl rfl rfl rfl (Nat.le_of_ble_eq_true rfl) ⟨Nat.zero_le _, Nat.zero_le _⟩ dX6_extreme_113) [0, 1, 2, 3, 4, 5, 6, 7, 8, 9, 10, 11, 12, 13, 14, 15, 16, 17] [] rfl rfl rfl rfl rfl (fun _ => rfl) (fun _ => rfl) (fun _ => rfl) (fun uz hF => ?_)
              obtain ⟨T_27, hE⟩ : ∃ z, z = uz := ⟨_, rfl⟩; subst hE
              refine zv_aload_n (pc := 116) C rfl 2 rfl dX6_extreme_116 ?_
              refine zv_bipush (pc := 117) (v := 17) C (by decide) dX6_extreme_117 ?_
              refine zv_bipush (pc := 119) (v := 15) C (by decide) dX6_extreme_119 ?_
              refine zv_cv0 (pc := 121) (ws' := (fun uz : zMem => (zd_X6_extreme cI adM qM1 qM2 qM3 qM4 qM5 qM6 qM7 qM8 qM12 qM13 qM15 qM16 qM17 qM18 qM19 qM20 qM21 uz))) C (zv_runV (As := [.int (17 : Int32), .int (15 : Int32)]) (b := adM) (rest := []) (ci := 5) (q0 := 0) C (zc_X6_copy l G cI adM qM1 qM2 qM3 qM4 qM5 qM6 qM7 qM8 qM12 qM13 qM15 qM16 qM17 qM18 qM19 qM20 qM21 T_27 (17 : Int32) (15 : Int32) _ hF) (cwV 2 C.2.2.2.2.1 gX6_extreme_X6_copy rfl rfl rfl zy_X6_copy ⟨Nat.le_of_ble_eq_true rfl, Nat.le_of_ble_eq_true rfl⟩) rfl rfl rfl rfl rfl (Nat.le_of_ble_eq_true rfl) ⟨Nat.zero_le _, Nat.zero_le _⟩ dX6_extreme_121) [0, 1, 2, 3, 4, 5, 6, 7, 8, 9, 10, 11, 12, 13, 14, 15, 16, 17] [] rfl rfl rfl rfl rfl (fun _ => rfl) (fun _ => rfl) (fun _ => rfl) (fun uz hF => ?_)
              obtain ⟨T_28, hE⟩ : ∃ z, z = uz := ⟨_, rfl⟩; subst hE
              obtain ⟨x5_29, ex5_29⟩ : ∃ y : Int32, y = p5 + (1 : Int32) := ⟨_, rfl⟩
              replace hF := hF x5_29 ex5_29
              refine zv_iinc (pc := 124) (v := x5_29) (lv' := [(5, .int x5_29), (4, .int p5), (6, .int v_13), (0, .ref adM), (1, .int c1), (2, .int c2), (3, .int c3)]) C 6 rfl (by rw [ex5_29]; rfl) (by decide) rfl dX6_extreme_124 ?_
              refine zv_goto (pc := 127) (tgt := 42) C dX6_extreme_127 (by decide) ?_
              exact zv_lvs [3, 4, 5, 6, 1, 0] rfl (ih p5 x5_29 T_28 hF)
            · replace hF := And.right hF c_26
              refine zv_goto (pc := 93) (tgt := 124) C dX6_extreme_93 (by decide) ?_
              obtain ⟨x5_30, ex5_30⟩ : ∃ y : Int32, y = p5 + (1 : Int32) := ⟨_, rfl⟩
              replace hF := hF x5_30 ex5_30
              refine zv_iinc (pc := 124) (v := x5_30) (lv' := [(5, .int x5_30), (6, .int v_13), (0, .ref adM), (1, .int c1), (2, .int c2), (3, .int c3), (4, .int p4)]) C 6 rfl (by rw [ex5_30]; rfl) (by decide) rfl dX6_extreme_124 ?_
              refine zv_goto (pc := 127) (tgt := 42) C dX6_extreme_127 (by decide) ?_
              exact zv_lvs [2, 3, 4, 5, 6, 0] rfl (ih p4 x5_30 T_14 hF)
      · skip
        refine zv_icmp_ne (pc := 60) (tgt := 67) C dX6_extreme_60 (by decide) (fun c_12 => ?_) (fun c_12 => ?_)
        · replace hF := And.left hF c_12
          refine zv_aload_n (pc := 67) C rfl 0 rfl dX6_extreme_67 ?_
          refine zv_bipush (pc := 68) (v := 16) C (by decide) dX6_extreme_68 ?_
          refine zv_bipush (pc := 70) (v := 17) C (by decide) dX6_extreme_70 ?_
          refine zv_ci0 (pc := 72) (ws' := (fun uz : zMem => (zd_X6_extreme cI adM qM1 qM2 qM3 qM4 qM5 qM6 qM7 qM8 qM12 qM13 qM15 qM16 qM17 qM18 qM19 qM20 qM21 uz))) C (zv_runV (As := [.int (16 : Int32), .int (17 : Int32)]) (b := adM) (rest := []) (ci := 5) (q0 := 0) C (zc_X6_against l G cI adM qM1 qM2 qM3 qM4 qM5 qM6 qM7 qM8 qM12 qM13 qM15 qM16 qM17 qM18 qM19 qM20 qM21 T_11 (16 : Int32) (17 : Int32) _ hF) (cwV 2 C.2.2.2.2.1 gX6_extreme_X6_against rfl rfl rfl zy_X6_against ⟨Nat.le_of_ble_eq_true rfl, Nat.le_of_ble_eq_true rfl⟩) rfl rfl rfl rfl rfl (Nat.le_of_ble_eq_true rfl) ⟨Nat.zero_le _, Nat.zero_le _⟩ dX6_extreme_72) [0, 1, 2, 3, 4, 5, 6, 7, 8, 9, 10, 11, 12, 13, 14, 15, 16, 17] [] rfl rfl rfl rfl rfl (fun _ => rfl) (fun _ => rfl) (fun _ => rfl) (fun v_32 uz hF => ?_)
          obtain ⟨T_31, hE⟩ : ∃ z, z = uz := ⟨_, rfl⟩; subst hE
          exact zv_lvs [0, 1, 2, 3, 4, 5] rfl (hKJ_15 (v_32, T_31) hF)
        · replace hF := And.right hF c_12
          refine zv_iconst (pc := 63) (v := 0) C (by decide) dX6_extreme_63 ?_
          refine zv_goto (pc := 64) (tgt := 75) C dX6_extreme_64 (by decide) ?_
          exact zv_lvs [0, 1, 2, 3, 4, 5] rfl (hKJ_15 ((0 : Int32), T_11) hF)
set_option maxHeartbeats 4000000 in
set_option maxRecDepth 100000 in
theorem zc_X6_extreme (l : Launch) (G : va_G) (cI : ClassId) (adM qM1 qM2 qM3 qM4 qM5 qM6 qM7 qM8 qM12 qM13 qM15 qM16 qM17 qM18 qM19 qM20 qM21 : Nat) (M : zMem) (a1 : Int32) (a2 : Int32) (a3 : Int32) (post : Int32 → zMem → Prop) (hF : zw_X6_extreme M a1 a2 a3 post) (sz : Nat) : Met l yX6_extreme wsX6_extreme rmX6_extreme (va_Pc [.ref adM, .int a1, .int a2, .int a3] (zv_in G cI (zd_X6_extreme cI adM qM1 qM2 qM3 qM4 qM5 qM6 qM7 qM8 qM12 qM13 qM15 qM16 qM17 qM18 qM19 qM20 qM21 M) sz)) (va_Qi (fun (rz : Int32) (uz : zMem) => post rz uz) (fun (uz : zMem) t => zv_out G cI (va_A (zd_X6_extreme cI adM qM1 qM2 qM3 qM4 qM5 qM6 qM7 qM8 qM12 qM13 qM15 qM16 qM17 qM18 qM19 qM20 qM21 M) sz) (zd_X6_extreme cI adM qM1 qM2 qM3 qM4 qM5 qM6 qM7 qM8 qM12 qM13 qM15 qM16 qM17 qM18 qM19 qM20 qM21 uz) t) (va_A (zd_X6_extreme cI adM qM1 qM2 qM3 qM4 qM5 qM6 qM7 qM8 qM12 qM13 qM15 qM16 qM17 qM18 qM19 qM20 qM21 M) sz)) 0 0 (va_A (zd_X6_extreme cI adM qM1 qM2 qM3 qM4 qM5 qM6 qM7 qM8 qM12 qM13 qM15 qM16 qM17 qM18 qM19 qM20 qM21 M) sz) := by
  refine zv_met (cc := cX6_extreme) (maxL := 7) (ret := (some .int)) (lv0 := [(0, .ref adM), (1, .int a1), (2, .int a2), (3, .int a3)]) (Qc := fun A => va_Qi (fun (rz : Int32) (uz : zMem) => post rz uz) (fun (uz : zMem) t => zv_out G cI A (zd_X6_extreme cI adM qM1 qM2 qM3 qM4 qM5 qM6 qM7 qM8 qM12 qM13 qM15 qM16 qM17 qM18 qM19 qM20 qM21 uz) t) A) (by decide) rfl (Nat.le_of_ble_eq_true rfl) rfl ?_ sz
  intro p e s m below meth c A C hr hlk
  clear sz
  refine zv_aload_n (pc := 0) C rfl 0 rfl dX6_extreme_0 ?_
  refine zv_iload_n (pc := 1) C rfl 1 rfl dX6_extreme_1 ?_
  refine zv_ci0 (pc := 2) (ws' := (fun uz : zMem => (zd_X6_extreme cI adM qM1 qM2 qM3 qM4 qM5 qM6 qM7 qM8 qM12 qM13 qM15 qM16 qM17 qM18 qM19 qM20 qM21 uz))) C (zv_runV (As := [.int a1]) (b := adM) (rest := []) (ci := 5) (q0 := 0) C (zc_X6_isStack l G cI adM qM1 qM2 qM3 qM4 qM5 qM6 qM7 qM8 qM12 qM13 qM15 qM16 qM17 qM18 qM19 qM20 qM21 M a1 _ hF) (cwV 1 C.2.2.2.2.1 gX6_extreme_X6_isStack rfl rfl rfl zy_X6_isStack ⟨Nat.le_of_ble_eq_true rfl, Nat.le_of_ble_eq_true rfl⟩) rfl rfl rfl rfl rfl (Nat.le_of_ble_eq_true rfl) ⟨Nat.zero_le _, Nat.zero_le _⟩ dX6_extreme_2) [0, 1, 2, 3, 4, 5, 6, 7, 8, 9, 10, 11, 12, 13, 14, 15, 16, 17] [] rfl rfl rfl rfl rfl (fun _ => rfl) (fun _ => rfl) (fun _ => rfl) (fun v_2 uz hF => ?_)
  obtain ⟨T_1, hE⟩ : ∃ z, z = uz := ⟨_, rfl⟩; subst hE
  refine zv_if_eq (pc := 5) (tgt := 32) C dX6_extreme_5 (by decide) (fun c_3 => ?_) (fun c_3 => ?_)
  · replace hF := And.left hF c_3
    refine zv_iconst (pc := 32) (v := 0) C (by decide) dX6_extreme_32 ?_
    exact zv_iret (pc := 33) C hr hlk (0 : Int32) T_1 hF rfl dX6_extreme_33
  · replace hF := And.right hF c_3
    refine zv_aload_n (pc := 8) C rfl 0 rfl dX6_extreme_8 ?_
    refine zv_iload_n (pc := 9) C rfl 2 rfl dX6_extreme_9 ?_
    refine zv_iconst (pc := 10) (v := 1) C (by decide) dX6_extreme_10 ?_
    refine zv_icmp_lt (pc := 11) (tgt := 24) C dX6_extreme_11 (by decide) (fun c_4 => ?_) (fun c_4 => ?_)
    · replace hF := And.left hF c_4
      refine zv_iconst (pc := 24) (v := 0) C (by decide) dX6_extreme_24 ?_
      refine zv_iconst (pc := 25) (v := 2) C (by decide) dX6_extreme_25 ?_
      refine zv_ci0 (pc := 26) (ws' := (fun uz : zMem => (zd_X6_extreme cI adM qM1 qM2 qM3 qM4 qM5 qM6 qM7 qM8 qM12 qM13 qM15 qM16 qM17 qM18 qM19 qM20 qM21 uz))) C (zv_runV (As := [.int (0 : Int32), .int (2 : Int32)]) (b := adM) (rest := []) (ci := 5) (q0 := 0) C (zc_X6_right l G cI adM qM1 qM2 qM3 qM4 qM5 qM6 qM7 qM8 qM12 qM13 qM15 qM16 qM17 qM18 qM19 qM20 qM21 T_1 (0 : Int32) (2 : Int32) _ hF) (cwV 2 C.2.2.2.2.1 gX6_extreme_X6_right rfl rfl rfl zy_X6_right ⟨Nat.le_of_ble_eq_true rfl, Nat.le_of_ble_eq_true rfl⟩) rfl rfl rfl rfl rfl (Nat.le_of_ble_eq_true rfl) ⟨Nat.zero_le _, Nat.zero_le _⟩ dX6_extreme_26) [0, 1, 2, 3, 4, 5, 6, 7, 8, 9, 10, 11, 12, 13, 14, 15, 16, 17] [] rfl rfl rfl rfl rfl (fun _ => rfl) (fun _ => rfl) (fun _ => rfl) (fun v_6 uz hF => ?_)
      obtain ⟨T_5, hE⟩ : ∃ z, z = uz := ⟨_, rfl⟩; subst hE
      refine zv_if_ne (pc := 29) (tgt := 34) C dX6_extreme_29 (by decide) (fun c_7 => ?_) (fun c_7 => ?_)
      · replace hF := And.left hF c_7
        refine zv_iload_n (pc := 34) C rfl 2 rfl dX6_extreme_34 ?_
        refine zv_ineg (pc := 35) C  dX6_extreme_35 ?_
        refine zv_topi (fun x4_8 ex4_8 => ?_)
        replace hF := hF x4_8 ex4_8
        refine zv_istore (pc := 36) (lv' := [(4, .int x4_8), (0, .ref adM), (1, .int a1), (2, .int a2), (3, .int a3)]) C (by decide) rfl dX6_extreme_36 ?_
        refine zv_iload_n (pc := 38) C rfl 3 rfl dX6_extreme_38 ?_
        refine zv_ineg (pc := 39) C  dX6_extreme_39 ?_
        refine zv_topi (fun x5_9 ex5_9 => ?_)
        replace hF := hF x5_9 ex5_9
        refine zv_istore (pc := 40) (lv' := [(5, .int x5_9), (4, .int x4_8), (0, .ref adM), (1, .int a1), (2, .int a2), (3, .int a3)]) C (by decide) rfl dX6_extreme_40 ?_
        obtain ⟨kf, hF⟩ := hF
        refine zv_lvs [2, 3, 4, 5, 1, 0] rfl (zl_X6_extreme_42 adM qM1 qM2 qM3 qM4 qM5 qM6 qM7 qM8 qM12 qM13 qM15 qM16 qM17 qM18 qM19 qM20 qM21 a1 a2 a3 _ C ?_ kf x4_8 x5_9 T_5 hF)
        · intro x4_33 T_34 hF
          refine zv_iload (pc := 130) C 0 rfl dX6_extreme_130 ?_
          exact zv_iret (pc := 132) C hr hlk x4_33 T_34 hF rfl dX6_extreme_132
      · replace hF := And.right hF c_7
        refine zv_iconst (pc := 32) (v := 0) C (by decide) dX6_extreme_32 ?_
        exact zv_iret (pc := 33) C hr hlk (0 : Int32) T_5 hF rfl dX6_extreme_33
    · replace hF := And.right hF c_4
      refine zv_iload_n (pc := 14) C rfl 2 rfl dX6_extreme_14 ?_
      refine zv_bipush (pc := 15) (v := 25) C (by decide) dX6_extreme_15 ?_
      obtain ⟨KJ_37, h0KJ_37, hF⟩ := hF
      refine zv_join (α := Int32) (KK := fun uz => KJ_37 uz) (wsJ := fun uz => (zd_X6_extreme cI adM qM1 qM2 qM3 qM4 qM5 qM6 qM7 qM8 qM12 qM13 qM15 qM16 qM17 qM18 qM19 qM20 qM21 T_1)) (pcJ := 25) (lvJ := fun uz => [(0, .ref adM), (1, .int a1), (2, .int a2), (3, .int a3)]) (stJ := fun uz => [.int uz, .ref adM]) ?_ (fun hKJ_37 => ?_)
      · rintro v_36 hF
        replace hF := h0KJ_37 v_36 hF
        refine zv_iconst (pc := 25) (v := 2) C (by decide) dX6_extreme_25 ?_
        refine zv_ci0 (pc := 26) (ws' := (fun uz : zMem => (zd_X6_extreme cI adM qM1 qM2 qM3 qM4 qM5 qM6 qM7 qM8 qM12 qM13 qM15 qM16 qM17 qM18 qM19 qM20 qM21 uz))) C (zv_runV (As := [.int v_36, .int (2 : Int32)]) (b := adM) (rest := []) (ci := 5) (q0 := 0) C (zc_X6_right l G cI adM qM1 qM2 qM3 qM4 qM5 qM6 qM7 qM8 qM12 qM13 qM15 qM16 qM17 qM18 qM19 qM20 qM21 T_1 v_36 (2 : Int32) _ hF) (cwV 2 C.2.2.2.2.1 gX6_extreme_X6_right rfl rfl rfl zy_X6_right ⟨Nat.le_of_ble_eq_true rfl, Nat.le_of_ble_eq_true rfl⟩) rfl rfl rfl rfl rfl (Nat.le_of_ble_eq_true rfl) ⟨Nat.zero_le _, Nat.zero_le _⟩ dX6_extreme_26) [0, 1, 2, 3, 4, 5, 6, 7, 8, 9, 10, 11, 12, 13, 14, 15, 16, 17] [] rfl rfl rfl rfl rfl (fun _ => rfl) (fun _ => rfl) (fun _ => rfl) (fun v_39 uz hF => ?_)
        obtain ⟨T_38, hE⟩ : ∃ z, z = uz := ⟨_, rfl⟩; subst hE
        refine zv_if_ne (pc := 29) (tgt := 34) C dX6_extreme_29 (by decide) (fun c_40 => ?_) (fun c_40 => ?_)
        · replace hF := And.left hF c_40
          refine zv_iload_n (pc := 34) C rfl 2 rfl dX6_extreme_34 ?_
          refine zv_ineg (pc := 35) C  dX6_extreme_35 ?_
          refine zv_topi (fun x4_41 ex4_41 => ?_)
          replace hF := hF x4_41 ex4_41
          refine zv_istore (pc := 36) (lv' := [(4, .int x4_41), (0, .ref adM), (1, .int a1), (2, .int a2), (3, .int a3)]) C (by decide) rfl dX6_extreme_36 ?_
          refine zv_iload_n (pc := 38) C rfl 3 rfl dX6_extreme_38 ?_
          refine zv_ineg (pc := 39) C  dX6_extreme_39 ?_
          refine zv_topi (fun x5_42 ex5_42 => ?_)
          replace hF := hF x5_42 ex5_42
          refine zv_istore (pc := 40) (lv' := [(5, .int x5_42), (4, .int x4_41), (0, .ref adM), (1, .int a1), (2, .int a2), (3, .int a3)]) C (by decide) rfl dX6_extreme_40 ?_
          obtain ⟨kf, hF⟩ := hF
          refine zv_lvs [2, 3, 4, 5, 1, 0] rfl (zl_X6_extreme_42 adM qM1 qM2 qM3 qM4 qM5 qM6 qM7 qM8 qM12 qM13 qM15 qM16 qM17 qM18 qM19 qM20 qM21 a1 a2 a3 _ C ?_ kf x4_41 x5_42 T_38 hF)
          · intro x4_43 T_44 hF
            refine zv_iload (pc := 130) C 0 rfl dX6_extreme_130 ?_
            exact zv_iret (pc := 132) C hr hlk x4_43 T_44 hF rfl dX6_extreme_132
        · replace hF := And.right hF c_40
          refine zv_iconst (pc := 32) (v := 0) C (by decide) dX6_extreme_32 ?_
          exact zv_iret (pc := 33) C hr hlk (0 : Int32) T_38 hF rfl dX6_extreme_33
      · skip
        refine zv_icmp_gt (pc := 17) (tgt := 24) C dX6_extreme_17 (by decide) (fun c_35 => ?_) (fun c_35 => ?_)
        · replace hF := And.left hF c_35
          refine zv_iconst (pc := 24) (v := 0) C (by decide) dX6_extreme_24 ?_
          exact zv_lvs [0, 1, 2, 3] rfl (hKJ_37 (0 : Int32) hF)
        · replace hF := And.right hF c_35
          refine zv_iconst (pc := 20) (v := 1) C (by decide) dX6_extreme_20 ?_
          refine zv_goto (pc := 21) (tgt := 25) C dX6_extreme_21 (by decide) ?_
          exact zv_lvs [0, 1, 2, 3] rfl (hKJ_37 (1 : Int32) hF)
theorem zf_X6_same_13 : Cond.fieldLink RX6 13 "GlassStackModel" "airLow" "[I" ∈ wsX6_same := (List.mem_of_getElem? (i := 3) rfl)
theorem zf_X6_same_16 : Cond.fieldLink RX6 16 "GlassStackModel" "groundUp" "[I" ∈ wsX6_same := (List.mem_of_getElem? (i := 4) rfl)
theorem zf_X6_same_19 : Cond.fieldLink RX6 19 "GlassStackModel" "groundLow" "[I" ∈ wsX6_same := (List.mem_of_getElem? (i := 5) rfl)
theorem zf_X6_same_65 : Cond.fieldLink RX6 65 "GlassStackModel" "thrown" "I" ∈ wsX6_same := (List.mem_of_getElem? (i := 1) rfl)
theorem zf_X6_same_7 : Cond.fieldLink RX6 7 "GlassStackModel" "airUp" "[I" ∈ wsX6_same := (List.mem_of_getElem? (i := 2) rfl)
theorem zi_X6_same_X6 : ∀ w ∈ wsX60, w ∈ wsX6_same := fun w h => List.mem_cons_of_mem _ (List.mem_append_right _ h)
theorem zy_X6_same : yX6_same.cls = RX6 ∧ yX6_same.cls ≠ "java/lang/invoke/MethodHandle" ∧ yX6_same.cls ≠ "java/lang/invoke/VarHandle" ∧ (parseMethodDescriptor yX6_same.desc).map (fun d => d.parameters.length) = some 0 := by decide +kernel
set_option maxHeartbeats 4000000 in
set_option maxRecDepth 100000 in
theorem zl_X6_same_74 {p : Program} {l : Launch} {e : Env} {s : State} {m : MethodId} {args : Array Value} {below : List Frame} {meth : Method} {c : Code} {G : va_G} {cI : ClassId} {A : Nat → Prop} {Q : State → Prop} (adM qM1 qM2 qM3 qM4 qM5 qM6 qM7 qM8 qM12 qM13 qM15 qM16 qM17 qM18 qM19 qM20 qM21 : Nat) (K139 : Int32 → zMem → Prop) (C : zv_C p s m args c cX6_same 3 RX6 wsX6_same G cI A) (hK139 : ∀ (p1 : Int32) (M : zMem), K139 p1 M → zv_V p l e (headSpec wsX6_same rmX6_same).room s m args below meth c Q G A 3 0 0 (zd_X6_same cI adM qM1 qM2 qM3 qM4 qM5 qM6 qM7 qM8 qM12 qM13 qM15 qM16 qM17 qM18 qM19 qM20 qM21 M) 139 [(1, .int p1)] []) : ∀ (k : Nat) (p1 : Int32) (p2 : Int32) (M : zMem), zw_X6_same_74 K139 k p1 p2 M → zv_V p l e (headSpec wsX6_same rmX6_same).room s m args below meth c Q G A 3 0 0 (zd_X6_same cI adM qM1 qM2 qM3 qM4 qM5 qM6 qM7 qM8 qM12 qM13 qM15 qM16 qM17 qM18 qM19 qM20 qM21 M) 74 [(0, .ref adM), (1, .int p1), (2, .int p2)] [] := by
  intro k
  induction k with
  | zero => intro p1 p2 M hF; exact (show False from hF).elim
  | succ k ih =>
    intro p1 p2 M hF
    refine zv_iload_n (pc := 74) C rfl 2 rfl dX6_same_74 ?_
    refine zv_bipush (pc := 75) (v := 49) C (by decide) dX6_same_75 ?_
    refine zv_icmp_gt (pc := 77) (tgt := 139) C dX6_same_77 (by decide) (fun c_4 => ?_) (fun c_4 => ?_)
    · replace hF := And.left hF c_4
      exact zv_lvs [1] rfl (hK139 p1 M hF)
    · replace hF := And.right hF c_4
      refine zv_iload_n (pc := 80) C rfl 1 rfl dX6_same_80 ?_
      refine zv_if_eq (pc := 81) (tgt := 139) C dX6_same_81 (by decide) (fun c_5 => ?_) (fun c_5 => ?_)
      · replace hF := And.left hF c_5
        exact zv_lvs [1] rfl (hK139 p1 M hF)
      · replace hF := And.right hF c_5
        refine zv_aload_n (pc := 84) C rfl 0 rfl dX6_same_84 ?_
        refine zv_iconst (pc := 85) (v := 0) C (by decide) dX6_same_85 ?_
        refine zv_iload_n (pc := 86) C rfl 2 rfl dX6_same_86 ?_
        refine zv_bipush (pc := 87) (v := 49) C (by decide) dX6_same_87 ?_
        refine zv_cv0 (pc := 89) (ws' := (fun uz : zMem => (zd_X6_same cI adM qM1 qM2 qM3 qM4 qM5 qM6 qM7 qM8 qM12 qM13 qM15 qM16 qM17 qM18 qM19 qM20 qM21 uz))) C (zv_runV (As := [.int (0 : Int32), .int p2, .int (49 : Int32)]) (b := adM) (rest := []) (ci := 5) (q0 := 0) C (zc_X6_backOf l G cI adM qM1 qM2 qM3 qM4 qM5 qM6 qM7 qM8 qM12 qM13 qM15 qM16 qM17 qM18 qM19 qM20 qM21 M (0 : Int32) p2 (49 : Int32) _ hF) (cwV 3 C.2.2.2.2.1 gX6_same_X6_backOf rfl rfl rfl zy_X6_backOf ⟨Nat.le_of_ble_eq_true rfl, Nat.le_of_ble_eq_true rfl⟩) rfl rfl rfl rfl rfl (Nat.le_of_ble_eq_true rfl) ⟨Nat.zero_le _, Nat.zero_le _⟩ dX6_same_89) [0, 1, 2, 3, 4, 5, 6, 7, 8, 9, 10, 11, 12, 13, 14, 15, 16, 17] [] rfl rfl rfl rfl rfl (fun _ => rfl) (fun _ => rfl) (fun _ => rfl) (fun uz hF => ?_)
        obtain ⟨T_6, hE⟩ : ∃ z, z = uz := ⟨_, rfl⟩; subst hE
        refine zv_aload_n (pc := 92) C rfl 0 rfl dX6_same_92 ?_
        refine zv_bipush (pc := 93) (v := 24) C (by decide) dX6_same_93 ?_
        refine zv_bipush (pc := 95) (v := 14) C (by decide) dX6_same_95 ?_
        refine zv_cv0 (pc := 97) (ws' := (fun uz : zMem => (zd_X6_same cI adM qM1 qM2 qM3 qM4 qM5 qM6 qM7 qM8 qM12 qM13 qM15 qM16 qM17 qM18 qM19 qM20 qM21 uz))) C (zv_runV (As := [.int (24 : Int32), .int (14 : Int32)]) (b := adM) (rest := []) (ci := 5) (q0 := 0) C (zc_X6_copy l G cI adM qM1 qM2 qM3 qM4 qM5 qM6 qM7 qM8 qM12 qM13 qM15 qM16 qM17 qM18 qM19 qM20 qM21 T_6 (24 : Int32) (14 : Int32) _ hF) (cwV 2 C.2.2.2.2.1 gX6_same_X6_copy rfl rfl rfl zy_X6_copy ⟨Nat.le_of_ble_eq_true rfl, Nat.le_of_ble_eq_true rfl⟩) rfl rfl rfl rfl rfl (Nat.le_of_ble_eq_true rfl) ⟨Nat.zero_le _, Nat.zero_le _⟩ dX6_same_97) [0, 1, 2, 3, 4, 5, 6, 7, 8, 9, 10, 11, 12, 13, 14, 15, 16, 17] [] rfl rfl rfl rfl rfl (fun _ => rfl) (fun _ => rfl) (fun _ => rfl) (fun uz hF => ?_)
        obtain ⟨T_7, hE⟩ : ∃ z, z = uz := ⟨_, rfl⟩; subst hE
        refine zv_aload_n (pc := 100) C rfl 0 rfl dX6_same_100 ?_
        refine zv_bipush (pc := 101) (v := 25) C (by decide) dX6_same_101 ?_
        refine zv_bipush (pc := 103) (v := 15) C (by decide) dX6_same_103 ?_
        refine zv_cv0 (pc := 105) (ws' := (fun uz : zMem => (zd_X6_same cI adM qM1 qM2 qM3 qM4 qM5 qM6 qM7 qM8 qM12 qM13 qM15 qM16 qM17 qM18 qM19 qM20 qM21 uz))) C (zv_runV (As := [.int (25 : Int32), .int (15 : Int32)]) (b := adM) (rest := []) (ci := 5) (q0 := 0) C (zc_X6_copy l G cI adM qM1 qM2 qM3 qM4 qM5 qM6 qM7 qM8 qM12 qM13 qM15 qM16 qM17 qM18 qM19 qM20 qM21 T_7 (25 : Int32) (15 : Int32) _ hF) (cwV 2 C.2.2.2.2.1 gX6_same_X6_copy rfl rfl rfl zy_X6_copy ⟨Nat.le_of_ble_eq_true rfl, Nat.le_of_ble_eq_true rfl⟩) rfl rfl rfl rfl rfl (Nat.le_of_ble_eq_true rfl) ⟨Nat.zero_le _, Nat.zero_le _⟩ dX6_same_105) [0, 1, 2, 3, 4, 5, 6, 7, 8, 9, 10, 11, 12, 13, 14, 15, 16, 17] [] rfl rfl rfl rfl rfl (fun _ => rfl) (fun _ => rfl) (fun _ => rfl) (fun uz hF => ?_)
        obtain ⟨T_8, hE⟩ : ∃ z, z = uz := ⟨_, rfl⟩; subst hE
        refine zv_aload_n (pc := 108) C rfl 0 rfl dX6_same_108 ?_
        refine zv_iconst (pc := 109) (v := 1) C (by decide) dX6_same_109 ?_
        refine zv_iload_n (pc := 110) C rfl 2 rfl dX6_same_110 ?_
        refine zv_bipush (pc := 111) (v := 49) C (by decide) dX6_same_111 ?_
        refine zv_cv0 (pc := 113) (ws' := (fun uz : zMem => (zd_X6_same cI adM qM1 qM2 qM3 qM4 qM5 qM6 qM7 qM8 qM12 qM13 qM15 qM16 qM17 qM18 qM19 qM20 qM21 uz))) C (zv_runV (As := [.int (1 : Int32), .int p2, .int (49 : Int32)]) (b := adM) (rest := []) (ci := 5) (q0 := 0) C (zc_X6_backOf l G cI adM qM1 qM2 qM3 qM4 qM5 qM6 qM7 qM8 qM12 qM13 qM15 qM16 qM17 qM18 qM19 qM20 qM21 T_8 (1 : Int32) p2 (49 : Int32) _ hF) (cwV 3 C.2.2.2.2.1 gX6_same_X6_backOf rfl rfl rfl zy_X6_backOf ⟨Nat.le_of_ble_eq_true rfl, Nat.le_of_ble_eq_true rfl⟩) rfl rfl rfl rfl rfl (Nat.le_of_ble_eq_true rfl) ⟨Nat.zero_le _, Nat.zero_le _⟩ dX6_same_113) [0, 1, 2, 3, 4, 5, 6, 7, 8, 9, 10, 11, 12, 13, 14, 15, 16, 17] [] rfl rfl rfl rfl rfl (fun _ => rfl) (fun _ => rfl) (fun _ => rfl) (fun uz hF => ?_)
        obtain ⟨T_9, hE⟩ : ∃ z, z = uz := ⟨_, rfl⟩; subst hE
        refine zv_aload_n (pc := 116) C rfl 0 rfl dX6_same_116 ?_
        refine zv_bipush (pc := 117) (v := 24) C (by decide) dX6_same_117 ?_
        refine zv_bipush (pc := 119) (v := 25) C (by decide) dX6_same_119 ?_
        refine zv_ci0 (pc := 121) (ws' := (fun uz : zMem => (zd_X6_same cI adM qM1 qM2 qM3 qM4 qM5 qM6 qM7 qM8 qM12 qM13 qM15 qM16 qM17 qM18 qM19 qM20 qM21 uz))) C (zv_runV (As := [.int (24 : Int32), .int (25 : Int32)]) (b := adM) (rest := []) (ci := 5) (q0 := 0) C (zc_X6_against l G cI adM qM1 qM2 qM3 qM4 qM5 qM6 qM7 qM8 qM12 qM13 qM15 qM16 qM17 qM18 qM19 qM20 qM21 T_9 (24 : Int32) (25 : Int32) _ hF) (cwV 2 C.2.2.2.2.1 gX6_same_X6_against rfl rfl rfl zy_X6_against ⟨Nat.le_of_ble_eq_true rfl, Nat.le_of_ble_eq_true rfl⟩) rfl rfl rfl rfl rfl (Nat.le_of_ble_eq_true rfl) ⟨Nat.zero_le _, Nat.zero_le _⟩ dX6_same_121) [0, 1, 2, 3, 4, 5, 6, 7, 8, 9, 10, 11, 12, 13, 14, 15, 16, 17] [] rfl rfl rfl rfl rfl (fun _ => rfl) (fun _ => rfl) (fun _ => rfl) (fun v_11 uz hF => ?_)
        obtain ⟨T_10, hE⟩ : ∃ z, z = uz := ⟨_, rfl⟩; subst hE
        refine zv_if_ne (pc := 124) (tgt := 131) C dX6_same_124 (by decide) (fun c_12 => ?_) (fun c_12 => ?_)
        · replace hF := And.left hF c_12
          refine zv_iconst (pc := 131) (v := 0) C (by decide) dX6_same_131 ?_
          refine zv_istore_n (pc := 132) (lv' := [(1, .int (0 : Int32)), (0, .ref adM), (2, .int p2)]) C rfl (by decide) rfl dX6_same_132 ?_
          obtain ⟨x2_13, ex2_13⟩ : ∃ y : Int32, y = p2 + (1 : Int32) := ⟨_, rfl⟩
          replace hF := hF x2_13 ex2_13
          refine zv_iinc (pc := 133) (v := x2_13) (lv' := [(2, .int x2_13), (1, .int (0 : Int32)), (0, .ref adM)]) C 2 rfl (by rw [ex2_13]; rfl) (by decide) rfl dX6_same_133 ?_
          refine zv_goto (pc := 136) (tgt := 74) C dX6_same_136 (by decide) ?_
          exact zv_lvs [2, 1, 0] rfl (ih (0 : Int32) x2_13 T_10 hF)
        · replace hF := And.right hF c_12
          refine zv_iconst (pc := 127) (v := 1) C (by decide) dX6_same_127 ?_
          refine zv_goto (pc := 128) (tgt := 132) C dX6_same_128 (by decide) ?_
          refine zv_istore_n (pc := 132) (lv' := [(1, .int (1 : Int32)), (0, .ref adM), (2, .int p2)]) C rfl (by decide) rfl dX6_same_132 ?_
          obtain ⟨x2_14, ex2_14⟩ : ∃ y : Int32, y = p2 + (1 : Int32) := ⟨_, rfl⟩
          replace hF := hF x2_14 ex2_14
          refine zv_iinc (pc := 133) (v := x2_14) (lv' := [(2, .int x2_14), (1, .int (1 : Int32)), (0, .ref adM)]) C 2 rfl (by rw [ex2_14]; rfl) (by decide) rfl dX6_same_133 ?_
          refine zv_goto (pc := 136) (tgt := 74) C dX6_same_136 (by decide) ?_
          exact zv_lvs [2, 1, 0] rfl (ih (1 : Int32) x2_14 T_10 hF)
set_option maxHeartbeats 4000000 in
set_option maxRecDepth 100000 in
theorem zc_X6_same (l : Launch) (G : va_G) (cI : ClassId) (adM qM1 qM2 qM3 qM4 qM5 qM6 qM7 qM8 qM12 qM13 qM15 qM16 qM17 qM18 qM19 qM20 qM21 : Nat) (M : zMem) (post : Int32 → zMem → Prop) (hF : zw_X6_same M post) (sz : Nat) : Met l yX6_same wsX6_same rmX6_same (va_Pc [.ref adM] (zv_in G cI (zd_X6_same cI adM qM1 qM2 qM3 qM4 qM5 qM6 qM7 qM8 qM12 qM13 qM15 qM16 qM17 qM18 qM19 qM20 qM21 M) sz)) (va_Qi (fun (rz : Int32) (uz : zMem) => post rz uz) (fun (uz : zMem) t => zv_out G cI (va_A (zd_X6_same cI adM qM1 qM2 qM3 qM4 qM5 qM6 qM7 qM8 qM12 qM13 qM15 qM16 qM17 qM18 qM19 qM20 qM21 M) sz) (zd_X6_same cI adM qM1 qM2 qM3 qM4 qM5 qM6 qM7 qM8 qM12 qM13 qM15 qM16 qM17 qM18 qM19 qM20 qM21 uz) t) (va_A (zd_X6_same cI adM qM1 qM2 qM3 qM4 qM5 qM6 qM7 qM8 qM12 qM13 qM15 qM16 qM17 qM18 qM19 qM20 qM21 M) sz)) 0 0 (va_A (zd_X6_same cI adM qM1 qM2 qM3 qM4 qM5 qM6 qM7 qM8 qM12 qM13 qM15 qM16 qM17 qM18 qM19 qM20 qM21 M) sz) := by
  refine zv_met (cc := cX6_same) (maxL := 3) (ret := (some .boolean)) (lv0 := [(0, .ref adM)]) (Qc := fun A => va_Qi (fun (rz : Int32) (uz : zMem) => post rz uz) (fun (uz : zMem) t => zv_out G cI A (zd_X6_same cI adM qM1 qM2 qM3 qM4 qM5 qM6 qM7 qM8 qM12 qM13 qM15 qM16 qM17 qM18 qM19 qM20 qM21 uz) t) A) (by decide) rfl (Nat.le_of_ble_eq_true rfl) rfl ?_ sz
  intro p e s m below meth c A C hr hlk
  clear sz
  refine zv_aload_n (pc := 0) C rfl 0 rfl dX6_same_0 ?_
  refine zv_iconst (pc := 1) (v := 0) C (by decide) dX6_same_1 ?_
  refine zv_put (pc := 2) (CC := RX6) (T := TX6) (N := 22) (ci := 5) (v := .int (0 : Int32)) (ty := .int) (ws' := (zd_X6_same cI adM qM1 qM2 qM3 qM4 qM5 qM6 qM7 qM8 qM12 qM13 qM15 qM16 qM17 qM18 qM19 qM20 qM21 (zset M 0 (fun _ => (0 : Int32))))) C zi_X6_same_X6 tyX6 tyX6_ok nmX6 0 rfl 0 (by decide) zf_X6_same_65 rfl (by decide +kernel) rfl rfl rfl (Nat.le_of_ble_eq_true rfl) rfl dX6_same_2 ?_
  refine zv_aload_n (pc := 5) C rfl 0 rfl dX6_same_5 ?_
  refine zv_get (pc := 6) (CC := RX6) (T := TX6) (N := 22) (ci := 5) (v := .ref qM1) C zi_X6_same_X6 0 rfl 1 (by decide) zf_X6_same_7 rfl rfl dX6_same_6 ?_
  refine zv_iconst (pc := 9) (v := 0) C (by decide) dX6_same_9 ?_
  obtain ⟨h_1, hF⟩ := hF
  refine zv_iald (pc := 10) (n := 2) (f := (M 1)) C 1 h_1 rfl dX6_same_10 ?_
  refine zv_aload_n (pc := 11) C rfl 0 rfl dX6_same_11 ?_
  refine zv_get (pc := 12) (CC := RX6) (T := TX6) (N := 22) (ci := 5) (v := .ref qM1) C zi_X6_same_X6 0 rfl 1 (by decide) zf_X6_same_7 rfl rfl dX6_same_12 ?_
  refine zv_iconst (pc := 15) (v := 1) C (by decide) dX6_same_15 ?_
  obtain ⟨h_2, hF⟩ := hF
  refine zv_iald (pc := 16) (n := 2) (f := (M 1)) C 1 h_2 rfl dX6_same_16 ?_
  refine zv_icmp_ne (pc := 17) (tgt := 69) C dX6_same_17 (by decide) (fun c_3 => ?_) (fun c_3 => ?_)
  · replace hF := And.left hF c_3
    refine zv_iconst (pc := 69) (v := 0) C (by decide) dX6_same_69 ?_
    refine zv_istore_n (pc := 70) (lv' := [(1, .int (0 : Int32)), (0, .ref adM)]) C rfl (by decide) rfl dX6_same_70 ?_
    refine zv_bipush (pc := 71) (v := -49) C (by decide) dX6_same_71 ?_
    refine zv_istore_n (pc := 73) (lv' := [(2, .int (-49 : Int32)), (1, .int (0 : Int32)), (0, .ref adM)]) C rfl (by decide) rfl dX6_same_73 ?_
    obtain ⟨kf, hF⟩ := hF
    refine zv_lvs [2, 1, 0] rfl (zl_X6_same_74 adM qM1 qM2 qM3 qM4 qM5 qM6 qM7 qM8 qM12 qM13 qM15 qM16 qM17 qM18 qM19 qM20 qM21 _ C ?_ kf (0 : Int32) (-49 : Int32) (zset M 0 (fun _ => (0 : Int32))) hF)
    · intro x1_15 T_16 hF
      refine zv_iload_n (pc := 139) C rfl 0 rfl dX6_same_139 ?_
      obtain ⟨hn_17, hF⟩ := hF
      exact zv_zret (pc := 140) C hr hlk x1_15 T_16 hn_17 hF rfl dX6_same_140
  · replace hF := And.right hF c_3
    refine zv_aload_n (pc := 20) C rfl 0 rfl dX6_same_20 ?_
    refine zv_get (pc := 21) (CC := RX6) (T := TX6) (N := 22) (ci := 5) (v := .ref qM2) C zi_X6_same_X6 0 rfl 2 (by decide) zf_X6_same_13 rfl rfl dX6_same_21 ?_
    refine zv_iconst (pc := 24) (v := 0) C (by decide) dX6_same_24 ?_
    obtain ⟨h_18, hF⟩ := hF
    refine zv_iald (pc := 25) (n := 2) (f := (M 2)) C 2 h_18 rfl dX6_same_25 ?_
    refine zv_aload_n (pc := 26) C rfl 0 rfl dX6_same_26 ?_
    refine zv_get (pc := 27) (CC := RX6) (T := TX6) (N := 22) (ci := 5) (v := .ref qM2) C zi_X6_same_X6 0 rfl 2 (by decide) zf_X6_same_13 rfl rfl dX6_same_27 ?_
    refine zv_iconst (pc := 30) (v := 1) C (by decide) dX6_same_30 ?_
    obtain ⟨h_19, hF⟩ := hF
    refine zv_iald (pc := 31) (n := 2) (f := (M 2)) C 2 h_19 rfl dX6_same_31 ?_
    refine zv_icmp_ne (pc := 32) (tgt := 69) C dX6_same_32 (by decide) (fun c_20 => ?_) (fun c_20 => ?_)
    · replace hF := And.left hF c_20
      refine zv_iconst (pc := 69) (v := 0) C (by decide) dX6_same_69 ?_
      refine zv_istore_n (pc := 70) (lv' := [(1, .int (0 : Int32)), (0, .ref adM)]) C rfl (by decide) rfl dX6_same_70 ?_
      refine zv_bipush (pc := 71) (v := -49) C (by decide) dX6_same_71 ?_
      refine zv_istore_n (pc := 73) (lv' := [(2, .int (-49 : Int32)), (1, .int (0 : Int32)), (0, .ref adM)]) C rfl (by decide) rfl dX6_same_73 ?_
      obtain ⟨kf, hF⟩ := hF
      refine zv_lvs [2, 1, 0] rfl (zl_X6_same_74 adM qM1 qM2 qM3 qM4 qM5 qM6 qM7 qM8 qM12 qM13 qM15 qM16 qM17 qM18 qM19 qM20 qM21 _ C ?_ kf (0 : Int32) (-49 : Int32) (zset M 0 (fun _ => (0 : Int32))) hF)
      · intro x1_21 T_22 hF
        refine zv_iload_n (pc := 139) C rfl 0 rfl dX6_same_139 ?_
        obtain ⟨hn_23, hF⟩ := hF
        exact zv_zret (pc := 140) C hr hlk x1_21 T_22 hn_23 hF rfl dX6_same_140
    · replace hF := And.right hF c_20
      refine zv_aload_n (pc := 35) C rfl 0 rfl dX6_same_35 ?_
      refine zv_get (pc := 36) (CC := RX6) (T := TX6) (N := 22) (ci := 5) (v := .ref qM3) C zi_X6_same_X6 0 rfl 3 (by decide) zf_X6_same_16 rfl rfl dX6_same_36 ?_
      refine zv_iconst (pc := 39) (v := 0) C (by decide) dX6_same_39 ?_
      obtain ⟨h_24, hF⟩ := hF
      refine zv_iald (pc := 40) (n := 2) (f := (M 3)) C 3 h_24 rfl dX6_same_40 ?_
      refine zv_aload_n (pc := 41) C rfl 0 rfl dX6_same_41 ?_
      refine zv_get (pc := 42) (CC := RX6) (T := TX6) (N := 22) (ci := 5) (v := .ref qM3) C zi_X6_same_X6 0 rfl 3 (by decide) zf_X6_same_16 rfl rfl dX6_same_42 ?_
      refine zv_iconst (pc := 45) (v := 1) C (by decide) dX6_same_45 ?_
      obtain ⟨h_25, hF⟩ := hF
      refine zv_iald (pc := 46) (n := 2) (f := (M 3)) C 3 h_25 rfl dX6_same_46 ?_
      refine zv_icmp_ne (pc := 47) (tgt := 69) C dX6_same_47 (by decide) (fun c_26 => ?_) (fun c_26 => ?_)
      · replace hF := And.left hF c_26
        refine zv_iconst (pc := 69) (v := 0) C (by decide) dX6_same_69 ?_
        refine zv_istore_n (pc := 70) (lv' := [(1, .int (0 : Int32)), (0, .ref adM)]) C rfl (by decide) rfl dX6_same_70 ?_
        refine zv_bipush (pc := 71) (v := -49) C (by decide) dX6_same_71 ?_
        refine zv_istore_n (pc := 73) (lv' := [(2, .int (-49 : Int32)), (1, .int (0 : Int32)), (0, .ref adM)]) C rfl (by decide) rfl dX6_same_73 ?_
        obtain ⟨kf, hF⟩ := hF
        refine zv_lvs [2, 1, 0] rfl (zl_X6_same_74 adM qM1 qM2 qM3 qM4 qM5 qM6 qM7 qM8 qM12 qM13 qM15 qM16 qM17 qM18 qM19 qM20 qM21 _ C ?_ kf (0 : Int32) (-49 : Int32) (zset M 0 (fun _ => (0 : Int32))) hF)
        · intro x1_27 T_28 hF
          refine zv_iload_n (pc := 139) C rfl 0 rfl dX6_same_139 ?_
          obtain ⟨hn_29, hF⟩ := hF
          exact zv_zret (pc := 140) C hr hlk x1_27 T_28 hn_29 hF rfl dX6_same_140
      · replace hF := And.right hF c_26
        refine zv_aload_n (pc := 50) C rfl 0 rfl dX6_same_50 ?_
        refine zv_get (pc := 51) (CC := RX6) (T := TX6) (N := 22) (ci := 5) (v := .ref qM4) C zi_X6_same_X6 0 rfl 4 (by decide) zf_X6_same_19 rfl rfl dX6_same_51 ?_
        refine zv_iconst (pc := 54) (v := 0) C (by decide) dX6_same_54 ?_
        obtain ⟨h_30, hF⟩ := hF
        refine zv_iald (pc := 55) (n := 2) (f := (M 4)) C 4 h_30 rfl dX6_same_55 ?_
        refine zv_aload_n (pc := 56) C rfl 0 rfl dX6_same_56 ?_
        refine zv_get (pc := 57) (CC := RX6) (T := TX6) (N := 22) (ci := 5) (v := .ref qM4) C zi_X6_same_X6 0 rfl 4 (by decide) zf_X6_same_19 rfl rfl dX6_same_57 ?_
        refine zv_iconst (pc := 60) (v := 1) C (by decide) dX6_same_60 ?_
        obtain ⟨h_31, hF⟩ := hF
        refine zv_iald (pc := 61) (n := 2) (f := (M 4)) C 4 h_31 rfl dX6_same_61 ?_
        obtain ⟨KJ_34, h0KJ_34, hF⟩ := hF
        refine zv_join (α := Int32) (KK := fun uz => KJ_34 uz) (wsJ := fun uz => (zd_X6_same cI adM qM1 qM2 qM3 qM4 qM5 qM6 qM7 qM8 qM12 qM13 qM15 qM16 qM17 qM18 qM19 qM20 qM21 (zset M 0 (fun _ => (0 : Int32))))) (pcJ := 70) (lvJ := fun uz => [(0, .ref adM)]) (stJ := fun uz => [.int uz]) ?_ (fun hKJ_34 => ?_)
        · rintro v_33 hF
          replace hF := h0KJ_34 v_33 hF
          refine zv_istore_n (pc := 70) (lv' := [(1, .int v_33), (0, .ref adM)]) C rfl (by decide) rfl dX6_same_70 ?_
          refine zv_bipush (pc := 71) (v := -49) C (by decide) dX6_same_71 ?_
          refine zv_istore_n (pc := 73) (lv' := [(2, .int (-49 : Int32)), (1, .int v_33), (0, .ref adM)]) C rfl (by decide) rfl dX6_same_73 ?_
          obtain ⟨kf, hF⟩ := hF
          refine zv_lvs [2, 1, 0] rfl (zl_X6_same_74 adM qM1 qM2 qM3 qM4 qM5 qM6 qM7 qM8 qM12 qM13 qM15 qM16 qM17 qM18 qM19 qM20 qM21 _ C ?_ kf v_33 (-49 : Int32) (zset M 0 (fun _ => (0 : Int32))) hF)
          · intro x1_35 T_36 hF
            refine zv_iload_n (pc := 139) C rfl 0 rfl dX6_same_139 ?_
            obtain ⟨hn_37, hF⟩ := hF
            exact zv_zret (pc := 140) C hr hlk x1_35 T_36 hn_37 hF rfl dX6_same_140
        · skip
          refine zv_icmp_ne (pc := 62) (tgt := 69) C dX6_same_62 (by decide) (fun c_32 => ?_) (fun c_32 => ?_)
          · replace hF := And.left hF c_32
            refine zv_iconst (pc := 69) (v := 0) C (by decide) dX6_same_69 ?_
            exact zv_lvs [0] rfl (hKJ_34 (0 : Int32) hF)
          · replace hF := And.right hF c_32
            refine zv_iconst (pc := 65) (v := 1) C (by decide) dX6_same_65 ?_
            refine zv_goto (pc := 66) (tgt := 70) C dX6_same_66 (by decide) ?_
            exact zv_lvs [0] rfl (hKJ_34 (1 : Int32) hF)
theorem zf_X6_list_183 : Cond.fieldLink RX6 183 "GlassStackModel" "listed" "I" ∈ wsX6_list := (List.mem_of_getElem? (i := 2) rfl)
theorem zf_X6_list_38 : Cond.fieldLink RX6 38 "GlassStackModel" "listUp" "[I" ∈ wsX6_list := (List.mem_of_getElem? (i := 3) rfl)
theorem zf_X6_list_41 : Cond.fieldLink RX6 41 "GlassStackModel" "listLow" "[I" ∈ wsX6_list := (List.mem_of_getElem? (i := 4) rfl)
theorem zf_X6_list_65 : Cond.fieldLink RX6 65 "GlassStackModel" "thrown" "I" ∈ wsX6_list := (List.mem_of_getElem? (i := 1) rfl)
theorem zi_X6_list_X6 : ∀ w ∈ wsX60, w ∈ wsX6_list := fun w h => List.mem_cons_of_mem _ (List.mem_append_right _ h)
theorem zy_X6_list : yX6_list.cls = RX6 ∧ yX6_list.cls ≠ "java/lang/invoke/MethodHandle" ∧ yX6_list.cls ≠ "java/lang/invoke/VarHandle" ∧ (parseMethodDescriptor yX6_list.desc).map (fun d => d.parameters.length) = some 2 := by decide +kernel
set_option maxHeartbeats 4000000 in
set_option maxRecDepth 100000 in
theorem zl_X6_list_29 {p : Program} {l : Launch} {e : Env} {s : State} {m : MethodId} {args : Array Value} {below : List Frame} {meth : Method} {c : Code} {G : va_G} {cI : ClassId} {A : Nat → Prop} {Q : State → Prop} (adM qM1 qM2 qM3 qM4 qM5 qM6 qM7 qM8 qM12 qM13 qM15 qM16 qM17 qM18 qM19 qM20 qM21 : Nat) (M : zMem) (c1 : Int32) (c2 : Int32) (c3 : Int32) (K64 : Prop) (K72 : Prop) (C : zv_C p s m args c cX6_list 5 RX6 wsX6_list G cI A) (hK64 : K64  → zv_V p l e (headSpec wsX6_list rmX6_list).room s m args below meth c Q G A 5 0 0 (zd_X6_list cI adM qM1 qM2 qM3 qM4 qM5 qM6 qM7 qM8 qM12 qM13 qM15 qM16 qM17 qM18 qM19 qM20 qM21 M) 64 [] []) (hK72 : K72  → zv_V p l e (headSpec wsX6_list rmX6_list).room s m args below meth c Q G A 5 0 0 (zd_X6_list cI adM qM1 qM2 qM3 qM4 qM5 qM6 qM7 qM8 qM12 qM13 qM15 qM16 qM17 qM18 qM19 qM20 qM21 M) 72 [(0, .ref adM), (1, .int c1), (2, .int c2), (3, .int c3)] []) : ∀ (k : Nat) (p4 : Int32), zw_X6_list_29 M c1 c2 c3 K64 K72 k p4 → zv_V p l e (headSpec wsX6_list rmX6_list).room s m args below meth c Q G A 5 0 0 (zd_X6_list cI adM qM1 qM2 qM3 qM4 qM5 qM6 qM7 qM8 qM12 qM13 qM15 qM16 qM17 qM18 qM19 qM20 qM21 M) 29 [(0, .ref adM), (1, .int c1), (2, .int c2), (3, .int c3), (4, .int p4)] [] := by
  intro k
  induction k with
  | zero => intro p4 hF; exact (show False from hF).elim
  | succ k ih =>
    intro p4 hF
    refine zv_iload (pc := 29) C 4 rfl dX6_list_29 ?_
    refine zv_aload_n (pc := 31) C rfl 0 rfl dX6_list_31 ?_
    refine zv_get (pc := 32) (CC := RX6) (T := TX6) (N := 22) (ci := 5) (v := .int (M 11 0)) C zi_X6_list_X6 0 rfl 11 (by decide) zf_X6_list_183 rfl rfl dX6_list_32 ?_
    refine zv_icmp_ge (pc := 35) (tgt := 72) C dX6_list_35 (by decide) (fun c_6 => ?_) (fun c_6 => ?_)
    · replace hF := And.left hF c_6
      exact zv_lvs [0, 1, 2, 3] rfl (hK72  hF)
    · replace hF := And.right hF c_6
      refine zv_aload_n (pc := 38) C rfl 0 rfl dX6_list_38 ?_
      refine zv_get (pc := 39) (CC := RX6) (T := TX6) (N := 22) (ci := 5) (v := .ref qM12) C zi_X6_list_X6 0 rfl 12 (by decide) zf_X6_list_38 rfl rfl dX6_list_39 ?_
      refine zv_iload (pc := 42) C 4 rfl dX6_list_42 ?_
      obtain ⟨h_7, hF⟩ := hF
      refine zv_iald (pc := 44) (n := 6) (f := (M 12)) C 9 h_7 rfl dX6_list_44 ?_
      refine zv_iload_n (pc := 45) C rfl 1 rfl dX6_list_45 ?_
      refine zv_iload_n (pc := 46) C rfl 3 rfl dX6_list_46 ?_
      obtain ⟨hz_8, hF⟩ := hF
      refine zv_idiv (pc := 47) C hz_8 dX6_list_47 ?_
      refine zv_icmp_ne (pc := 48) (tgt := 66) C dX6_list_48 (by decide) (fun c_9 => ?_) (fun c_9 => ?_)
      · replace hF := And.left hF c_9
        obtain ⟨x4_10, ex4_10⟩ : ∃ y : Int32, y = p4 + (1 : Int32) := ⟨_, rfl⟩
        replace hF := hF x4_10 ex4_10
        refine zv_iinc (pc := 66) (v := x4_10) (lv' := [(4, .int x4_10), (0, .ref adM), (1, .int c1), (2, .int c2), (3, .int c3)]) C 4 rfl (by rw [ex4_10]; rfl) (by decide) rfl dX6_list_66 ?_
        refine zv_goto (pc := 69) (tgt := 29) C dX6_list_69 (by decide) ?_
        exact zv_lvs [1, 2, 3, 4, 0] rfl (ih x4_10 hF)
      · replace hF := And.right hF c_9
        refine zv_aload_n (pc := 51) C rfl 0 rfl dX6_list_51 ?_
        refine zv_get (pc := 52) (CC := RX6) (T := TX6) (N := 22) (ci := 5) (v := .ref qM13) C zi_X6_list_X6 0 rfl 13 (by decide) zf_X6_list_41 rfl rfl dX6_list_52 ?_
        refine zv_iload (pc := 55) C 4 rfl dX6_list_55 ?_
        obtain ⟨h_11, hF⟩ := hF
        refine zv_iald (pc := 57) (n := 6) (f := (M 13)) C 10 h_11 rfl dX6_list_57 ?_
        refine zv_iload_n (pc := 58) C rfl 2 rfl dX6_list_58 ?_
        refine zv_iload_n (pc := 59) C rfl 3 rfl dX6_list_59 ?_
        obtain ⟨hz_12, hF⟩ := hF
        refine zv_idiv (pc := 60) C hz_12 dX6_list_60 ?_
        refine zv_icmp_ne (pc := 61) (tgt := 66) C dX6_list_61 (by decide) (fun c_13 => ?_) (fun c_13 => ?_)
        · replace hF := And.left hF c_13
          obtain ⟨x4_14, ex4_14⟩ : ∃ y : Int32, y = p4 + (1 : Int32) := ⟨_, rfl⟩
          replace hF := hF x4_14 ex4_14
          refine zv_iinc (pc := 66) (v := x4_14) (lv' := [(4, .int x4_14), (0, .ref adM), (1, .int c1), (2, .int c2), (3, .int c3)]) C 4 rfl (by rw [ex4_14]; rfl) (by decide) rfl dX6_list_66 ?_
          refine zv_goto (pc := 69) (tgt := 29) C dX6_list_69 (by decide) ?_
          exact zv_lvs [1, 2, 3, 4, 0] rfl (ih x4_14 hF)
        · replace hF := And.right hF c_13
          exact zv_lvs [] rfl (hK64  hF)
set_option maxHeartbeats 4000000 in
set_option maxRecDepth 100000 in
theorem zc_X6_list (l : Launch) (G : va_G) (cI : ClassId) (adM qM1 qM2 qM3 qM4 qM5 qM6 qM7 qM8 qM12 qM13 qM15 qM16 qM17 qM18 qM19 qM20 qM21 : Nat) (M : zMem) (a1 : Int32) (a2 : Int32) (post : Int32 → zMem → Prop) (hF : zw_X6_list M a1 a2 post) (sz : Nat) : Met l yX6_list wsX6_list rmX6_list (va_Pc [.ref adM, .int a1, .int a2] (zv_in G cI (zd_X6_list cI adM qM1 qM2 qM3 qM4 qM5 qM6 qM7 qM8 qM12 qM13 qM15 qM16 qM17 qM18 qM19 qM20 qM21 M) sz)) (va_Qi (fun (rz : Int32) (uz : zMem) => post rz uz) (fun (uz : zMem) t => zv_out G cI (va_A (zd_X6_list cI adM qM1 qM2 qM3 qM4 qM5 qM6 qM7 qM8 qM12 qM13 qM15 qM16 qM17 qM18 qM19 qM20 qM21 M) sz) (zd_X6_list cI adM qM1 qM2 qM3 qM4 qM5 qM6 qM7 qM8 qM12 qM13 qM15 qM16 qM17 qM18 qM19 qM20 qM21 uz) t) (va_A (zd_X6_list cI adM qM1 qM2 qM3 qM4 qM5 qM6 qM7 qM8 qM12 qM13 qM15 qM16 qM17 qM18 qM19 qM20 qM21 M) sz)) 0 0 (va_A (zd_X6_list cI adM qM1 qM2 qM3 qM4 qM5 qM6 qM7 qM8 qM12 qM13 qM15 qM16 qM17 qM18 qM19 qM20 qM21 M) sz) := by
  refine zv_met (cc := cX6_list) (maxL := 5) (ret := (some .int)) (lv0 := [(0, .ref adM), (1, .int a1), (2, .int a2)]) (Qc := fun A => va_Qi (fun (rz : Int32) (uz : zMem) => post rz uz) (fun (uz : zMem) t => zv_out G cI A (zd_X6_list cI adM qM1 qM2 qM3 qM4 qM5 qM6 qM7 qM8 qM12 qM13 qM15 qM16 qM17 qM18 qM19 qM20 qM21 uz) t) A) (by decide) rfl (Nat.le_of_ble_eq_true rfl) rfl ?_ sz
  intro p e s m below meth c A C hr hlk
  clear sz
  refine zv_aload_n (pc := 0) C rfl 0 rfl dX6_list_0 ?_
  refine zv_iconst (pc := 1) (v := 0) C (by decide) dX6_list_1 ?_
  refine zv_put (pc := 2) (CC := RX6) (T := TX6) (N := 22) (ci := 5) (v := .int (0 : Int32)) (ty := .int) (ws' := (zd_X6_list cI adM qM1 qM2 qM3 qM4 qM5 qM6 qM7 qM8 qM12 qM13 qM15 qM16 qM17 qM18 qM19 qM20 qM21 (zset M 0 (fun _ => (0 : Int32))))) C zi_X6_list_X6 tyX6 tyX6_ok nmX6 0 rfl 0 (by decide) zf_X6_list_65 rfl (by decide +kernel) rfl rfl rfl (Nat.le_of_ble_eq_true rfl) rfl dX6_list_2 ?_
  refine zv_aload_n (pc := 5) C rfl 0 rfl dX6_list_5 ?_
  refine zv_iload_n (pc := 6) C rfl 1 rfl dX6_list_6 ?_
  refine zv_iload_n (pc := 7) C rfl 2 rfl dX6_list_7 ?_
  refine zv_ci0 (pc := 8) (ws' := (fun uz : Unit => (zd_X6_list cI adM qM1 qM2 qM3 qM4 qM5 qM6 qM7 qM8 qM12 qM13 qM15 qM16 qM17 qM18 qM19 qM20 qM21 (zset M 0 (fun _ => (0 : Int32)))))) C (zv_runS (As := [.int a1, .int a2]) (rest := [.ref adM]) C (zc_X6_isIndex l G cI a1 a2 _ hF) (va_cwS 2 C.2.2.2.2.1 gX6_list_X6_isIndex rfl rfl rfl zy_X6_isIndex ⟨Nat.le_of_ble_eq_true rfl, Nat.le_of_ble_eq_true rfl⟩) rfl rfl (Nat.le_of_ble_eq_true rfl) ⟨Nat.zero_le _, Nat.zero_le _⟩ dX6_list_8) [] [0, 1, 2, 3, 4, 5, 6, 7, 8, 9, 10, 11, 12, 13, 14, 15, 16, 17] rfl rfl rfl rfl rfl (fun _ => rfl) (fun _ => rfl) (fun _ => rfl) (fun v_1 uz hF => ?_)
  refine zv_iconst (pc := 11) (v := 1) C (by decide) dX6_list_11 ?_
  refine zv_ci0 (pc := 12) (ws' := (fun uz : zMem => (zd_X6_list cI adM qM1 qM2 qM3 qM4 qM5 qM6 qM7 qM8 qM12 qM13 qM15 qM16 qM17 qM18 qM19 qM20 qM21 uz))) C (zv_runV (As := [.int v_1, .int (1 : Int32)]) (b := adM) (rest := []) (ci := 5) (q0 := 0) C (zc_X6_right l G cI adM qM1 qM2 qM3 qM4 qM5 qM6 qM7 qM8 qM12 qM13 qM15 qM16 qM17 qM18 qM19 qM20 qM21 (zset M 0 (fun _ => (0 : Int32))) v_1 (1 : Int32) _ hF) (cwV 2 C.2.2.2.2.1 gX6_list_X6_right rfl rfl rfl zy_X6_right ⟨Nat.le_of_ble_eq_true rfl, Nat.le_of_ble_eq_true rfl⟩) rfl rfl rfl rfl rfl (Nat.le_of_ble_eq_true rfl) ⟨Nat.zero_le _, Nat.zero_le _⟩ dX6_list_12) [0, 1, 2, 3, 4, 5, 6, 7, 8, 9, 10, 11, 12, 13, 14, 15, 16, 17] [] rfl rfl rfl rfl rfl (fun _ => rfl) (fun _ => rfl) (fun _ => rfl) (fun v_3 uz hF => ?_)
  obtain ⟨T_2, hE⟩ : ∃ z, z = uz := ⟨_, rfl⟩; subst hE
  refine zv_if_ne (pc := 15) (tgt := 20) C dX6_list_15 (by decide) (fun c_4 => ?_) (fun c_4 => ?_)
  · replace hF := And.left hF c_4
    refine zv_iload_n (pc := 20) C rfl 1 rfl dX6_list_20 ?_
    refine zv_iload_n (pc := 21) C rfl 2 rfl dX6_list_21 ?_
    refine zv_ci0 (pc := 22) (ws' := (fun uz : Unit => (zd_X6_list cI adM qM1 qM2 qM3 qM4 qM5 qM6 qM7 qM8 qM12 qM13 qM15 qM16 qM17 qM18 qM19 qM20 qM21 T_2))) C (zv_runS (As := [.int a1, .int a2]) (rest := []) C (zc_X6_shared l G cI a1 a2 _ hF) (va_cwS 2 C.2.2.2.2.1 gX6_list_X6_shared rfl rfl rfl zy_X6_shared ⟨Nat.le_of_ble_eq_true rfl, Nat.le_of_ble_eq_true rfl⟩) rfl rfl (Nat.le_of_ble_eq_true rfl) ⟨Nat.zero_le _, Nat.zero_le _⟩ dX6_list_22) [] [0, 1, 2, 3, 4, 5, 6, 7, 8, 9, 10, 11, 12, 13, 14, 15, 16, 17] rfl rfl rfl rfl rfl (fun _ => rfl) (fun _ => rfl) (fun _ => rfl) (fun v_5 uz hF => ?_)
    refine zv_istore_n (pc := 25) (lv' := [(3, .int v_5), (0, .ref adM), (1, .int a1), (2, .int a2)]) C rfl (by decide) rfl dX6_list_25 ?_
    refine zv_iconst (pc := 26) (v := 0) C (by decide) dX6_list_26 ?_
    refine zv_istore (pc := 27) (lv' := [(4, .int (0 : Int32)), (3, .int v_5), (0, .ref adM), (1, .int a1), (2, .int a2)]) C (by decide) rfl dX6_list_27 ?_
    obtain ⟨kf, hF⟩ := hF
    refine zv_lvs [2, 3, 4, 1, 0] rfl (zl_X6_list_29 adM qM1 qM2 qM3 qM4 qM5 qM6 qM7 qM8 qM12 qM13 qM15 qM16 qM17 qM18 qM19 qM20 qM21 T_2 a1 a2 v_5 _ _ C ?_ ?_ kf (0 : Int32) hF)
    · intro  hF
      refine zv_iconst (pc := 64) (v := -1) C (by decide) dX6_list_64 ?_
      exact zv_iret (pc := 65) C hr hlk (-1 : Int32) T_2 hF rfl dX6_list_65
    · intro  hF
      refine zv_aload_n (pc := 72) C rfl 0 rfl dX6_list_72 ?_
      refine zv_get (pc := 73) (CC := RX6) (T := TX6) (N := 22) (ci := 5) (v := .int (T_2 11 0)) C zi_X6_list_X6 0 rfl 11 (by decide) zf_X6_list_183 rfl rfl dX6_list_73 ?_
      refine zv_bipush (pc := 76) (v := 6) C (by decide) dX6_list_76 ?_
      refine zv_icmp_ne (pc := 78) (tgt := 83) C dX6_list_78 (by decide) (fun c_15 => ?_) (fun c_15 => ?_)
      · replace hF := And.left hF c_15
        refine zv_aload_n (pc := 83) C rfl 0 rfl dX6_list_83 ?_
        refine zv_get (pc := 84) (CC := RX6) (T := TX6) (N := 22) (ci := 5) (v := .ref qM12) C zi_X6_list_X6 0 rfl 12 (by decide) zf_X6_list_38 rfl rfl dX6_list_84 ?_
        refine zv_aload_n (pc := 87) C rfl 0 rfl dX6_list_87 ?_
        refine zv_get (pc := 88) (CC := RX6) (T := TX6) (N := 22) (ci := 5) (v := .int (T_2 11 0)) C zi_X6_list_X6 0 rfl 11 (by decide) zf_X6_list_183 rfl rfl dX6_list_88 ?_
        refine zv_iload_n (pc := 91) C rfl 1 rfl dX6_list_91 ?_
        refine zv_iload_n (pc := 92) C rfl 3 rfl dX6_list_92 ?_
        obtain ⟨hz_16, hF⟩ := hF
        refine zv_idiv (pc := 93) C hz_16 dX6_list_93 ?_
        obtain ⟨h_17, hF⟩ := hF
        obtain ⟨r_18, er_18⟩ : ∃ y : zRow, y = (upd (T_2 12) (Int32.toNatClampNeg (T_2 11 0)) (a1 / v_5)) := ⟨_, rfl⟩
        replace hF := hF r_18 er_18
        refine zv_iast (pc := 94) (n := 6) (f := (T_2 12)) (ws' := (zd_X6_list cI adM qM1 qM2 qM3 qM4 qM5 qM6 qM7 qM8 qM12 qM13 qM15 qM16 qM17 qM18 qM19 qM20 qM21 (zset T_2 12 r_18))) C 9 h_17 rfl (by rw [er_18]; rfl) dX6_list_94 ?_
        refine zv_aload_n (pc := 95) C rfl 0 rfl dX6_list_95 ?_
        refine zv_get (pc := 96) (CC := RX6) (T := TX6) (N := 22) (ci := 5) (v := .ref qM13) C zi_X6_list_X6 0 rfl 13 (by decide) zf_X6_list_41 rfl rfl dX6_list_96 ?_
        refine zv_aload_n (pc := 99) C rfl 0 rfl dX6_list_99 ?_
        refine zv_get (pc := 100) (CC := RX6) (T := TX6) (N := 22) (ci := 5) (v := .int (T_2 11 0)) C zi_X6_list_X6 0 rfl 11 (by decide) zf_X6_list_183 rfl rfl dX6_list_100 ?_
        refine zv_iload_n (pc := 103) C rfl 2 rfl dX6_list_103 ?_
        refine zv_iload_n (pc := 104) C rfl 3 rfl dX6_list_104 ?_
        obtain ⟨hz_19, hF⟩ := hF
        refine zv_idiv (pc := 105) C hz_19 dX6_list_105 ?_
        obtain ⟨h_20, hF⟩ := hF
        obtain ⟨r_21, er_21⟩ : ∃ y : zRow, y = (upd (T_2 13) (Int32.toNatClampNeg (T_2 11 0)) (a2 / v_5)) := ⟨_, rfl⟩
        replace hF := hF r_21 er_21
        refine zv_iast (pc := 106) (n := 6) (f := (T_2 13)) (ws' := (zd_X6_list cI adM qM1 qM2 qM3 qM4 qM5 qM6 qM7 qM8 qM12 qM13 qM15 qM16 qM17 qM18 qM19 qM20 qM21 (zset (zset T_2 12 r_18) 13 r_21))) C 10 h_20 rfl (by rw [er_21]; rfl) dX6_list_106 ?_
        refine zv_aload_n (pc := 107) C rfl 0 rfl dX6_list_107 ?_
        refine zv_dup (pc := 108) C rfl dX6_list_108 ?_
        refine zv_get (pc := 109) (CC := RX6) (T := TX6) (N := 22) (ci := 5) (v := .int (T_2 11 0)) C zi_X6_list_X6 0 rfl 11 (by decide) zf_X6_list_183 rfl rfl dX6_list_109 ?_
        refine zv_iconst (pc := 112) (v := 1) C (by decide) dX6_list_112 ?_
        refine zv_iadd (pc := 113) C  dX6_list_113 ?_
        refine zv_topi (fun y_22 ey_22 => ?_)
        replace hF := hF y_22 ey_22
        refine zv_put (pc := 114) (CC := RX6) (T := TX6) (N := 22) (ci := 5) (v := .int y_22) (ty := .int) (ws' := (zd_X6_list cI adM qM1 qM2 qM3 qM4 qM5 qM6 qM7 qM8 qM12 qM13 qM15 qM16 qM17 qM18 qM19 qM20 qM21 (zset (zset (zset T_2 11 (fun _ => y_22)) 12 r_18) 13 r_21))) C zi_X6_list_X6 tyX6 tyX6_ok nmX6 0 rfl 11 (by decide) zf_X6_list_183 rfl (by decide +kernel) rfl rfl rfl (Nat.le_of_ble_eq_true rfl) rfl dX6_list_114 ?_
        refine zv_aload_n (pc := 117) C rfl 0 rfl dX6_list_117 ?_
        refine zv_get (pc := 118) (CC := RX6) (T := TX6) (N := 22) (ci := 5) (v := .int y_22) C zi_X6_list_X6 0 rfl 11 (by decide) zf_X6_list_183 rfl rfl dX6_list_118 ?_
        exact zv_iret (pc := 121) C hr hlk y_22 (zset (zset (zset T_2 11 (fun _ => y_22)) 12 r_18) 13 r_21) hF rfl dX6_list_121
      · replace hF := And.right hF c_15
        refine zv_iconst (pc := 81) (v := -1) C (by decide) dX6_list_81 ?_
        exact zv_iret (pc := 82) C hr hlk (-1 : Int32) T_2 hF rfl dX6_list_82
  · replace hF := And.right hF c_4
    refine zv_iconst (pc := 18) (v := 0) C (by decide) dX6_list_18 ?_
    exact zv_iret (pc := 19) C hr hlk (0 : Int32) T_2 hF rfl dX6_list_19
theorem zf_X6_unlist_183 : Cond.fieldLink RX6 183 "GlassStackModel" "listed" "I" ∈ wsX6_unlist := (List.mem_of_getElem? (i := 2) rfl)
theorem zf_X6_unlist_65 : Cond.fieldLink RX6 65 "GlassStackModel" "thrown" "I" ∈ wsX6_unlist := (List.mem_of_getElem? (i := 1) rfl)
theorem zi_X6_unlist_X6 : ∀ w ∈ wsX60, w ∈ wsX6_unlist := fun w h => List.mem_cons_of_mem _ (List.mem_append_right _ h)
theorem zy_X6_unlist : yX6_unlist.cls = RX6 ∧ yX6_unlist.cls ≠ "java/lang/invoke/MethodHandle" ∧ yX6_unlist.cls ≠ "java/lang/invoke/VarHandle" ∧ (parseMethodDescriptor yX6_unlist.desc).map (fun d => d.parameters.length) = some 0 := by decide +kernel
set_option maxHeartbeats 4000000 in
set_option maxRecDepth 100000 in
theorem zc_X6_unlist (l : Launch) (G : va_G) (cI : ClassId) (adM qM1 qM2 qM3 qM4 qM5 qM6 qM7 qM8 qM12 qM13 qM15 qM16 qM17 qM18 qM19 qM20 qM21 : Nat) (M : zMem) (post : zMem → Prop) (hF : zw_X6_unlist M post) (sz : Nat) : Met l yX6_unlist wsX6_unlist rmX6_unlist (va_Pc [.ref adM] (zv_in G cI (zd_X6_unlist cI adM qM1 qM2 qM3 qM4 qM5 qM6 qM7 qM8 qM12 qM13 qM15 qM16 qM17 qM18 qM19 qM20 qM21 M) sz)) (va_Qv (fun uz : zMem => post uz) (fun (uz : zMem) t => zv_out G cI (va_A (zd_X6_unlist cI adM qM1 qM2 qM3 qM4 qM5 qM6 qM7 qM8 qM12 qM13 qM15 qM16 qM17 qM18 qM19 qM20 qM21 M) sz) (zd_X6_unlist cI adM qM1 qM2 qM3 qM4 qM5 qM6 qM7 qM8 qM12 qM13 qM15 qM16 qM17 qM18 qM19 qM20 qM21 uz) t) (va_A (zd_X6_unlist cI adM qM1 qM2 qM3 qM4 qM5 qM6 qM7 qM8 qM12 qM13 qM15 qM16 qM17 qM18 qM19 qM20 qM21 M) sz)) 0 0 (va_A (zd_X6_unlist cI adM qM1 qM2 qM3 qM4 qM5 qM6 qM7 qM8 qM12 qM13 qM15 qM16 qM17 qM18 qM19 qM20 qM21 M) sz) := by
  refine zv_met (cc := cX6_unlist) (maxL := 1) (ret := none) (lv0 := [(0, .ref adM)]) (Qc := fun A => va_Qv (fun uz : zMem => post uz) (fun (uz : zMem) t => zv_out G cI A (zd_X6_unlist cI adM qM1 qM2 qM3 qM4 qM5 qM6 qM7 qM8 qM12 qM13 qM15 qM16 qM17 qM18 qM19 qM20 qM21 uz) t) A) (by decide) rfl (Nat.le_of_ble_eq_true rfl) rfl ?_ sz
  intro p e s m below meth c A C hr hlk
  clear sz
  refine zv_aload_n (pc := 0) C rfl 0 rfl dX6_unlist_0 ?_
  refine zv_iconst (pc := 1) (v := 0) C (by decide) dX6_unlist_1 ?_
  refine zv_put (pc := 2) (CC := RX6) (T := TX6) (N := 22) (ci := 5) (v := .int (0 : Int32)) (ty := .int) (ws' := (zd_X6_unlist cI adM qM1 qM2 qM3 qM4 qM5 qM6 qM7 qM8 qM12 qM13 qM15 qM16 qM17 qM18 qM19 qM20 qM21 (zset M 0 (fun _ => (0 : Int32))))) C zi_X6_unlist_X6 tyX6 tyX6_ok nmX6 0 rfl 0 (by decide) zf_X6_unlist_65 rfl (by decide +kernel) rfl rfl rfl (Nat.le_of_ble_eq_true rfl) rfl dX6_unlist_2 ?_
  refine zv_aload_n (pc := 5) C rfl 0 rfl dX6_unlist_5 ?_
  refine zv_iconst (pc := 6) (v := 0) C (by decide) dX6_unlist_6 ?_
  refine zv_put (pc := 7) (CC := RX6) (T := TX6) (N := 22) (ci := 5) (v := .int (0 : Int32)) (ty := .int) (ws' := (zd_X6_unlist cI adM qM1 qM2 qM3 qM4 qM5 qM6 qM7 qM8 qM12 qM13 qM15 qM16 qM17 qM18 qM19 qM20 qM21 (zset (zset M 0 (fun _ => (0 : Int32))) 11 (fun _ => (0 : Int32))))) C zi_X6_unlist_X6 tyX6 tyX6_ok nmX6 0 rfl 11 (by decide) zf_X6_unlist_183 rfl (by decide +kernel) rfl rfl rfl (Nat.le_of_ble_eq_true rfl) rfl dX6_unlist_7 ?_
  exact zv_vret (pc := 10) C hr hlk (zset (zset M 0 (fun _ => (0 : Int32))) 11 (fun _ => (0 : Int32))) hF rfl dX6_unlist_10
theorem zf_X6_lay_183 : Cond.fieldLink RX6 183 "GlassStackModel" "listed" "I" ∈ wsX6_lay := (List.mem_of_getElem? (i := 4) rfl)
theorem zf_X6_lay_22 : Cond.fieldLink RX6 22 "GlassStackModel" "many" "[I" ∈ wsX6_lay := (List.mem_of_getElem? (i := 1) rfl)
theorem zf_X6_lay_25 : Cond.fieldLink RX6 25 "GlassStackModel" "up" "[I" ∈ wsX6_lay := (List.mem_of_getElem? (i := 2) rfl)
theorem zf_X6_lay_28 : Cond.fieldLink RX6 28 "GlassStackModel" "low" "[I" ∈ wsX6_lay := (List.mem_of_getElem? (i := 5) rfl)
theorem zf_X6_lay_31 : Cond.fieldLink RX6 31 "GlassStackModel" "wide" "[I" ∈ wsX6_lay := (List.mem_of_getElem? (i := 7) rfl)
theorem zf_X6_lay_38 : Cond.fieldLink RX6 38 "GlassStackModel" "listUp" "[I" ∈ wsX6_lay := (List.mem_of_getElem? (i := 3) rfl)
theorem zf_X6_lay_41 : Cond.fieldLink RX6 41 "GlassStackModel" "listLow" "[I" ∈ wsX6_lay := (List.mem_of_getElem? (i := 6) rfl)
theorem zi_X6_lay_X6 : ∀ w ∈ wsX60, w ∈ wsX6_lay := fun w h => List.mem_cons_of_mem _ (List.mem_append_right _ h)
theorem zy_X6_lay : yX6_lay.cls = RX6 ∧ yX6_lay.cls ≠ "java/lang/invoke/MethodHandle" ∧ yX6_lay.cls ≠ "java/lang/invoke/VarHandle" ∧ (parseMethodDescriptor yX6_lay.desc).map (fun d => d.parameters.length) = some 3 := by decide +kernel
set_option maxHeartbeats 4000000 in
set_option maxRecDepth 100000 in
theorem zl_X6_lay_15 {p : Program} {l : Launch} {e : Env} {s : State} {m : MethodId} {args : Array Value} {below : List Frame} {meth : Method} {c : Code} {G : va_G} {cI : ClassId} {A : Nat → Prop} {Q : State → Prop} (adM qM1 qM2 qM3 qM4 qM5 qM6 qM7 qM8 qM12 qM13 qM15 qM16 qM17 qM18 qM19 qM20 qM21 : Nat) (c1 : Int32) (K96 : zMem → Prop) (C : zv_C p s m args c cX6_lay 6 RX6 wsX6_lay G cI A) (hK96 : ∀ (M : zMem), K96 M → zv_V p l e (headSpec wsX6_lay rmX6_lay).room s m args below meth c Q G A 6 0 0 (zd_X6_lay cI adM qM1 qM2 qM3 qM4 qM5 qM6 qM7 qM8 qM12 qM13 qM15 qM16 qM17 qM18 qM19 qM20 qM21 M) 96 [] []) : ∀ (k : Nat) (p4 : Int32) (p5 : Int32) (M : zMem), zw_X6_lay_15 c1 K96 k p4 p5 M → zv_V p l e (headSpec wsX6_lay rmX6_lay).room s m args below meth c Q G A 6 0 0 (zd_X6_lay cI adM qM1 qM2 qM3 qM4 qM5 qM6 qM7 qM8 qM12 qM13 qM15 qM16 qM17 qM18 qM19 qM20 qM21 M) 15 [(0, .ref adM), (1, .int c1), (4, .int p4), (5, .int p5)] [] := by
  intro k
  induction k with
  | zero => intro p4 p5 M hF; exact (show False from hF).elim
  | succ k ih =>
    intro p4 p5 M hF
    refine zv_iload (pc := 15) C 3 rfl dX6_lay_15 ?_
    refine zv_if_lt (pc := 17) (tgt := 96) C dX6_lay_17 (by decide) (fun c_4 => ?_) (fun c_4 => ?_)
    · replace hF := And.left hF c_4
      exact zv_lvs [] rfl (hK96 M hF)
    · replace hF := And.right hF c_4
      refine zv_aload_n (pc := 20) C rfl 0 rfl dX6_lay_20 ?_
      refine zv_get (pc := 21) (CC := RX6) (T := TX6) (N := 22) (ci := 5) (v := .ref qM6) C zi_X6_lay_X6 0 rfl 6 (by decide) zf_X6_lay_25 rfl rfl dX6_lay_21 ?_
      refine zv_bipush (pc := 24) (v := 6) C (by decide) dX6_lay_24 ?_
      refine zv_iload_n (pc := 26) C rfl 1 rfl dX6_lay_26 ?_
      refine zv_imul (pc := 27) C  dX6_lay_27 ?_
      refine zv_iload (pc := 28) C 3 rfl dX6_lay_28 ?_
      refine zv_iadd (pc := 30) C  dX6_lay_30 ?_
      refine zv_aload_n (pc := 31) C rfl 0 rfl dX6_lay_31 ?_
      refine zv_get (pc := 32) (CC := RX6) (T := TX6) (N := 22) (ci := 5) (v := .ref qM12) C zi_X6_lay_X6 0 rfl 12 (by decide) zf_X6_lay_38 rfl rfl dX6_lay_32 ?_
      refine zv_iload (pc := 35) C 2 rfl dX6_lay_35 ?_
      refine zv_aload_n (pc := 37) C rfl 0 rfl dX6_lay_37 ?_
      refine zv_get (pc := 38) (CC := RX6) (T := TX6) (N := 22) (ci := 5) (v := .int (M 11 0)) C zi_X6_lay_X6 0 rfl 11 (by decide) zf_X6_lay_183 rfl rfl dX6_lay_38 ?_
      obtain ⟨hz_5, hF⟩ := hF
      refine zv_irem (pc := 41) C hz_5 dX6_lay_41 ?_
      obtain ⟨h_6, hF⟩ := hF
      refine zv_iald (pc := 42) (n := 6) (f := (M 12)) C 9 h_6 rfl dX6_lay_42 ?_
      obtain ⟨h_7, hF⟩ := hF
      obtain ⟨r_8, er_8⟩ : ∃ y : zRow, y = (upd (M 6) (Int32.toNatClampNeg (((6 : Int32) * c1) + p5)) ((M 12) (Int32.toNatClampNeg (p4 - p4 / (M 11 0) * (M 11 0))))) := ⟨_, rfl⟩
      replace hF := hF r_8 er_8
      refine zv_iast (pc := 43) (n := 12) (f := (M 6)) (ws' := (zd_X6_lay cI adM qM1 qM2 qM3 qM4 qM5 qM6 qM7 qM8 qM12 qM13 qM15 qM16 qM17 qM18 qM19 qM20 qM21 (zset M 6 r_8))) C 6 h_7 rfl (by rw [er_8]; rfl) dX6_lay_43 ?_
      refine zv_aload_n (pc := 44) C rfl 0 rfl dX6_lay_44 ?_
      refine zv_get (pc := 45) (CC := RX6) (T := TX6) (N := 22) (ci := 5) (v := .ref qM7) C zi_X6_lay_X6 0 rfl 7 (by decide) zf_X6_lay_28 rfl rfl dX6_lay_45 ?_
      refine zv_bipush (pc := 48) (v := 6) C (by decide) dX6_lay_48 ?_
      refine zv_iload_n (pc := 50) C rfl 1 rfl dX6_lay_50 ?_
      refine zv_imul (pc := 51) C  dX6_lay_51 ?_
      refine zv_iload (pc := 52) C 3 rfl dX6_lay_52 ?_
      refine zv_iadd (pc := 54) C  dX6_lay_54 ?_
      refine zv_aload_n (pc := 55) C rfl 0 rfl dX6_lay_55 ?_
      refine zv_get (pc := 56) (CC := RX6) (T := TX6) (N := 22) (ci := 5) (v := .ref qM13) C zi_X6_lay_X6 0 rfl 13 (by decide) zf_X6_lay_41 rfl rfl dX6_lay_56 ?_
      refine zv_iload (pc := 59) C 2 rfl dX6_lay_59 ?_
      refine zv_aload_n (pc := 61) C rfl 0 rfl dX6_lay_61 ?_
      refine zv_get (pc := 62) (CC := RX6) (T := TX6) (N := 22) (ci := 5) (v := .int (M 11 0)) C zi_X6_lay_X6 0 rfl 11 (by decide) zf_X6_lay_183 rfl rfl dX6_lay_62 ?_
      obtain ⟨hz_9, hF⟩ := hF
      refine zv_irem (pc := 65) C hz_9 dX6_lay_65 ?_
      obtain ⟨h_10, hF⟩ := hF
      refine zv_iald (pc := 66) (n := 6) (f := (M 13)) C 10 h_10 rfl dX6_lay_66 ?_
      obtain ⟨h_11, hF⟩ := hF
      obtain ⟨r_12, er_12⟩ : ∃ y : zRow, y = (upd (M 7) (Int32.toNatClampNeg (((6 : Int32) * c1) + p5)) ((M 13) (Int32.toNatClampNeg (p4 - p4 / (M 11 0) * (M 11 0))))) := ⟨_, rfl⟩
      replace hF := hF r_12 er_12
      refine zv_iast (pc := 67) (n := 12) (f := (M 7)) (ws' := (zd_X6_lay cI adM qM1 qM2 qM3 qM4 qM5 qM6 qM7 qM8 qM12 qM13 qM15 qM16 qM17 qM18 qM19 qM20 qM21 (zset (zset M 6 r_8) 7 r_12))) C 7 h_11 rfl (by rw [er_12]; rfl) dX6_lay_67 ?_
      refine zv_aload_n (pc := 68) C rfl 0 rfl dX6_lay_68 ?_
      refine zv_get (pc := 69) (CC := RX6) (T := TX6) (N := 22) (ci := 5) (v := .ref qM8) C zi_X6_lay_X6 0 rfl 8 (by decide) zf_X6_lay_31 rfl rfl dX6_lay_69 ?_
      refine zv_bipush (pc := 72) (v := 6) C (by decide) dX6_lay_72 ?_
      refine zv_iload_n (pc := 74) C rfl 1 rfl dX6_lay_74 ?_
      refine zv_imul (pc := 75) C  dX6_lay_75 ?_
      refine zv_iload (pc := 76) C 3 rfl dX6_lay_76 ?_
      refine zv_iadd (pc := 78) C  dX6_lay_78 ?_
      refine zv_iconst (pc := 79) (v := 1) C (by decide) dX6_lay_79 ?_
      obtain ⟨h_13, hF⟩ := hF
      obtain ⟨r_14, er_14⟩ : ∃ y : zRow, y = (upd (M 8) (Int32.toNatClampNeg (((6 : Int32) * c1) + p5)) (1 : Int32)) := ⟨_, rfl⟩
      replace hF := hF r_14 er_14
      refine zv_iast (pc := 80) (n := 12) (f := (M 8)) (ws' := (zd_X6_lay cI adM qM1 qM2 qM3 qM4 qM5 qM6 qM7 qM8 qM12 qM13 qM15 qM16 qM17 qM18 qM19 qM20 qM21 (zset (zset (zset M 6 r_8) 7 r_12) 8 r_14))) C 8 h_13 rfl (by rw [er_14]; rfl) dX6_lay_80 ?_
      refine zv_iload (pc := 81) C 2 rfl dX6_lay_81 ?_
      refine zv_aload_n (pc := 83) C rfl 0 rfl dX6_lay_83 ?_
      refine zv_get (pc := 84) (CC := RX6) (T := TX6) (N := 22) (ci := 5) (v := .int (M 11 0)) C zi_X6_lay_X6 0 rfl 11 (by decide) zf_X6_lay_183 rfl rfl dX6_lay_84 ?_
      obtain ⟨hz_15, hF⟩ := hF
      refine zv_idiv (pc := 87) C hz_15 dX6_lay_87 ?_
      refine zv_topi (fun x4_16 ex4_16 => ?_)
      replace hF := hF x4_16 ex4_16
      refine zv_istore (pc := 88) (lv' := [(4, .int x4_16), (0, .ref adM), (1, .int c1), (5, .int p5)]) C (by decide) rfl dX6_lay_88 ?_
      obtain ⟨x5_17, ex5_17⟩ : ∃ y : Int32, y = p5 + (-1 : Int32) := ⟨_, rfl⟩
      replace hF := hF x5_17 ex5_17
      refine zv_iinc (pc := 90) (v := x5_17) (lv' := [(5, .int x5_17), (4, .int x4_16), (0, .ref adM), (1, .int c1)]) C 3 rfl (by rw [ex5_17]; rfl) (by decide) rfl dX6_lay_90 ?_
      refine zv_goto (pc := 93) (tgt := 15) C dX6_lay_93 (by decide) ?_
      exact zv_lvs [2, 3, 1, 0] rfl (ih x4_16 x5_17 (zset (zset (zset M 6 r_8) 7 r_12) 8 r_14) hF)
set_option maxHeartbeats 4000000 in
set_option maxRecDepth 100000 in
theorem zc_X6_lay (l : Launch) (G : va_G) (cI : ClassId) (adM qM1 qM2 qM3 qM4 qM5 qM6 qM7 qM8 qM12 qM13 qM15 qM16 qM17 qM18 qM19 qM20 qM21 : Nat) (M : zMem) (a1 : Int32) (a2 : Int32) (a3 : Int32) (post : zMem → Prop) (hF : zw_X6_lay M a1 a2 a3 post) (sz : Nat) : Met l yX6_lay wsX6_lay rmX6_lay (va_Pc [.ref adM, .int a1, .int a2, .int a3] (zv_in G cI (zd_X6_lay cI adM qM1 qM2 qM3 qM4 qM5 qM6 qM7 qM8 qM12 qM13 qM15 qM16 qM17 qM18 qM19 qM20 qM21 M) sz)) (va_Qv (fun uz : zMem => post uz) (fun (uz : zMem) t => zv_out G cI (va_A (zd_X6_lay cI adM qM1 qM2 qM3 qM4 qM5 qM6 qM7 qM8 qM12 qM13 qM15 qM16 qM17 qM18 qM19 qM20 qM21 M) sz) (zd_X6_lay cI adM qM1 qM2 qM3 qM4 qM5 qM6 qM7 qM8 qM12 qM13 qM15 qM16 qM17 qM18 qM19 qM20 qM21 uz) t) (va_A (zd_X6_lay cI adM qM1 qM2 qM3 qM4 qM5 qM6 qM7 qM8 qM12 qM13 qM15 qM16 qM17 qM18 qM19 qM20 qM21 M) sz)) 0 0 (va_A (zd_X6_lay cI adM qM1 qM2 qM3 qM4 qM5 qM6 qM7 qM8 qM12 qM13 qM15 qM16 qM17 qM18 qM19 qM20 qM21 M) sz) := by
  refine zv_met (cc := cX6_lay) (maxL := 6) (ret := none) (lv0 := [(0, .ref adM), (1, .int a1), (2, .int a2), (3, .int a3)]) (Qc := fun A => va_Qv (fun uz : zMem => post uz) (fun (uz : zMem) t => zv_out G cI A (zd_X6_lay cI adM qM1 qM2 qM3 qM4 qM5 qM6 qM7 qM8 qM12 qM13 qM15 qM16 qM17 qM18 qM19 qM20 qM21 uz) t) A) (by decide) rfl (Nat.le_of_ble_eq_true rfl) rfl ?_ sz
  intro p e s m below meth c A C hr hlk
  clear sz
  refine zv_iload_n (pc := 0) C rfl 3 rfl dX6_lay_0 ?_
  refine zv_istore (pc := 1) (lv' := [(4, .int a3), (0, .ref adM), (1, .int a1), (2, .int a2), (3, .int a3)]) C (by decide) rfl dX6_lay_1 ?_
  refine zv_aload_n (pc := 3) C rfl 1 rfl dX6_lay_3 ?_
  refine zv_get (pc := 4) (CC := RX6) (T := TX6) (N := 22) (ci := 5) (v := .ref qM5) C zi_X6_lay_X6 0 rfl 5 (by decide) zf_X6_lay_22 rfl rfl dX6_lay_4 ?_
  refine zv_iload_n (pc := 7) C rfl 2 rfl dX6_lay_7 ?_
  refine zv_iload_n (pc := 8) C rfl 3 rfl dX6_lay_8 ?_
  obtain ⟨h_1, hF⟩ := hF
  obtain ⟨r_2, er_2⟩ : ∃ y : zRow, y = (upd (M 5) (Int32.toNatClampNeg a1) a2) := ⟨_, rfl⟩
  replace hF := hF r_2 er_2
  refine zv_iast (pc := 9) (n := 2) (f := (M 5)) (ws' := (zd_X6_lay cI adM qM1 qM2 qM3 qM4 qM5 qM6 qM7 qM8 qM12 qM13 qM15 qM16 qM17 qM18 qM19 qM20 qM21 (zset M 5 r_2))) C 5 h_1 rfl (by rw [er_2]; rfl) dX6_lay_9 ?_
  refine zv_iload_n (pc := 10) C rfl 3 rfl dX6_lay_10 ?_
  refine zv_iconst (pc := 11) (v := 1) C (by decide) dX6_lay_11 ?_
  refine zv_isub (pc := 12) C  dX6_lay_12 ?_
  refine zv_topi (fun x5_3 ex5_3 => ?_)
  replace hF := hF x5_3 ex5_3
  refine zv_istore (pc := 13) (lv' := [(5, .int x5_3), (4, .int a3), (0, .ref adM), (1, .int a1), (2, .int a2), (3, .int a3)]) C (by decide) rfl dX6_lay_13 ?_
  obtain ⟨kf, hF⟩ := hF
  refine zv_lvs [2, 3, 1, 0] rfl (zl_X6_lay_15 adM qM1 qM2 qM3 qM4 qM5 qM6 qM7 qM8 qM12 qM13 qM15 qM16 qM17 qM18 qM19 qM20 qM21 a1 _ C ?_ kf a3 x5_3 (zset M 5 r_2) hF)
  · intro T_18 hF
    exact zv_vret (pc := 96) C hr hlk T_18 hF rfl dX6_lay_96
theorem zf_X6_choose_159 : Cond.fieldLink RX6 159 "GlassStackModel" "lightU" "I" ∈ wsX6_choose := (List.mem_of_getElem? (i := 3) rfl)
theorem zf_X6_choose_183 : Cond.fieldLink RX6 183 "GlassStackModel" "listed" "I" ∈ wsX6_choose := (List.mem_of_getElem? (i := 2) rfl)
theorem zf_X6_choose_22 : Cond.fieldLink RX6 22 "GlassStackModel" "many" "[I" ∈ wsX6_choose := (List.mem_of_getElem? (i := 1) rfl)
theorem zf_X6_choose_34 : Cond.fieldLink RX6 34 "GlassStackModel" "lightV" "I" ∈ wsX6_choose := (List.mem_of_getElem? (i := 4) rfl)
theorem zi_X6_choose_X6 : ∀ w ∈ wsX60, w ∈ wsX6_choose := fun w h => List.mem_cons_of_mem _ (List.mem_append_right _ h)
theorem zy_X6_choose : yX6_choose.cls = RX6 ∧ yX6_choose.cls ≠ "java/lang/invoke/MethodHandle" ∧ yX6_choose.cls ≠ "java/lang/invoke/VarHandle" ∧ (parseMethodDescriptor yX6_choose.desc).map (fun d => d.parameters.length) = some 2 := by decide +kernel
set_option maxHeartbeats 4000000 in
set_option maxRecDepth 100000 in
theorem zl_X6_choose_71 {p : Program} {l : Launch} {e : Env} {s : State} {m : MethodId} {args : Array Value} {below : List Frame} {meth : Method} {c : Code} {G : va_G} {cI : ClassId} {A : Nat → Prop} {Q : State → Prop} (adM qM1 qM2 qM3 qM4 qM5 qM6 qM7 qM8 qM12 qM13 qM15 qM16 qM17 qM18 qM19 qM20 qM21 : Nat) (c1 : Int32) (c2 : Int32) (c3 : Int32) (K143 : Int32 → zMem → Prop) (C : zv_C p s m args c cX6_choose 6 RX6 wsX6_choose G cI A) (hK143 : ∀ (p4 : Int32) (M : zMem), K143 p4 M → zv_V p l e (headSpec wsX6_choose rmX6_choose).room s m args below meth c Q G A 6 0 0 (zd_X6_choose cI adM qM1 qM2 qM3 qM4 qM5 qM6 qM7 qM8 qM12 qM13 qM15 qM16 qM17 qM18 qM19 qM20 qM21 M) 143 [(0, .ref adM), (1, .int c1), (2, .int c2), (3, .int c3), (4, .int p4)] []) : ∀ (k : Nat) (p4 : Int32) (p5 : Int32) (M : zMem), zw_X6_choose_71 c1 c2 c3 K143 k p4 p5 M → zv_V p l e (headSpec wsX6_choose rmX6_choose).room s m args below meth c Q G A 6 0 0 (zd_X6_choose cI adM qM1 qM2 qM3 qM4 qM5 qM6 qM7 qM8 qM12 qM13 qM15 qM16 qM17 qM18 qM19 qM20 qM21 M) 71 [(0, .ref adM), (1, .int c1), (2, .int c2), (3, .int c3), (4, .int p4), (5, .int p5)] [] := by
  intro k
  induction k with
  | zero => intro p4 p5 M hF; exact (show False from hF).elim
  | succ k ih =>
    intro p4 p5 M hF
    refine zv_iload (pc := 71) C 5 rfl dX6_choose_71 ?_
    refine zv_iload_n (pc := 73) C rfl 3 rfl dX6_choose_73 ?_
    refine zv_icmp_ge (pc := 74) (tgt := 143) C dX6_choose_74 (by decide) (fun c_12 => ?_) (fun c_12 => ?_)
    · replace hF := And.left hF c_12
      exact zv_lvs [0, 1, 2, 3, 4] rfl (hK143 p4 M hF)
    · replace hF := And.right hF c_12
      refine zv_aload_n (pc := 77) C rfl 0 rfl dX6_choose_77 ?_
      refine zv_iload_n (pc := 78) C rfl 1 rfl dX6_choose_78 ?_
      refine zv_iload_n (pc := 79) C rfl 2 rfl dX6_choose_79 ?_
      refine zv_iload (pc := 80) C 5 rfl dX6_choose_80 ?_
      refine zv_cv0 (pc := 82) (ws' := (fun uz : zMem => (zd_X6_choose cI adM qM1 qM2 qM3 qM4 qM5 qM6 qM7 qM8 qM12 qM13 qM15 qM16 qM17 qM18 qM19 qM20 qM21 uz))) C (zv_runV (As := [.int c1, .int c2, .int p5]) (b := adM) (rest := []) (ci := 5) (q0 := 0) C (zc_X6_lay l G cI adM qM1 qM2 qM3 qM4 qM5 qM6 qM7 qM8 qM12 qM13 qM15 qM16 qM17 qM18 qM19 qM20 qM21 M c1 c2 p5 _ hF) (cwV 3 C.2.2.2.2.1 gX6_choose_X6_lay rfl rfl rfl zy_X6_lay ⟨Nat.le_of_ble_eq_true rfl, Nat.le_of_ble_eq_true rfl⟩) rfl rfl rfl rfl rfl (Nat.le_of_ble_eq_true rfl) ⟨Nat.zero_le _, Nat.zero_le _⟩ dX6_choose_82) [0, 1, 2, 3, 4, 5, 6, 7, 8, 9, 10, 11, 12, 13, 14, 15, 16, 17] [] rfl rfl rfl rfl rfl (fun _ => rfl) (fun _ => rfl) (fun _ => rfl) (fun uz hF => ?_)
      obtain ⟨T_13, hE⟩ : ∃ z, z = uz := ⟨_, rfl⟩; subst hE
      refine zv_aload_n (pc := 85) C rfl 0 rfl dX6_choose_85 ?_
      refine zv_iload_n (pc := 86) C rfl 1 rfl dX6_choose_86 ?_
      refine zv_aload_n (pc := 87) C rfl 0 rfl dX6_choose_87 ?_
      refine zv_get (pc := 88) (CC := RX6) (T := TX6) (N := 22) (ci := 5) (v := .int (T_13 9 0)) C zi_X6_choose_X6 0 rfl 9 (by decide) zf_X6_choose_159 rfl rfl dX6_choose_88 ?_
      refine zv_aload_n (pc := 91) C rfl 0 rfl dX6_choose_91 ?_
      refine zv_get (pc := 92) (CC := RX6) (T := TX6) (N := 22) (ci := 5) (v := .int (T_13 10 0)) C zi_X6_choose_X6 0 rfl 10 (by decide) zf_X6_choose_34 rfl rfl dX6_choose_92 ?_
      refine zv_cv0 (pc := 95) (ws' := (fun uz : zMem => (zd_X6_choose cI adM qM1 qM2 qM3 qM4 qM5 qM6 qM7 qM8 qM12 qM13 qM15 qM16 qM17 qM18 qM19 qM20 qM21 uz))) C (zv_runV (As := [.int c1, .int (T_13 9 0), .int (T_13 10 0)]) (b := adM) (rest := []) (ci := 5) (q0 := 0) C (zc_X6_backOf l G cI adM qM1 qM2 qM3 qM4 qM5 qM6 qM7 qM8 qM12 qM13 qM15 qM16 qM17 qM18 qM19 qM20 qM21 T_13 c1 (T_13 9 0) (T_13 10 0) _ hF) (cwV 3 C.2.2.2.2.1 gX6_choose_X6_backOf rfl rfl rfl zy_X6_backOf ⟨Nat.le_of_ble_eq_true rfl, Nat.le_of_ble_eq_true rfl⟩) rfl rfl rfl rfl rfl (Nat.le_of_ble_eq_true rfl) ⟨Nat.zero_le _, Nat.zero_le _⟩ dX6_choose_95) [0, 1, 2, 3, 4, 5, 6, 7, 8, 9, 10, 11, 12, 13, 14, 15, 16, 17] [] rfl rfl rfl rfl rfl (fun _ => rfl) (fun _ => rfl) (fun _ => rfl) (fun uz hF => ?_)
      obtain ⟨T_14, hE⟩ : ∃ z, z = uz := ⟨_, rfl⟩; subst hE
      refine zv_iload (pc := 98) C 5 rfl dX6_choose_98 ?_
      refine zv_if_le (pc := 100) (tgt := 117) C dX6_choose_100 (by decide) (fun c_15 => ?_) (fun c_15 => ?_)
      · replace hF := And.left hF c_15
        refine zv_iload (pc := 117) C 5 rfl dX6_choose_117 ?_
        refine zv_istore (pc := 119) (lv' := [(4, .int p5), (0, .ref adM), (1, .int c1), (2, .int c2), (3, .int c3), (5, .int p5)]) C (by decide) rfl dX6_choose_119 ?_
        refine zv_aload_n (pc := 121) C rfl 1 rfl dX6_choose_121 ?_
        refine zv_bipush (pc := 122) (v := 16) C (by decide) dX6_choose_122 ?_
        refine zv_bipush (pc := 124) (v := 14) C (by decide) dX6_choose_124 ?_
        refine zv_cv0 (pc := 126) (ws' := (fun uz : zMem => (zd_X6_choose cI adM qM1 qM2 qM3 qM4 qM5 qM6 qM7 qM8 qM12 qM13 qM15 qM16 qM17 qM18 qM19 qM20 qM21 uz))) C (zv_runV (As := [.int (16 : Int32), .int (14 : Int32)]) (b := adM) (rest := []) (ci := 5) (q0 := 0) C (zc_X6_copy l G cI adM qM1 qM2 qM3 qM4 qM5 qM6 qM7 qM8 qM12 qM13 qM15 qM16 qM17 qM18 qM19 qM20 qM21 T_14 (16 : Int32) (14 : Int32) _ hF) (cwV 2 C.2.2.2.2.1 gX6_choose_X6_copy rfl rfl rfl zy_X6_copy ⟨Nat.le_of_ble_eq_true rfl, Nat.le_of_ble_eq_true rfl⟩) rfl rfl rfl rfl rfl (Nat.le_of_ble_eq_true rfl) ⟨Nat.zero_le _, Nat.zero_le _⟩ dX6_choose_126) [0, 1, 2, 3, 4, 5, 6, 7, 8, 9, 10, 11, 12, 13, 14, 15, 16, 17] [] rfl rfl rfl rfl rfl (fun _ => rfl) (fun _ => rfl) (fun _ => rfl) (fun uz hF => ?_)
        obtain ⟨T_16, hE⟩ : ∃ z, z = uz := ⟨_, rfl⟩; subst hE
        refine zv_aload_n (pc := 129) C rfl 1 rfl dX6_choose_129 ?_
        refine zv_bipush (pc := 130) (v := 17) C (by decide) dX6_choose_130 ?_
        refine zv_bipush (pc := 132) (v := 15) C (by decide) dX6_choose_132 ?_
        refine zv_cv0 (pc := 134) (ws' := (fun uz : zMem => (zd_X6_choose cI adM qM1 qM2 qM3 qM4 qM5 qM6 qM7 qM8 qM12 qM13 qM15 qM16 qM17 qM18 qM19 qM20 qM21 uz))) C (zv_runV (As := [.int (17 : Int32), .int (15 : Int32)]) (b := adM) (rest := []) (ci := 5) (q0 := 0) C (zc_X6_copy l G cI adM qM1 qM2 qM3 qM4 qM5 qM6 qM7 qM8 qM12 qM13 qM15 qM16 qM17 qM18 qM19 qM20 qM21 T_16 (17 : Int32) (15 : Int32) _ hF) (cwV 2 C.2.2.2.2.1 gX6_choose_X6_copy rfl rfl rfl zy_X6_copy ⟨Nat.le_of_ble_eq_true rfl, Nat.le_of_ble_eq_true rfl⟩) rfl rfl rfl rfl rfl (Nat.le_of_ble_eq_true rfl) ⟨Nat.zero_le _, Nat.zero_le _⟩ dX6_choose_134) [0, 1, 2, 3, 4, 5, 6, 7, 8, 9, 10, 11, 12, 13, 14, 15, 16, 17] [] rfl rfl rfl rfl rfl (fun _ => rfl) (fun _ => rfl) (fun _ => rfl) (fun uz hF => ?_)
        obtain ⟨T_17, hE⟩ : ∃ z, z = uz := ⟨_, rfl⟩; subst hE
        obtain ⟨x5_18, ex5_18⟩ : ∃ y : Int32, y = p5 + (1 : Int32) := ⟨_, rfl⟩
        replace hF := hF x5_18 ex5_18
        refine zv_iinc (pc := 137) (v := x5_18) (lv' := [(5, .int x5_18), (4, .int p5), (0, .ref adM), (1, .int c1), (2, .int c2), (3, .int c3)]) C 5 rfl (by rw [ex5_18]; rfl) (by decide) rfl dX6_choose_137 ?_
        refine zv_goto (pc := 140) (tgt := 71) C dX6_choose_140 (by decide) ?_
        exact zv_lvs [2, 3, 4, 5, 1, 0] rfl (ih p5 x5_18 T_17 hF)
      · replace hF := And.right hF c_15
        refine zv_aload_n (pc := 103) C rfl 0 rfl dX6_choose_103 ?_
        refine zv_bipush (pc := 104) (v := 16) C (by decide) dX6_choose_104 ?_
        refine zv_bipush (pc := 106) (v := 17) C (by decide) dX6_choose_106 ?_
        refine zv_ci0 (pc := 108) (ws' := (fun uz : zMem => (zd_X6_choose cI adM qM1 qM2 qM3 qM4 qM5 qM6 qM7 qM8 qM12 qM13 qM15 qM16 qM17 qM18 qM19 qM20 qM21 uz))) C (zv_runV (As := [.int (16 : Int32), .int (17 : Int32)]) (b := adM) (rest := []) (ci := 5) (q0 := 0) C (zc_X6_against l G cI adM qM1 qM2 qM3 qM4 qM5 qM6 qM7 qM8 qM12 qM13 qM15 qM16 qM17 qM18 qM19 qM20 qM21 T_14 (16 : Int32) (17 : Int32) _ hF) (cwV 2 C.2.2.2.2.1 gX6_choose_X6_against rfl rfl rfl zy_X6_against ⟨Nat.le_of_ble_eq_true rfl, Nat.le_of_ble_eq_true rfl⟩) rfl rfl rfl rfl rfl (Nat.le_of_ble_eq_true rfl) ⟨Nat.zero_le _, Nat.zero_le _⟩ dX6_choose_108) [0, 1, 2, 3, 4, 5, 6, 7, 8, 9, 10, 11, 12, 13, 14, 15, 16, 17] [] rfl rfl rfl rfl rfl (fun _ => rfl) (fun _ => rfl) (fun _ => rfl) (fun v_20 uz hF => ?_)
        obtain ⟨T_19, hE⟩ : ∃ z, z = uz := ⟨_, rfl⟩; subst hE
        refine zv_if_lt (pc := 111) (tgt := 117) C dX6_choose_111 (by decide) (fun c_21 => ?_) (fun c_21 => ?_)
        · replace hF := And.left hF c_21
          refine zv_iload (pc := 117) C 5 rfl dX6_choose_117 ?_
          refine zv_istore (pc := 119) (lv' := [(4, .int p5), (0, .ref adM), (1, .int c1), (2, .int c2), (3, .int c3), (5, .int p5)]) C (by decide) rfl dX6_choose_119 ?_
          refine zv_aload_n (pc := 121) C rfl 1 rfl dX6_choose_121 ?_
          refine zv_bipush (pc := 122) (v := 16) C (by decide) dX6_choose_122 ?_
          refine zv_bipush (pc := 124) (v := 14) C (by decide) dX6_choose_124 ?_
          refine zv_cv0 (pc := 126) (ws' := (fun uz : zMem => (zd_X6_choose cI adM qM1 qM2 qM3 qM4 qM5 qM6 qM7 qM8 qM12 qM13 qM15 qM16 qM17 qM18 qM19 qM20 qM21 uz))) C (zv_runV (As := [.int (16 : Int32), .int (14 : Int32)]) (b := adM) (rest := []) (ci := 5) (q0 := 0) C (zc_X6_copy l G cI adM qM1 qM2 qM3 qM4 qM5 qM6 qM7 qM8 qM12 qM13 qM15 qM16 qM17 qM18 qM19 qM20 qM21 T_19 (16 : Int32) (14 : Int32) _ hF) (cwV 2 C.2.2.2.2.1 gX6_choose_X6_copy rfl rfl rfl zy_X6_copy ⟨Nat.le_of_ble_eq_true rfl, Nat.le_of_ble_eq_true rfl⟩) rfl rfl rfl rfl rfl (Nat.le_of_ble_eq_true rfl) ⟨Nat.zero_le _, Nat.zero_le _⟩ dX6_choose_126) [0, 1, 2, 3, 4, 5, 6, 7, 8, 9, 10, 11, 12, 13, 14, 15, 16, 17] [] rfl rfl rfl rfl rfl (fun _ => rfl) (fun _ => rfl) (fun _ => rfl) (fun uz hF => ?_)
          obtain ⟨T_22, hE⟩ : ∃ z, z = uz := ⟨_, rfl⟩; subst hE
          refine zv_aload_n (pc := 129) C rfl 1 rfl dX6_choose_129 ?_
          refine zv_bipush (pc := 130) (v := 17) C (by decide) dX6_choose_130 ?_
          refine zv_bipush (pc := 132) (v := 15) C (by decide) dX6_choose_132 ?_
          refine zv_cv0 (pc := 134) (ws' := (fun uz : zMem => (zd_X6_choose cI adM qM1 qM2 qM3 qM4 qM5 qM6 qM7 qM8 qM12 qM13 qM15 qM16 qM17 qM18 qM19 qM20 qM21 uz))) C (zv_runV (As := [.int (17 : Int32), .int (15 : Int32)]) (b := adM) (rest := []) (ci := 5) (q0 := 0) C (zc_X6_copy l G cI adM qM1 qM2 qM3 qM4 qM5 qM6 qM7 qM8 qM12 qM13 qM15 qM16 qM17 qM18 qM19 qM20 qM21 T_22 (17 : Int32) (15 : Int32) _ hF) (cwV 2 C.2.2.2.2.1 gX6_choose_X6_copy rfl rfl rfl zy_X6_copy ⟨Nat.le_of_ble_eq_true rfl, Nat.le_of_ble_eq_true rfl⟩) rfl rfl rfl rfl rfl (Nat.le_of_ble_eq_true rfl) ⟨Nat.zero_le _, Nat.zero_le _⟩ dX6_choose_134) [0, 1, 2, 3, 4, 5, 6, 7, 8, 9, 10, 11, 12, 13, 14, 15, 16, 17] [] rfl rfl rfl rfl rfl (fun _ => rfl) (fun _ => rfl) (fun _ => rfl) (fun uz hF => ?_)
          obtain ⟨T_23, hE⟩ : ∃ z, z = uz := ⟨_, rfl⟩; subst hE
          obtain ⟨x5_24, ex5_24⟩ : ∃ y : Int32, y = p5 + (1 : Int32) := ⟨_, rfl⟩
          replace hF := hF x5_24 ex5_24
          refine zv_iinc (pc := 137) (v := x5_24) (lv' := [(5, .int x5_24), (4, .int p5), (0, .ref adM), (1, .int c1), (2, .int c2), (3, .int c3)]) C 5 rfl (by rw [ex5_24]; rfl) (by decide) rfl dX6_choose_137 ?_
          refine zv_goto (pc := 140) (tgt := 71) C dX6_choose_140 (by decide) ?_
          exact zv_lvs [2, 3, 4, 5, 1, 0] rfl (ih p5 x5_24 T_23 hF)
        · replace hF := And.right hF c_21
          refine zv_goto (pc := 114) (tgt := 137) C dX6_choose_114 (by decide) ?_
          obtain ⟨x5_25, ex5_25⟩ : ∃ y : Int32, y = p5 + (1 : Int32) := ⟨_, rfl⟩
          replace hF := hF x5_25 ex5_25
          refine zv_iinc (pc := 137) (v := x5_25) (lv' := [(5, .int x5_25), (0, .ref adM), (1, .int c1), (2, .int c2), (3, .int c3), (4, .int p4)]) C 5 rfl (by rw [ex5_25]; rfl) (by decide) rfl dX6_choose_137 ?_
          refine zv_goto (pc := 140) (tgt := 71) C dX6_choose_140 (by decide) ?_
          exact zv_lvs [1, 2, 3, 4, 5, 0] rfl (ih p4 x5_25 T_19 hF)
set_option maxHeartbeats 4000000 in
set_option maxRecDepth 100000 in
theorem zc_X6_choose (l : Launch) (G : va_G) (cI : ClassId) (adM qM1 qM2 qM3 qM4 qM5 qM6 qM7 qM8 qM12 qM13 qM15 qM16 qM17 qM18 qM19 qM20 qM21 : Nat) (M : zMem) (a1 : Int32) (a2 : Int32) (post : Int32 → zMem → Prop) (hF : zw_X6_choose M a1 a2 post) (sz : Nat) : Met l yX6_choose wsX6_choose rmX6_choose (va_Pc [.ref adM, .int a1, .int a2] (zv_in G cI (zd_X6_choose cI adM qM1 qM2 qM3 qM4 qM5 qM6 qM7 qM8 qM12 qM13 qM15 qM16 qM17 qM18 qM19 qM20 qM21 M) sz)) (va_Qi (fun (rz : Int32) (uz : zMem) => post rz uz) (fun (uz : zMem) t => zv_out G cI (va_A (zd_X6_choose cI adM qM1 qM2 qM3 qM4 qM5 qM6 qM7 qM8 qM12 qM13 qM15 qM16 qM17 qM18 qM19 qM20 qM21 M) sz) (zd_X6_choose cI adM qM1 qM2 qM3 qM4 qM5 qM6 qM7 qM8 qM12 qM13 qM15 qM16 qM17 qM18 qM19 qM20 qM21 uz) t) (va_A (zd_X6_choose cI adM qM1 qM2 qM3 qM4 qM5 qM6 qM7 qM8 qM12 qM13 qM15 qM16 qM17 qM18 qM19 qM20 qM21 M) sz)) 0 0 (va_A (zd_X6_choose cI adM qM1 qM2 qM3 qM4 qM5 qM6 qM7 qM8 qM12 qM13 qM15 qM16 qM17 qM18 qM19 qM20 qM21 M) sz) := by
  refine zv_met (cc := cX6_choose) (maxL := 6) (ret := (some .int)) (lv0 := [(0, .ref adM), (1, .int a1), (2, .int a2)]) (Qc := fun A => va_Qi (fun (rz : Int32) (uz : zMem) => post rz uz) (fun (uz : zMem) t => zv_out G cI A (zd_X6_choose cI adM qM1 qM2 qM3 qM4 qM5 qM6 qM7 qM8 qM12 qM13 qM15 qM16 qM17 qM18 qM19 qM20 qM21 uz) t) A) (by decide) rfl (Nat.le_of_ble_eq_true rfl) rfl ?_ sz
  intro p e s m below meth c A C hr hlk
  clear sz
  refine zv_aload_n (pc := 0) C rfl 0 rfl dX6_choose_0 ?_
  refine zv_iload_n (pc := 1) C rfl 1 rfl dX6_choose_1 ?_
  refine zv_ci0 (pc := 2) (ws' := (fun uz : zMem => (zd_X6_choose cI adM qM1 qM2 qM3 qM4 qM5 qM6 qM7 qM8 qM12 qM13 qM15 qM16 qM17 qM18 qM19 qM20 qM21 uz))) C (zv_runV (As := [.int a1]) (b := adM) (rest := []) (ci := 5) (q0 := 0) C (zc_X6_isStack l G cI adM qM1 qM2 qM3 qM4 qM5 qM6 qM7 qM8 qM12 qM13 qM15 qM16 qM17 qM18 qM19 qM20 qM21 M a1 _ hF) (cwV 1 C.2.2.2.2.1 gX6_choose_X6_isStack rfl rfl rfl zy_X6_isStack ⟨Nat.le_of_ble_eq_true rfl, Nat.le_of_ble_eq_true rfl⟩) rfl rfl rfl rfl rfl (Nat.le_of_ble_eq_true rfl) ⟨Nat.zero_le _, Nat.zero_le _⟩ dX6_choose_2) [0, 1, 2, 3, 4, 5, 6, 7, 8, 9, 10, 11, 12, 13, 14, 15, 16, 17] [] rfl rfl rfl rfl rfl (fun _ => rfl) (fun _ => rfl) (fun _ => rfl) (fun v_2 uz hF => ?_)
  obtain ⟨T_1, hE⟩ : ∃ z, z = uz := ⟨_, rfl⟩; subst hE
  refine zv_if_eq (pc := 5) (tgt := 30) C dX6_choose_5 (by decide) (fun c_3 => ?_) (fun c_3 => ?_)
  · replace hF := And.left hF c_3
    refine zv_iconst (pc := 30) (v := 0) C (by decide) dX6_choose_30 ?_
    exact zv_iret (pc := 31) C hr hlk (0 : Int32) T_1 hF rfl dX6_choose_31
  · replace hF := And.right hF c_3
    refine zv_aload_n (pc := 8) C rfl 0 rfl dX6_choose_8 ?_
    refine zv_iload_n (pc := 9) C rfl 2 rfl dX6_choose_9 ?_
    refine zv_if_lt (pc := 10) (tgt := 22) C dX6_choose_10 (by decide) (fun c_4 => ?_) (fun c_4 => ?_)
    · replace hF := And.left hF c_4
      refine zv_iconst (pc := 22) (v := 0) C (by decide) dX6_choose_22 ?_
      refine zv_iconst (pc := 23) (v := 2) C (by decide) dX6_choose_23 ?_
      refine zv_ci0 (pc := 24) (ws' := (fun uz : zMem => (zd_X6_choose cI adM qM1 qM2 qM3 qM4 qM5 qM6 qM7 qM8 qM12 qM13 qM15 qM16 qM17 qM18 qM19 qM20 qM21 uz))) C (zv_runV (As := [.int (0 : Int32), .int (2 : Int32)]) (b := adM) (rest := []) (ci := 5) (q0 := 0) C (zc_X6_right l G cI adM qM1 qM2 qM3 qM4 qM5 qM6 qM7 qM8 qM12 qM13 qM15 qM16 qM17 qM18 qM19 qM20 qM21 T_1 (0 : Int32) (2 : Int32) _ hF) (cwV 2 C.2.2.2.2.1 gX6_choose_X6_right rfl rfl rfl zy_X6_right ⟨Nat.le_of_ble_eq_true rfl, Nat.le_of_ble_eq_true rfl⟩) rfl rfl rfl rfl rfl (Nat.le_of_ble_eq_true rfl) ⟨Nat.zero_le _, Nat.zero_le _⟩ dX6_choose_24) [0, 1, 2, 3, 4, 5, 6, 7, 8, 9, 10, 11, 12, 13, 14, 15, 16, 17] [] rfl rfl rfl rfl rfl (fun _ => rfl) (fun _ => rfl) (fun _ => rfl) (fun v_6 uz hF => ?_)
      obtain ⟨T_5, hE⟩ : ∃ z, z = uz := ⟨_, rfl⟩; subst hE
      refine zv_if_ne (pc := 27) (tgt := 32) C dX6_choose_27 (by decide) (fun c_7 => ?_) (fun c_7 => ?_)
      · replace hF := And.left hF c_7
        refine zv_iload_n (pc := 32) C rfl 2 rfl dX6_choose_32 ?_
        refine zv_if_ne (pc := 33) (tgt := 45) C dX6_choose_33 (by decide) (fun c_8 => ?_) (fun c_8 => ?_)
        · replace hF := And.left hF c_8
          refine zv_aload_n (pc := 45) C rfl 0 rfl dX6_choose_45 ?_
          refine zv_get (pc := 46) (CC := RX6) (T := TX6) (N := 22) (ci := 5) (v := .int (T_5 11 0)) C zi_X6_choose_X6 0 rfl 11 (by decide) zf_X6_choose_183 rfl rfl dX6_choose_46 ?_
          refine zv_if_ne (pc := 49) (tgt := 54) C dX6_choose_49 (by decide) (fun c_9 => ?_) (fun c_9 => ?_)
          · replace hF := And.left hF c_9
            refine zv_aload_n (pc := 54) C rfl 0 rfl dX6_choose_54 ?_
            refine zv_get (pc := 55) (CC := RX6) (T := TX6) (N := 22) (ci := 5) (v := .int (T_5 11 0)) C zi_X6_choose_X6 0 rfl 11 (by decide) zf_X6_choose_183 rfl rfl dX6_choose_55 ?_
            refine zv_i2l (pc := 58) C  dX6_choose_58 ?_
            refine zv_iload_n (pc := 59) C rfl 2 rfl dX6_choose_59 ?_
            refine zv_cl0 (pc := 60) (ws' := (fun uz : Unit => (zd_X6_choose cI adM qM1 qM2 qM3 qM4 qM5 qM6 qM7 qM8 qM12 qM13 qM15 qM16 qM17 qM18 qM19 qM20 qM21 T_5))) C (zv_runS (As := [.long (Int32.toInt64 (T_5 11 0)), .int a2]) (rest := []) C (zc_X6_power l G cI (Int32.toInt64 (T_5 11 0)) a2 _ hF) (va_cwS 2 C.2.2.2.2.1 gX6_choose_X6_power rfl rfl rfl zy_X6_power ⟨Nat.le_of_ble_eq_true rfl, Nat.le_of_ble_eq_true rfl⟩) rfl rfl (Nat.le_of_ble_eq_true rfl) ⟨Nat.zero_le _, Nat.zero_le _⟩ dX6_choose_60) [] [0, 1, 2, 3, 4, 5, 6, 7, 8, 9, 10, 11, 12, 13, 14, 15, 16, 17] rfl rfl rfl rfl rfl (fun _ => rfl) (fun _ => rfl) (fun _ => rfl) (fun v_10 uz hF => ?_)
            refine zv_l2i (pc := 63) C  dX6_choose_63 ?_
            refine zv_topi (fun x3_11 ex3_11 => ?_)
            replace hF := hF x3_11 ex3_11
            refine zv_istore_n (pc := 64) (lv' := [(3, .int x3_11), (0, .ref adM), (1, .int a1), (2, .int a2)]) C rfl (by decide) rfl dX6_choose_64 ?_
            refine zv_iconst (pc := 65) (v := 0) C (by decide) dX6_choose_65 ?_
            refine zv_istore (pc := 66) (lv' := [(4, .int (0 : Int32)), (3, .int x3_11), (0, .ref adM), (1, .int a1), (2, .int a2)]) C (by decide) rfl dX6_choose_66 ?_
            refine zv_iconst (pc := 68) (v := 0) C (by decide) dX6_choose_68 ?_
            refine zv_istore (pc := 69) (lv' := [(5, .int (0 : Int32)), (4, .int (0 : Int32)), (3, .int x3_11), (0, .ref adM), (1, .int a1), (2, .int a2)]) C (by decide) rfl dX6_choose_69 ?_
            obtain ⟨kf, hF⟩ := hF
            refine zv_lvs [3, 4, 5, 2, 1, 0] rfl (zl_X6_choose_71 adM qM1 qM2 qM3 qM4 qM5 qM6 qM7 qM8 qM12 qM13 qM15 qM16 qM17 qM18 qM19 qM20 qM21 a1 a2 x3_11 _ C ?_ kf (0 : Int32) (0 : Int32) T_5 hF)
            · intro x4_26 T_27 hF
              refine zv_aload_n (pc := 143) C rfl 0 rfl dX6_choose_143 ?_
              refine zv_iload_n (pc := 144) C rfl 1 rfl dX6_choose_144 ?_
              refine zv_iload_n (pc := 145) C rfl 2 rfl dX6_choose_145 ?_
              refine zv_iload (pc := 146) C 4 rfl dX6_choose_146 ?_
              refine zv_cv0 (pc := 148) (ws' := (fun uz : zMem => (zd_X6_choose cI adM qM1 qM2 qM3 qM4 qM5 qM6 qM7 qM8 qM12 qM13 qM15 qM16 qM17 qM18 qM19 qM20 qM21 uz))) C (zv_runV (As := [.int a1, .int a2, .int x4_26]) (b := adM) (rest := []) (ci := 5) (q0 := 0) C (zc_X6_lay l G cI adM qM1 qM2 qM3 qM4 qM5 qM6 qM7 qM8 qM12 qM13 qM15 qM16 qM17 qM18 qM19 qM20 qM21 T_27 a1 a2 x4_26 _ hF) (cwV 3 C.2.2.2.2.1 gX6_choose_X6_lay rfl rfl rfl zy_X6_lay ⟨Nat.le_of_ble_eq_true rfl, Nat.le_of_ble_eq_true rfl⟩) rfl rfl rfl rfl rfl (Nat.le_of_ble_eq_true rfl) ⟨Nat.zero_le _, Nat.zero_le _⟩ dX6_choose_148) [0, 1, 2, 3, 4, 5, 6, 7, 8, 9, 10, 11, 12, 13, 14, 15, 16, 17] [] rfl rfl rfl rfl rfl (fun _ => rfl) (fun _ => rfl) (fun _ => rfl) (fun uz hF => ?_)
              obtain ⟨T_28, hE⟩ : ∃ z, z = uz := ⟨_, rfl⟩; subst hE
              refine zv_iload_n (pc := 151) C rfl 3 rfl dX6_choose_151 ?_
              exact zv_iret (pc := 152) C hr hlk x3_11 T_28 hF rfl dX6_choose_152
          · replace hF := And.right hF c_9
            refine zv_iconst (pc := 52) (v := -1) C (by decide) dX6_choose_52 ?_
            exact zv_iret (pc := 53) C hr hlk (-1 : Int32) T_5 hF rfl dX6_choose_53
        · replace hF := And.right hF c_8
          refine zv_aload_n (pc := 36) C rfl 0 rfl dX6_choose_36 ?_
          refine zv_get (pc := 37) (CC := RX6) (T := TX6) (N := 22) (ci := 5) (v := .ref qM5) C zi_X6_choose_X6 0 rfl 5 (by decide) zf_X6_choose_22 rfl rfl dX6_choose_37 ?_
          refine zv_iload_n (pc := 40) C rfl 1 rfl dX6_choose_40 ?_
          refine zv_iconst (pc := 41) (v := 0) C (by decide) dX6_choose_41 ?_
          obtain ⟨h_29, hF⟩ := hF
          obtain ⟨r_30, er_30⟩ : ∃ y : zRow, y = (upd (T_5 5) (Int32.toNatClampNeg a1) (0 : Int32)) := ⟨_, rfl⟩
          replace hF := hF r_30 er_30
          refine zv_iast (pc := 42) (n := 2) (f := (T_5 5)) (ws' := (zd_X6_choose cI adM qM1 qM2 qM3 qM4 qM5 qM6 qM7 qM8 qM12 qM13 qM15 qM16 qM17 qM18 qM19 qM20 qM21 (zset T_5 5 r_30))) C 5 h_29 rfl (by rw [er_30]; rfl) dX6_choose_42 ?_
          refine zv_iconst (pc := 43) (v := 1) C (by decide) dX6_choose_43 ?_
          exact zv_iret (pc := 44) C hr hlk (1 : Int32) (zset T_5 5 r_30) hF rfl dX6_choose_44
      · replace hF := And.right hF c_7
        refine zv_iconst (pc := 30) (v := 0) C (by decide) dX6_choose_30 ?_
        exact zv_iret (pc := 31) C hr hlk (0 : Int32) T_5 hF rfl dX6_choose_31
    · replace hF := And.right hF c_4
      refine zv_iload_n (pc := 13) C rfl 2 rfl dX6_choose_13 ?_
      refine zv_iconst (pc := 14) (v := 3) C (by decide) dX6_choose_14 ?_
      obtain ⟨KJ_33, h0KJ_33, hF⟩ := hF
      refine zv_join (α := Int32) (KK := fun uz => KJ_33 uz) (wsJ := fun uz => (zd_X6_choose cI adM qM1 qM2 qM3 qM4 qM5 qM6 qM7 qM8 qM12 qM13 qM15 qM16 qM17 qM18 qM19 qM20 qM21 T_1)) (pcJ := 23) (lvJ := fun uz => [(0, .ref adM), (1, .int a1), (2, .int a2)]) (stJ := fun uz => [.int uz, .ref adM]) ?_ (fun hKJ_33 => ?_)
      · rintro v_32 hF
        replace hF := h0KJ_33 v_32 hF
        refine zv_iconst (pc := 23) (v := 2) C (by decide) dX6_choose_23 ?_
        refine zv_ci0 (pc := 24) (ws' := (fun uz : zMem => (zd_X6_choose cI adM qM1 qM2 qM3 qM4 qM5 qM6 qM7 qM8 qM12 qM13 qM15 qM16 qM17 qM18 qM19 qM20 qM21 uz))) C (zv_runV (As := [.int v_32, .int (2 : Int32)]) (b := adM) (rest := []) (ci := 5) (q0 := 0) C (zc_X6_right l G cI adM qM1 qM2 qM3 qM4 qM5 qM6 qM7 qM8 qM12 qM13 qM15 qM16 qM17 qM18 qM19 qM20 qM21 T_1 v_32 (2 : Int32) _ hF) (cwV 2 C.2.2.2.2.1 gX6_choose_X6_right rfl rfl rfl zy_X6_right ⟨Nat.le_of_ble_eq_true rfl, Nat.le_of_ble_eq_true rfl⟩) rfl rfl rfl rfl rfl (Nat.le_of_ble_eq_true rfl) ⟨Nat.zero_le _, Nat.zero_le _⟩ dX6_choose_24) [0, 1, 2, 3, 4, 5, 6, 7, 8, 9, 10, 11, 12, 13, 14, 15, 16, 17] [] rfl rfl rfl rfl rfl (fun _ => rfl) (fun _ => rfl) (fun _ => rfl) (fun v_35 uz hF => ?_)
        obtain ⟨T_34, hE⟩ : ∃ z, z = uz := ⟨_, rfl⟩; subst hE
        refine zv_if_ne (pc := 27) (tgt := 32) C dX6_choose_27 (by decide) (fun c_36 => ?_) (fun c_36 => ?_)
        · replace hF := And.left hF c_36
          refine zv_iload_n (pc := 32) C rfl 2 rfl dX6_choose_32 ?_
          refine zv_if_ne (pc := 33) (tgt := 45) C dX6_choose_33 (by decide) (fun c_37 => ?_) (fun c_37 => ?_)
          · replace hF := And.left hF c_37
            refine zv_aload_n (pc := 45) C rfl 0 rfl dX6_choose_45 ?_
            refine zv_get (pc := 46) (CC := RX6) (T := TX6) (N := 22) (ci := 5) (v := .int (T_34 11 0)) C zi_X6_choose_X6 0 rfl 11 (by decide) zf_X6_choose_183 rfl rfl dX6_choose_46 ?_
            refine zv_if_ne (pc := 49) (tgt := 54) C dX6_choose_49 (by decide) (fun c_38 => ?_) (fun c_38 => ?_)
            · replace hF := And.left hF c_38
              refine zv_aload_n (pc := 54) C rfl 0 rfl dX6_choose_54 ?_
              refine zv_get (pc := 55) (CC := RX6) (T := TX6) (N := 22) (ci := 5) (v := .int (T_34 11 0)) C zi_X6_choose_X6 0 rfl 11 (by decide) zf_X6_choose_183 rfl rfl dX6_choose_55 ?_
              refine zv_i2l (pc := 58) C  dX6_choose_58 ?_
              refine zv_iload_n (pc := 59) C rfl 2 rfl dX6_choose_59 ?_
              refine zv_cl0 (pc := 60) (ws' := (fun uz : Unit => (zd_X6_choose cI adM qM1 qM2 qM3 qM4 qM5 qM6 qM7 qM8 qM12 qM13 qM15 qM16 qM17 qM18 qM19 qM20 qM21 T_34))) C (zv_runS (As := [.long (Int32.toInt64 (T_34 11 0)), .int a2]) (rest := []) C (zc_X6_power l G cI (Int32.toInt64 (T_34 11 0)) a2 _ hF) (va_cwS 2 C.2.2.2.2.1 gX6_choose_X6_power rfl rfl rfl zy_X6_power ⟨Nat.le_of_ble_eq_true rfl, Nat.le_of_ble_eq_true rfl⟩) rfl rfl (Nat.le_of_ble_eq_true rfl) ⟨Nat.zero_le _, Nat.zero_le _⟩ dX6_choose_60) [] [0, 1, 2, 3, 4, 5, 6, 7, 8, 9, 10, 11, 12, 13, 14, 15, 16, 17] rfl rfl rfl rfl rfl (fun _ => rfl) (fun _ => rfl) (fun _ => rfl) (fun v_39 uz hF => ?_)
              refine zv_l2i (pc := 63) C  dX6_choose_63 ?_
              refine zv_topi (fun x3_40 ex3_40 => ?_)
              replace hF := hF x3_40 ex3_40
              refine zv_istore_n (pc := 64) (lv' := [(3, .int x3_40), (0, .ref adM), (1, .int a1), (2, .int a2)]) C rfl (by decide) rfl dX6_choose_64 ?_
              refine zv_iconst (pc := 65) (v := 0) C (by decide) dX6_choose_65 ?_
              refine zv_istore (pc := 66) (lv' := [(4, .int (0 : Int32)), (3, .int x3_40), (0, .ref adM), (1, .int a1), (2, .int a2)]) C (by decide) rfl dX6_choose_66 ?_
              refine zv_iconst (pc := 68) (v := 0) C (by decide) dX6_choose_68 ?_
              refine zv_istore (pc := 69) (lv' := [(5, .int (0 : Int32)), (4, .int (0 : Int32)), (3, .int x3_40), (0, .ref adM), (1, .int a1), (2, .int a2)]) C (by decide) rfl dX6_choose_69 ?_
              obtain ⟨kf, hF⟩ := hF
              refine zv_lvs [3, 4, 5, 2, 1, 0] rfl (zl_X6_choose_71 adM qM1 qM2 qM3 qM4 qM5 qM6 qM7 qM8 qM12 qM13 qM15 qM16 qM17 qM18 qM19 qM20 qM21 a1 a2 x3_40 _ C ?_ kf (0 : Int32) (0 : Int32) T_34 hF)
              · intro x4_41 T_42 hF
                refine zv_aload_n (pc := 143) C rfl 0 rfl dX6_choose_143 ?_
                refine zv_iload_n (pc := 144) C rfl 1 rfl dX6_choose_144 ?_
                refine zv_iload_n (pc := 145) C rfl 2 rfl dX6_choose_145 ?_
                refine zv_iload (pc := 146) C 4 rfl dX6_choose_146 ?_
                refine zv_cv0 (pc := 148) (ws' := (fun uz : zMem => (zd_X6_choose cI adM qM1 qM2 qM3 qM4 qM5 qM6 qM7 qM8 qM12 qM13 qM15 qM16 qM17 qM18 qM19 qM20 qM21 uz))) C (zv_runV (As := [.int a1, .int a2, .int x4_41]) (b := adM) (rest := []) (ci := 5) (q0 := 0) C (zc_X6_lay l G cI adM qM1 qM2 qM3 qM4 qM5 qM6 qM7 qM8 qM12 qM13 qM15 qM16 qM17 qM18 qM19 qM20 qM21 T_42 a1 a2 x4_41 _ hF) (cwV 3 C.2.2.2.2.1 gX6_choose_X6_lay rfl rfl rfl zy_X6_lay ⟨Nat.le_of_ble_eq_true rfl, Nat.le_of_ble_eq_true rfl⟩) rfl rfl rfl rfl rfl (Nat.le_of_ble_eq_true rfl) ⟨Nat.zero_le _, Nat.zero_le _⟩ dX6_choose_148) [0, 1, 2, 3, 4, 5, 6, 7, 8, 9, 10, 11, 12, 13, 14, 15, 16, 17] [] rfl rfl rfl rfl rfl (fun _ => rfl) (fun _ => rfl) (fun _ => rfl) (fun uz hF => ?_)
                obtain ⟨T_43, hE⟩ : ∃ z, z = uz := ⟨_, rfl⟩; subst hE
                refine zv_iload_n (pc := 151) C rfl 3 rfl dX6_choose_151 ?_
                exact zv_iret (pc := 152) C hr hlk x3_40 T_43 hF rfl dX6_choose_152
            · replace hF := And.right hF c_38
              refine zv_iconst (pc := 52) (v := -1) C (by decide) dX6_choose_52 ?_
              exact zv_iret (pc := 53) C hr hlk (-1 : Int32) T_34 hF rfl dX6_choose_53
          · replace hF := And.right hF c_37
            refine zv_aload_n (pc := 36) C rfl 0 rfl dX6_choose_36 ?_
            refine zv_get (pc := 37) (CC := RX6) (T := TX6) (N := 22) (ci := 5) (v := .ref qM5) C zi_X6_choose_X6 0 rfl 5 (by decide) zf_X6_choose_22 rfl rfl dX6_choose_37 ?_
            refine zv_iload_n (pc := 40) C rfl 1 rfl dX6_choose_40 ?_
            refine zv_iconst (pc := 41) (v := 0) C (by decide) dX6_choose_41 ?_
            obtain ⟨h_44, hF⟩ := hF
            obtain ⟨r_45, er_45⟩ : ∃ y : zRow, y = (upd (T_34 5) (Int32.toNatClampNeg a1) (0 : Int32)) := ⟨_, rfl⟩
            replace hF := hF r_45 er_45
            refine zv_iast (pc := 42) (n := 2) (f := (T_34 5)) (ws' := (zd_X6_choose cI adM qM1 qM2 qM3 qM4 qM5 qM6 qM7 qM8 qM12 qM13 qM15 qM16 qM17 qM18 qM19 qM20 qM21 (zset T_34 5 r_45))) C 5 h_44 rfl (by rw [er_45]; rfl) dX6_choose_42 ?_
            refine zv_iconst (pc := 43) (v := 1) C (by decide) dX6_choose_43 ?_
            exact zv_iret (pc := 44) C hr hlk (1 : Int32) (zset T_34 5 r_45) hF rfl dX6_choose_44
        · replace hF := And.right hF c_36
          refine zv_iconst (pc := 30) (v := 0) C (by decide) dX6_choose_30 ?_
          exact zv_iret (pc := 31) C hr hlk (0 : Int32) T_34 hF rfl dX6_choose_31
      · skip
        refine zv_icmp_gt (pc := 15) (tgt := 22) C dX6_choose_15 (by decide) (fun c_31 => ?_) (fun c_31 => ?_)
        · replace hF := And.left hF c_31
          refine zv_iconst (pc := 22) (v := 0) C (by decide) dX6_choose_22 ?_
          exact zv_lvs [0, 1, 2] rfl (hKJ_33 (0 : Int32) hF)
        · replace hF := And.right hF c_31
          refine zv_iconst (pc := 18) (v := 1) C (by decide) dX6_choose_18 ?_
          refine zv_goto (pc := 19) (tgt := 23) C dX6_choose_19 (by decide) ?_
          exact zv_lvs [0, 1, 2] rfl (hKJ_33 (1 : Int32) hF)
theorem zf_X6_pane_189 : Cond.fieldLink RX6 189 "GlassStackModel" "panes" "I" ∈ wsX6_pane := (List.mem_of_getElem? (i := 2) rfl)
theorem zf_X6_pane_44 : Cond.fieldLink RX6 44 "GlassStackModel" "paneBackUp" "[I" ∈ wsX6_pane := (List.mem_of_getElem? (i := 3) rfl)
theorem zf_X6_pane_47 : Cond.fieldLink RX6 47 "GlassStackModel" "paneBackLow" "[I" ∈ wsX6_pane := (List.mem_of_getElem? (i := 4) rfl)
theorem zf_X6_pane_50 : Cond.fieldLink RX6 50 "GlassStackModel" "paneOnUp" "[I" ∈ wsX6_pane := (List.mem_of_getElem? (i := 5) rfl)
theorem zf_X6_pane_53 : Cond.fieldLink RX6 53 "GlassStackModel" "paneOnLow" "[I" ∈ wsX6_pane := (List.mem_of_getElem? (i := 6) rfl)
theorem zf_X6_pane_65 : Cond.fieldLink RX6 65 "GlassStackModel" "thrown" "I" ∈ wsX6_pane := (List.mem_of_getElem? (i := 1) rfl)
theorem zi_X6_pane_X6 : ∀ w ∈ wsX60, w ∈ wsX6_pane := fun w h => List.mem_cons_of_mem _ (List.mem_append_right _ h)
theorem zy_X6_pane : yX6_pane.cls = RX6 ∧ yX6_pane.cls ≠ "java/lang/invoke/MethodHandle" ∧ yX6_pane.cls ≠ "java/lang/invoke/VarHandle" ∧ (parseMethodDescriptor yX6_pane.desc).map (fun d => d.parameters.length) = some 4 := by decide +kernel
set_option maxHeartbeats 4000000 in
set_option maxRecDepth 100000 in
theorem zc_X6_pane (l : Launch) (G : va_G) (cI : ClassId) (adM qM1 qM2 qM3 qM4 qM5 qM6 qM7 qM8 qM12 qM13 qM15 qM16 qM17 qM18 qM19 qM20 qM21 : Nat) (M : zMem) (a1 : Int32) (a2 : Int32) (a3 : Int32) (a4 : Int32) (post : Int32 → zMem → Prop) (hF : zw_X6_pane M a1 a2 a3 a4 post) (sz : Nat) : Met l yX6_pane wsX6_pane rmX6_pane (va_Pc [.ref adM, .int a1, .int a2, .int a3, .int a4] (zv_in G cI (zd_X6_pane cI adM qM1 qM2 qM3 qM4 qM5 qM6 qM7 qM8 qM12 qM13 qM15 qM16 qM17 qM18 qM19 qM20 qM21 M) sz)) (va_Qi (fun (rz : Int32) (uz : zMem) => post rz uz) (fun (uz : zMem) t => zv_out G cI (va_A (zd_X6_pane cI adM qM1 qM2 qM3 qM4 qM5 qM6 qM7 qM8 qM12 qM13 qM15 qM16 qM17 qM18 qM19 qM20 qM21 M) sz) (zd_X6_pane cI adM qM1 qM2 qM3 qM4 qM5 qM6 qM7 qM8 qM12 qM13 qM15 qM16 qM17 qM18 qM19 qM20 qM21 uz) t) (va_A (zd_X6_pane cI adM qM1 qM2 qM3 qM4 qM5 qM6 qM7 qM8 qM12 qM13 qM15 qM16 qM17 qM18 qM19 qM20 qM21 M) sz)) 0 0 (va_A (zd_X6_pane cI adM qM1 qM2 qM3 qM4 qM5 qM6 qM7 qM8 qM12 qM13 qM15 qM16 qM17 qM18 qM19 qM20 qM21 M) sz) := by
  refine zv_met (cc := cX6_pane) (maxL := 6) (ret := (some .int)) (lv0 := [(0, .ref adM), (1, .int a1), (2, .int a2), (3, .int a3), (4, .int a4)]) (Qc := fun A => va_Qi (fun (rz : Int32) (uz : zMem) => post rz uz) (fun (uz : zMem) t => zv_out G cI A (zd_X6_pane cI adM qM1 qM2 qM3 qM4 qM5 qM6 qM7 qM8 qM12 qM13 qM15 qM16 qM17 qM18 qM19 qM20 qM21 uz) t) A) (by decide) rfl (Nat.le_of_ble_eq_true rfl) rfl ?_ sz
  intro p e s m below meth c A C hr hlk
  clear sz
  refine zv_aload_n (pc := 0) C rfl 0 rfl dX6_pane_0 ?_
  refine zv_iconst (pc := 1) (v := 0) C (by decide) dX6_pane_1 ?_
  refine zv_put (pc := 2) (CC := RX6) (T := TX6) (N := 22) (ci := 5) (v := .int (0 : Int32)) (ty := .int) (ws' := (zd_X6_pane cI adM qM1 qM2 qM3 qM4 qM5 qM6 qM7 qM8 qM12 qM13 qM15 qM16 qM17 qM18 qM19 qM20 qM21 (zset M 0 (fun _ => (0 : Int32))))) C zi_X6_pane_X6 tyX6 tyX6_ok nmX6 0 rfl 0 (by decide) zf_X6_pane_65 rfl (by decide +kernel) rfl rfl rfl (Nat.le_of_ble_eq_true rfl) rfl dX6_pane_2 ?_
  refine zv_iload_n (pc := 5) C rfl 1 rfl dX6_pane_5 ?_
  refine zv_if_lt (pc := 6) (tgt := 53) C dX6_pane_6 (by decide) (fun c_1 => ?_) (fun c_1 => ?_)
  · replace hF := And.left hF c_1
    refine zv_iconst (pc := 53) (v := 0) C (by decide) dX6_pane_53 ?_
    refine zv_istore (pc := 54) (lv' := [(5, .int (0 : Int32)), (0, .ref adM), (1, .int a1), (2, .int a2), (3, .int a3), (4, .int a4)]) C (by decide) rfl dX6_pane_54 ?_
    refine zv_aload_n (pc := 56) C rfl 1 rfl dX6_pane_56 ?_
    refine zv_iload (pc := 57) C 0 rfl dX6_pane_57 ?_
    refine zv_if_eq (pc := 59) (tgt := 81) C dX6_pane_59 (by decide) (fun c_2 => ?_) (fun c_2 => ?_)
    · replace hF := And.left hF c_2
      refine zv_iconst (pc := 81) (v := 0) C (by decide) dX6_pane_81 ?_
      refine zv_iconst (pc := 82) (v := 1) C (by decide) dX6_pane_82 ?_
      refine zv_ci0 (pc := 83) (ws' := (fun uz : zMem => (zd_X6_pane cI adM qM1 qM2 qM3 qM4 qM5 qM6 qM7 qM8 qM12 qM13 qM15 qM16 qM17 qM18 qM19 qM20 qM21 uz))) C (zv_runV (As := [.int (0 : Int32), .int (1 : Int32)]) (b := adM) (rest := []) (ci := 5) (q0 := 0) C (zc_X6_right l G cI adM qM1 qM2 qM3 qM4 qM5 qM6 qM7 qM8 qM12 qM13 qM15 qM16 qM17 qM18 qM19 qM20 qM21 (zset M 0 (fun _ => (0 : Int32))) (0 : Int32) (1 : Int32) _ hF) (cwV 2 C.2.2.2.2.1 gX6_pane_X6_right rfl rfl rfl zy_X6_right ⟨Nat.le_of_ble_eq_true rfl, Nat.le_of_ble_eq_true rfl⟩) rfl rfl rfl rfl rfl (Nat.le_of_ble_eq_true rfl) ⟨Nat.zero_le _, Nat.zero_le _⟩ dX6_pane_83) [0, 1, 2, 3, 4, 5, 6, 7, 8, 9, 10, 11, 12, 13, 14, 15, 16, 17] [] rfl rfl rfl rfl rfl (fun _ => rfl) (fun _ => rfl) (fun _ => rfl) (fun v_4 uz hF => ?_)
      obtain ⟨T_3, hE⟩ : ∃ z, z = uz := ⟨_, rfl⟩; subst hE
      refine zv_if_ne (pc := 86) (tgt := 91) C dX6_pane_86 (by decide) (fun c_5 => ?_) (fun c_5 => ?_)
      · replace hF := And.left hF c_5
        refine zv_aload_n (pc := 91) C rfl 1 rfl dX6_pane_91 ?_
        refine zv_get (pc := 92) (CC := RX6) (T := TX6) (N := 22) (ci := 5) (v := .int (T_3 14 0)) C zi_X6_pane_X6 0 rfl 14 (by decide) zf_X6_pane_189 rfl rfl dX6_pane_92 ?_
        refine zv_bipush (pc := 95) (v := 8) C (by decide) dX6_pane_95 ?_
        refine zv_icmp_ne (pc := 97) (tgt := 102) C dX6_pane_97 (by decide) (fun c_6 => ?_) (fun c_6 => ?_)
        · replace hF := And.left hF c_6
          refine zv_aload_n (pc := 102) C rfl 1 rfl dX6_pane_102 ?_
          refine zv_get (pc := 103) (CC := RX6) (T := TX6) (N := 22) (ci := 5) (v := .ref qM15) C zi_X6_pane_X6 0 rfl 15 (by decide) zf_X6_pane_44 rfl rfl dX6_pane_103 ?_
          refine zv_aload_n (pc := 106) C rfl 1 rfl dX6_pane_106 ?_
          refine zv_get (pc := 107) (CC := RX6) (T := TX6) (N := 22) (ci := 5) (v := .int (T_3 14 0)) C zi_X6_pane_X6 0 rfl 14 (by decide) zf_X6_pane_189 rfl rfl dX6_pane_107 ?_
          refine zv_iload_n (pc := 110) C rfl 2 rfl dX6_pane_110 ?_
          obtain ⟨h_7, hF⟩ := hF
          obtain ⟨r_8, er_8⟩ : ∃ y : zRow, y = (upd (T_3 15) (Int32.toNatClampNeg (T_3 14 0)) a1) := ⟨_, rfl⟩
          replace hF := hF r_8 er_8
          refine zv_iast (pc := 111) (n := 8) (f := (T_3 15)) (ws' := (zd_X6_pane cI adM qM1 qM2 qM3 qM4 qM5 qM6 qM7 qM8 qM12 qM13 qM15 qM16 qM17 qM18 qM19 qM20 qM21 (zset T_3 15 r_8))) C 11 h_7 rfl (by rw [er_8]; rfl) dX6_pane_111 ?_
          refine zv_aload_n (pc := 112) C rfl 1 rfl dX6_pane_112 ?_
          refine zv_get (pc := 113) (CC := RX6) (T := TX6) (N := 22) (ci := 5) (v := .ref qM16) C zi_X6_pane_X6 0 rfl 16 (by decide) zf_X6_pane_47 rfl rfl dX6_pane_113 ?_
          refine zv_aload_n (pc := 116) C rfl 1 rfl dX6_pane_116 ?_
          refine zv_get (pc := 117) (CC := RX6) (T := TX6) (N := 22) (ci := 5) (v := .int (T_3 14 0)) C zi_X6_pane_X6 0 rfl 14 (by decide) zf_X6_pane_189 rfl rfl dX6_pane_117 ?_
          refine zv_iload_n (pc := 120) C rfl 3 rfl dX6_pane_120 ?_
          obtain ⟨h_9, hF⟩ := hF
          obtain ⟨r_10, er_10⟩ : ∃ y : zRow, y = (upd (T_3 16) (Int32.toNatClampNeg (T_3 14 0)) a2) := ⟨_, rfl⟩
          replace hF := hF r_10 er_10
          refine zv_iast (pc := 121) (n := 8) (f := (T_3 16)) (ws' := (zd_X6_pane cI adM qM1 qM2 qM3 qM4 qM5 qM6 qM7 qM8 qM12 qM13 qM15 qM16 qM17 qM18 qM19 qM20 qM21 (zset (zset T_3 15 r_8) 16 r_10))) C 12 h_9 rfl (by rw [er_10]; rfl) dX6_pane_121 ?_
          refine zv_aload_n (pc := 122) C rfl 1 rfl dX6_pane_122 ?_
          refine zv_get (pc := 123) (CC := RX6) (T := TX6) (N := 22) (ci := 5) (v := .ref qM17) C zi_X6_pane_X6 0 rfl 17 (by decide) zf_X6_pane_50 rfl rfl dX6_pane_123 ?_
          refine zv_aload_n (pc := 126) C rfl 1 rfl dX6_pane_126 ?_
          refine zv_get (pc := 127) (CC := RX6) (T := TX6) (N := 22) (ci := 5) (v := .int (T_3 14 0)) C zi_X6_pane_X6 0 rfl 14 (by decide) zf_X6_pane_189 rfl rfl dX6_pane_127 ?_
          refine zv_iload_n (pc := 130) C rfl 4 rfl dX6_pane_130 ?_
          obtain ⟨h_11, hF⟩ := hF
          obtain ⟨r_12, er_12⟩ : ∃ y : zRow, y = (upd (T_3 17) (Int32.toNatClampNeg (T_3 14 0)) a3) := ⟨_, rfl⟩
          replace hF := hF r_12 er_12
          refine zv_iast (pc := 131) (n := 8) (f := (T_3 17)) (ws' := (zd_X6_pane cI adM qM1 qM2 qM3 qM4 qM5 qM6 qM7 qM8 qM12 qM13 qM15 qM16 qM17 qM18 qM19 qM20 qM21 (zset (zset (zset T_3 15 r_8) 16 r_10) 17 r_12))) C 13 h_11 rfl (by rw [er_12]; rfl) dX6_pane_131 ?_
          refine zv_aload_n (pc := 132) C rfl 1 rfl dX6_pane_132 ?_
          refine zv_get (pc := 133) (CC := RX6) (T := TX6) (N := 22) (ci := 5) (v := .ref qM18) C zi_X6_pane_X6 0 rfl 18 (by decide) zf_X6_pane_53 rfl rfl dX6_pane_133 ?_
          refine zv_aload_n (pc := 136) C rfl 1 rfl dX6_pane_136 ?_
          refine zv_get (pc := 137) (CC := RX6) (T := TX6) (N := 22) (ci := 5) (v := .int (T_3 14 0)) C zi_X6_pane_X6 0 rfl 14 (by decide) zf_X6_pane_189 rfl rfl dX6_pane_137 ?_
          refine zv_iload (pc := 140) C 5 rfl dX6_pane_140 ?_
          obtain ⟨h_13, hF⟩ := hF
          obtain ⟨r_14, er_14⟩ : ∃ y : zRow, y = (upd (T_3 18) (Int32.toNatClampNeg (T_3 14 0)) a4) := ⟨_, rfl⟩
          replace hF := hF r_14 er_14
          refine zv_iast (pc := 142) (n := 8) (f := (T_3 18)) (ws' := (zd_X6_pane cI adM qM1 qM2 qM3 qM4 qM5 qM6 qM7 qM8 qM12 qM13 qM15 qM16 qM17 qM18 qM19 qM20 qM21 (zset (zset (zset (zset T_3 15 r_8) 16 r_10) 17 r_12) 18 r_14))) C 14 h_13 rfl (by rw [er_14]; rfl) dX6_pane_142 ?_
          refine zv_aload_n (pc := 143) C rfl 1 rfl dX6_pane_143 ?_
          refine zv_dup (pc := 144) C rfl dX6_pane_144 ?_
          refine zv_get (pc := 145) (CC := RX6) (T := TX6) (N := 22) (ci := 5) (v := .int (T_3 14 0)) C zi_X6_pane_X6 0 rfl 14 (by decide) zf_X6_pane_189 rfl rfl dX6_pane_145 ?_
          refine zv_iconst (pc := 148) (v := 1) C (by decide) dX6_pane_148 ?_
          refine zv_iadd (pc := 149) C  dX6_pane_149 ?_
          refine zv_topi (fun y_15 ey_15 => ?_)
          replace hF := hF y_15 ey_15
          refine zv_put (pc := 150) (CC := RX6) (T := TX6) (N := 22) (ci := 5) (v := .int y_15) (ty := .int) (ws' := (zd_X6_pane cI adM qM1 qM2 qM3 qM4 qM5 qM6 qM7 qM8 qM12 qM13 qM15 qM16 qM17 qM18 qM19 qM20 qM21 (zset (zset (zset (zset (zset T_3 14 (fun _ => y_15)) 15 r_8) 16 r_10) 17 r_12) 18 r_14))) C zi_X6_pane_X6 tyX6 tyX6_ok nmX6 0 rfl 14 (by decide) zf_X6_pane_189 rfl (by decide +kernel) rfl rfl rfl (Nat.le_of_ble_eq_true rfl) rfl dX6_pane_150 ?_
          refine zv_aload_n (pc := 153) C rfl 1 rfl dX6_pane_153 ?_
          refine zv_get (pc := 154) (CC := RX6) (T := TX6) (N := 22) (ci := 5) (v := .int y_15) C zi_X6_pane_X6 0 rfl 14 (by decide) zf_X6_pane_189 rfl rfl dX6_pane_154 ?_
          exact zv_iret (pc := 157) C hr hlk y_15 (zset (zset (zset (zset (zset T_3 14 (fun _ => y_15)) 15 r_8) 16 r_10) 17 r_12) 18 r_14) hF rfl dX6_pane_157
        · replace hF := And.right hF c_6
          refine zv_iconst (pc := 100) (v := -1) C (by decide) dX6_pane_100 ?_
          exact zv_iret (pc := 101) C hr hlk (-1 : Int32) T_3 hF rfl dX6_pane_101
      · replace hF := And.right hF c_5
        refine zv_iconst (pc := 89) (v := 0) C (by decide) dX6_pane_89 ?_
        exact zv_iret (pc := 90) C hr hlk (0 : Int32) T_3 hF rfl dX6_pane_90
    · replace hF := And.right hF c_2
      refine zv_iload_n (pc := 62) C rfl 2 rfl dX6_pane_62 ?_
      refine zv_iload (pc := 63) C 5 rfl dX6_pane_63 ?_
      refine zv_imul (pc := 65) C  dX6_pane_65 ?_
      refine zv_iload_n (pc := 66) C rfl 4 rfl dX6_pane_66 ?_
      refine zv_iload_n (pc := 67) C rfl 3 rfl dX6_pane_67 ?_
      refine zv_imul (pc := 68) C  dX6_pane_68 ?_
      refine zv_iadd (pc := 69) C  dX6_pane_69 ?_
      refine zv_iload_n (pc := 70) C rfl 3 rfl dX6_pane_70 ?_
      refine zv_iload (pc := 71) C 5 rfl dX6_pane_71 ?_
      refine zv_imul (pc := 73) C  dX6_pane_73 ?_
      obtain ⟨KJ_18, h0KJ_18, hF⟩ := hF
      refine zv_join (α := Int32) (KK := fun uz => KJ_18 uz) (wsJ := fun uz => (zd_X6_pane cI adM qM1 qM2 qM3 qM4 qM5 qM6 qM7 qM8 qM12 qM13 qM15 qM16 qM17 qM18 qM19 qM20 qM21 (zset M 0 (fun _ => (0 : Int32))))) (pcJ := 82) (lvJ := fun uz => [(0, .ref adM), (1, .int a1), (2, .int a2), (3, .int a3), (4, .int a4)]) (stJ := fun uz => [.int uz, .ref adM]) ?_ (fun hKJ_18 => ?_)
      · rintro v_17 hF
        replace hF := h0KJ_18 v_17 hF
        refine zv_iconst (pc := 82) (v := 1) C (by decide) dX6_pane_82 ?_
        refine zv_ci0 (pc := 83) (ws' := (fun uz : zMem => (zd_X6_pane cI adM qM1 qM2 qM3 qM4 qM5 qM6 qM7 qM8 qM12 qM13 qM15 qM16 qM17 qM18 qM19 qM20 qM21 uz))) C (zv_runV (As := [.int v_17, .int (1 : Int32)]) (b := adM) (rest := []) (ci := 5) (q0 := 0) C (zc_X6_right l G cI adM qM1 qM2 qM3 qM4 qM5 qM6 qM7 qM8 qM12 qM13 qM15 qM16 qM17 qM18 qM19 qM20 qM21 (zset M 0 (fun _ => (0 : Int32))) v_17 (1 : Int32) _ hF) (cwV 2 C.2.2.2.2.1 gX6_pane_X6_right rfl rfl rfl zy_X6_right ⟨Nat.le_of_ble_eq_true rfl, Nat.le_of_ble_eq_true rfl⟩) rfl rfl rfl rfl rfl (Nat.le_of_ble_eq_true rfl) ⟨Nat.zero_le _, Nat.zero_le _⟩ dX6_pane_83) [0, 1, 2, 3, 4, 5, 6, 7, 8, 9, 10, 11, 12, 13, 14, 15, 16, 17] [] rfl rfl rfl rfl rfl (fun _ => rfl) (fun _ => rfl) (fun _ => rfl) (fun v_20 uz hF => ?_)
        obtain ⟨T_19, hE⟩ : ∃ z, z = uz := ⟨_, rfl⟩; subst hE
        refine zv_if_ne (pc := 86) (tgt := 91) C dX6_pane_86 (by decide) (fun c_21 => ?_) (fun c_21 => ?_)
        · replace hF := And.left hF c_21
          refine zv_aload_n (pc := 91) C rfl 0 rfl dX6_pane_91 ?_
          refine zv_get (pc := 92) (CC := RX6) (T := TX6) (N := 22) (ci := 5) (v := .int (T_19 14 0)) C zi_X6_pane_X6 0 rfl 14 (by decide) zf_X6_pane_189 rfl rfl dX6_pane_92 ?_
          refine zv_bipush (pc := 95) (v := 8) C (by decide) dX6_pane_95 ?_
          refine zv_icmp_ne (pc := 97) (tgt := 102) C dX6_pane_97 (by decide) (fun c_22 => ?_) (fun c_22 => ?_)
          · replace hF := And.left hF c_22
            refine zv_aload_n (pc := 102) C rfl 0 rfl dX6_pane_102 ?_
            refine zv_get (pc := 103) (CC := RX6) (T := TX6) (N := 22) (ci := 5) (v := .ref qM15) C zi_X6_pane_X6 0 rfl 15 (by decide) zf_X6_pane_44 rfl rfl dX6_pane_103 ?_
            refine zv_aload_n (pc := 106) C rfl 0 rfl dX6_pane_106 ?_
            refine zv_get (pc := 107) (CC := RX6) (T := TX6) (N := 22) (ci := 5) (v := .int (T_19 14 0)) C zi_X6_pane_X6 0 rfl 14 (by decide) zf_X6_pane_189 rfl rfl dX6_pane_107 ?_
            refine zv_iload_n (pc := 110) C rfl 1 rfl dX6_pane_110 ?_
            obtain ⟨h_23, hF⟩ := hF
            obtain ⟨r_24, er_24⟩ : ∃ y : zRow, y = (upd (T_19 15) (Int32.toNatClampNeg (T_19 14 0)) a1) := ⟨_, rfl⟩
            replace hF := hF r_24 er_24
            refine zv_iast (pc := 111) (n := 8) (f := (T_19 15)) (ws' := (zd_X6_pane cI adM qM1 qM2 qM3 qM4 qM5 qM6 qM7 qM8 qM12 qM13 qM15 qM16 qM17 qM18 qM19 qM20 qM21 (zset T_19 15 r_24))) C 11 h_23 rfl (by rw [er_24]; rfl) dX6_pane_111 ?_
            refine zv_aload_n (pc := 112) C rfl 0 rfl dX6_pane_112 ?_
            refine zv_get (pc := 113) (CC := RX6) (T := TX6) (N := 22) (ci := 5) (v := .ref qM16) C zi_X6_pane_X6 0 rfl 16 (by decide) zf_X6_pane_47 rfl rfl dX6_pane_113 ?_
            refine zv_aload_n (pc := 116) C rfl 0 rfl dX6_pane_116 ?_
            refine zv_get (pc := 117) (CC := RX6) (T := TX6) (N := 22) (ci := 5) (v := .int (T_19 14 0)) C zi_X6_pane_X6 0 rfl 14 (by decide) zf_X6_pane_189 rfl rfl dX6_pane_117 ?_
            refine zv_iload_n (pc := 120) C rfl 2 rfl dX6_pane_120 ?_
            obtain ⟨h_25, hF⟩ := hF
            obtain ⟨r_26, er_26⟩ : ∃ y : zRow, y = (upd (T_19 16) (Int32.toNatClampNeg (T_19 14 0)) a2) := ⟨_, rfl⟩
            replace hF := hF r_26 er_26
            refine zv_iast (pc := 121) (n := 8) (f := (T_19 16)) (ws' := (zd_X6_pane cI adM qM1 qM2 qM3 qM4 qM5 qM6 qM7 qM8 qM12 qM13 qM15 qM16 qM17 qM18 qM19 qM20 qM21 (zset (zset T_19 15 r_24) 16 r_26))) C 12 h_25 rfl (by rw [er_26]; rfl) dX6_pane_121 ?_
            refine zv_aload_n (pc := 122) C rfl 0 rfl dX6_pane_122 ?_
            refine zv_get (pc := 123) (CC := RX6) (T := TX6) (N := 22) (ci := 5) (v := .ref qM17) C zi_X6_pane_X6 0 rfl 17 (by decide) zf_X6_pane_50 rfl rfl dX6_pane_123 ?_
            refine zv_aload_n (pc := 126) C rfl 0 rfl dX6_pane_126 ?_
            refine zv_get (pc := 127) (CC := RX6) (T := TX6) (N := 22) (ci := 5) (v := .int (T_19 14 0)) C zi_X6_pane_X6 0 rfl 14 (by decide) zf_X6_pane_189 rfl rfl dX6_pane_127 ?_
            refine zv_iload_n (pc := 130) C rfl 3 rfl dX6_pane_130 ?_
            obtain ⟨h_27, hF⟩ := hF
            obtain ⟨r_28, er_28⟩ : ∃ y : zRow, y = (upd (T_19 17) (Int32.toNatClampNeg (T_19 14 0)) a3) := ⟨_, rfl⟩
            replace hF := hF r_28 er_28
            refine zv_iast (pc := 131) (n := 8) (f := (T_19 17)) (ws' := (zd_X6_pane cI adM qM1 qM2 qM3 qM4 qM5 qM6 qM7 qM8 qM12 qM13 qM15 qM16 qM17 qM18 qM19 qM20 qM21 (zset (zset (zset T_19 15 r_24) 16 r_26) 17 r_28))) C 13 h_27 rfl (by rw [er_28]; rfl) dX6_pane_131 ?_
            refine zv_aload_n (pc := 132) C rfl 0 rfl dX6_pane_132 ?_
            refine zv_get (pc := 133) (CC := RX6) (T := TX6) (N := 22) (ci := 5) (v := .ref qM18) C zi_X6_pane_X6 0 rfl 18 (by decide) zf_X6_pane_53 rfl rfl dX6_pane_133 ?_
            refine zv_aload_n (pc := 136) C rfl 0 rfl dX6_pane_136 ?_
            refine zv_get (pc := 137) (CC := RX6) (T := TX6) (N := 22) (ci := 5) (v := .int (T_19 14 0)) C zi_X6_pane_X6 0 rfl 14 (by decide) zf_X6_pane_189 rfl rfl dX6_pane_137 ?_
            refine zv_iload (pc := 140) C 4 rfl dX6_pane_140 ?_
            obtain ⟨h_29, hF⟩ := hF
            obtain ⟨r_30, er_30⟩ : ∃ y : zRow, y = (upd (T_19 18) (Int32.toNatClampNeg (T_19 14 0)) a4) := ⟨_, rfl⟩
            replace hF := hF r_30 er_30
            refine zv_iast (pc := 142) (n := 8) (f := (T_19 18)) (ws' := (zd_X6_pane cI adM qM1 qM2 qM3 qM4 qM5 qM6 qM7 qM8 qM12 qM13 qM15 qM16 qM17 qM18 qM19 qM20 qM21 (zset (zset (zset (zset T_19 15 r_24) 16 r_26) 17 r_28) 18 r_30))) C 14 h_29 rfl (by rw [er_30]; rfl) dX6_pane_142 ?_
            refine zv_aload_n (pc := 143) C rfl 0 rfl dX6_pane_143 ?_
            refine zv_dup (pc := 144) C rfl dX6_pane_144 ?_
            refine zv_get (pc := 145) (CC := RX6) (T := TX6) (N := 22) (ci := 5) (v := .int (T_19 14 0)) C zi_X6_pane_X6 0 rfl 14 (by decide) zf_X6_pane_189 rfl rfl dX6_pane_145 ?_
            refine zv_iconst (pc := 148) (v := 1) C (by decide) dX6_pane_148 ?_
            refine zv_iadd (pc := 149) C  dX6_pane_149 ?_
            refine zv_topi (fun y_31 ey_31 => ?_)
            replace hF := hF y_31 ey_31
            refine zv_put (pc := 150) (CC := RX6) (T := TX6) (N := 22) (ci := 5) (v := .int y_31) (ty := .int) (ws' := (zd_X6_pane cI adM qM1 qM2 qM3 qM4 qM5 qM6 qM7 qM8 qM12 qM13 qM15 qM16 qM17 qM18 qM19 qM20 qM21 (zset (zset (zset (zset (zset T_19 14 (fun _ => y_31)) 15 r_24) 16 r_26) 17 r_28) 18 r_30))) C zi_X6_pane_X6 tyX6 tyX6_ok nmX6 0 rfl 14 (by decide) zf_X6_pane_189 rfl (by decide +kernel) rfl rfl rfl (Nat.le_of_ble_eq_true rfl) rfl dX6_pane_150 ?_
            refine zv_aload_n (pc := 153) C rfl 0 rfl dX6_pane_153 ?_
            refine zv_get (pc := 154) (CC := RX6) (T := TX6) (N := 22) (ci := 5) (v := .int y_31) C zi_X6_pane_X6 0 rfl 14 (by decide) zf_X6_pane_189 rfl rfl dX6_pane_154 ?_
            exact zv_iret (pc := 157) C hr hlk y_31 (zset (zset (zset (zset (zset T_19 14 (fun _ => y_31)) 15 r_24) 16 r_26) 17 r_28) 18 r_30) hF rfl dX6_pane_157
          · replace hF := And.right hF c_22
            refine zv_iconst (pc := 100) (v := -1) C (by decide) dX6_pane_100 ?_
            exact zv_iret (pc := 101) C hr hlk (-1 : Int32) T_19 hF rfl dX6_pane_101
        · replace hF := And.right hF c_21
          refine zv_iconst (pc := 89) (v := 0) C (by decide) dX6_pane_89 ?_
          exact zv_iret (pc := 90) C hr hlk (0 : Int32) T_19 hF rfl dX6_pane_90
      · skip
        refine zv_icmp_gt (pc := 74) (tgt := 81) C dX6_pane_74 (by decide) (fun c_16 => ?_) (fun c_16 => ?_)
        · replace hF := And.left hF c_16
          refine zv_iconst (pc := 81) (v := 0) C (by decide) dX6_pane_81 ?_
          exact zv_lvs [1, 2, 3, 4, 5] rfl (hKJ_18 (0 : Int32) hF)
        · replace hF := And.right hF c_16
          refine zv_iconst (pc := 77) (v := 1) C (by decide) dX6_pane_77 ?_
          refine zv_goto (pc := 78) (tgt := 82) C dX6_pane_78 (by decide) ?_
          exact zv_lvs [1, 2, 3, 4, 5] rfl (hKJ_18 (1 : Int32) hF)
  · replace hF := And.right hF c_1
    refine zv_iload_n (pc := 9) C rfl 1 rfl dX6_pane_9 ?_
    refine zv_bipush (pc := 10) (v := 100) C (by decide) dX6_pane_10 ?_
    refine zv_icmp_gt (pc := 12) (tgt := 53) C dX6_pane_12 (by decide) (fun c_32 => ?_) (fun c_32 => ?_)
    · replace hF := And.left hF c_32
      refine zv_iconst (pc := 53) (v := 0) C (by decide) dX6_pane_53 ?_
      refine zv_istore (pc := 54) (lv' := [(5, .int (0 : Int32)), (0, .ref adM), (1, .int a1), (2, .int a2), (3, .int a3), (4, .int a4)]) C (by decide) rfl dX6_pane_54 ?_
      refine zv_aload_n (pc := 56) C rfl 1 rfl dX6_pane_56 ?_
      refine zv_iload (pc := 57) C 0 rfl dX6_pane_57 ?_
      refine zv_if_eq (pc := 59) (tgt := 81) C dX6_pane_59 (by decide) (fun c_33 => ?_) (fun c_33 => ?_)
      · replace hF := And.left hF c_33
        refine zv_iconst (pc := 81) (v := 0) C (by decide) dX6_pane_81 ?_
        refine zv_iconst (pc := 82) (v := 1) C (by decide) dX6_pane_82 ?_
        refine zv_ci0 (pc := 83) (ws' := (fun uz : zMem => (zd_X6_pane cI adM qM1 qM2 qM3 qM4 qM5 qM6 qM7 qM8 qM12 qM13 qM15 qM16 qM17 qM18 qM19 qM20 qM21 uz))) C (zv_runV (As := [.int (0 : Int32), .int (1 : Int32)]) (b := adM) (rest := []) (ci := 5) (q0 := 0) C (zc_X6_right l G cI adM qM1 qM2 qM3 qM4 qM5 qM6 qM7 qM8 qM12 qM13 qM15 qM16 qM17 qM18 qM19 qM20 qM21 (zset M 0 (fun _ => (0 : Int32))) (0 : Int32) (1 : Int32) _ hF) (cwV 2 C.2.2.2.2.1 gX6_pane_X6_right rfl rfl rfl zy_X6_right ⟨Nat.le_of_ble_eq_true rfl, Nat.le_of_ble_eq_true rfl⟩) rfl rfl rfl rfl rfl (Nat.le_of_ble_eq_true rfl) ⟨Nat.zero_le _, Nat.zero_le _⟩ dX6_pane_83) [0, 1, 2, 3, 4, 5, 6, 7, 8, 9, 10, 11, 12, 13, 14, 15, 16, 17] [] rfl rfl rfl rfl rfl (fun _ => rfl) (fun _ => rfl) (fun _ => rfl) (fun v_35 uz hF => ?_)
        obtain ⟨T_34, hE⟩ : ∃ z, z = uz := ⟨_, rfl⟩; subst hE
        refine zv_if_ne (pc := 86) (tgt := 91) C dX6_pane_86 (by decide) (fun c_36 => ?_) (fun c_36 => ?_)
        · replace hF := And.left hF c_36
          refine zv_aload_n (pc := 91) C rfl 1 rfl dX6_pane_91 ?_
          refine zv_get (pc := 92) (CC := RX6) (T := TX6) (N := 22) (ci := 5) (v := .int (T_34 14 0)) C zi_X6_pane_X6 0 rfl 14 (by decide) zf_X6_pane_189 rfl rfl dX6_pane_92 ?_
          refine zv_bipush (pc := 95) (v := 8) C (by decide) dX6_pane_95 ?_
          refine zv_icmp_ne (pc := 97) (tgt := 102) C dX6_pane_97 (by decide) (fun c_37 => ?_) (fun c_37 => ?_)
          · replace hF := And.left hF c_37
            refine zv_aload_n (pc := 102) C rfl 1 rfl dX6_pane_102 ?_
            refine zv_get (pc := 103) (CC := RX6) (T := TX6) (N := 22) (ci := 5) (v := .ref qM15) C zi_X6_pane_X6 0 rfl 15 (by decide) zf_X6_pane_44 rfl rfl dX6_pane_103 ?_
            refine zv_aload_n (pc := 106) C rfl 1 rfl dX6_pane_106 ?_
            refine zv_get (pc := 107) (CC := RX6) (T := TX6) (N := 22) (ci := 5) (v := .int (T_34 14 0)) C zi_X6_pane_X6 0 rfl 14 (by decide) zf_X6_pane_189 rfl rfl dX6_pane_107 ?_
            refine zv_iload_n (pc := 110) C rfl 2 rfl dX6_pane_110 ?_
            obtain ⟨h_38, hF⟩ := hF
            obtain ⟨r_39, er_39⟩ : ∃ y : zRow, y = (upd (T_34 15) (Int32.toNatClampNeg (T_34 14 0)) a1) := ⟨_, rfl⟩
            replace hF := hF r_39 er_39
            refine zv_iast (pc := 111) (n := 8) (f := (T_34 15)) (ws' := (zd_X6_pane cI adM qM1 qM2 qM3 qM4 qM5 qM6 qM7 qM8 qM12 qM13 qM15 qM16 qM17 qM18 qM19 qM20 qM21 (zset T_34 15 r_39))) C 11 h_38 rfl (by rw [er_39]; rfl) dX6_pane_111 ?_
            refine zv_aload_n (pc := 112) C rfl 1 rfl dX6_pane_112 ?_
            refine zv_get (pc := 113) (CC := RX6) (T := TX6) (N := 22) (ci := 5) (v := .ref qM16) C zi_X6_pane_X6 0 rfl 16 (by decide) zf_X6_pane_47 rfl rfl dX6_pane_113 ?_
            refine zv_aload_n (pc := 116) C rfl 1 rfl dX6_pane_116 ?_
            refine zv_get (pc := 117) (CC := RX6) (T := TX6) (N := 22) (ci := 5) (v := .int (T_34 14 0)) C zi_X6_pane_X6 0 rfl 14 (by decide) zf_X6_pane_189 rfl rfl dX6_pane_117 ?_
            refine zv_iload_n (pc := 120) C rfl 3 rfl dX6_pane_120 ?_
            obtain ⟨h_40, hF⟩ := hF
            obtain ⟨r_41, er_41⟩ : ∃ y : zRow, y = (upd (T_34 16) (Int32.toNatClampNeg (T_34 14 0)) a2) := ⟨_, rfl⟩
            replace hF := hF r_41 er_41
            refine zv_iast (pc := 121) (n := 8) (f := (T_34 16)) (ws' := (zd_X6_pane cI adM qM1 qM2 qM3 qM4 qM5 qM6 qM7 qM8 qM12 qM13 qM15 qM16 qM17 qM18 qM19 qM20 qM21 (zset (zset T_34 15 r_39) 16 r_41))) C 12 h_40 rfl (by rw [er_41]; rfl) dX6_pane_121 ?_
            refine zv_aload_n (pc := 122) C rfl 1 rfl dX6_pane_122 ?_
            refine zv_get (pc := 123) (CC := RX6) (T := TX6) (N := 22) (ci := 5) (v := .ref qM17) C zi_X6_pane_X6 0 rfl 17 (by decide) zf_X6_pane_50 rfl rfl dX6_pane_123 ?_
            refine zv_aload_n (pc := 126) C rfl 1 rfl dX6_pane_126 ?_
            refine zv_get (pc := 127) (CC := RX6) (T := TX6) (N := 22) (ci := 5) (v := .int (T_34 14 0)) C zi_X6_pane_X6 0 rfl 14 (by decide) zf_X6_pane_189 rfl rfl dX6_pane_127 ?_
            refine zv_iload_n (pc := 130) C rfl 4 rfl dX6_pane_130 ?_
            obtain ⟨h_42, hF⟩ := hF
            obtain ⟨r_43, er_43⟩ : ∃ y : zRow, y = (upd (T_34 17) (Int32.toNatClampNeg (T_34 14 0)) a3) := ⟨_, rfl⟩
            replace hF := hF r_43 er_43
            refine zv_iast (pc := 131) (n := 8) (f := (T_34 17)) (ws' := (zd_X6_pane cI adM qM1 qM2 qM3 qM4 qM5 qM6 qM7 qM8 qM12 qM13 qM15 qM16 qM17 qM18 qM19 qM20 qM21 (zset (zset (zset T_34 15 r_39) 16 r_41) 17 r_43))) C 13 h_42 rfl (by rw [er_43]; rfl) dX6_pane_131 ?_
            refine zv_aload_n (pc := 132) C rfl 1 rfl dX6_pane_132 ?_
            refine zv_get (pc := 133) (CC := RX6) (T := TX6) (N := 22) (ci := 5) (v := .ref qM18) C zi_X6_pane_X6 0 rfl 18 (by decide) zf_X6_pane_53 rfl rfl dX6_pane_133 ?_
            refine zv_aload_n (pc := 136) C rfl 1 rfl dX6_pane_136 ?_
            refine zv_get (pc := 137) (CC := RX6) (T := TX6) (N := 22) (ci := 5) (v := .int (T_34 14 0)) C zi_X6_pane_X6 0 rfl 14 (by decide) zf_X6_pane_189 rfl rfl dX6_pane_137 ?_
            refine zv_iload (pc := 140) C 5 rfl dX6_pane_140 ?_
            obtain ⟨h_44, hF⟩ := hF
            obtain ⟨r_45, er_45⟩ : ∃ y : zRow, y = (upd (T_34 18) (Int32.toNatClampNeg (T_34 14 0)) a4) := ⟨_, rfl⟩
            replace hF := hF r_45 er_45
            refine zv_iast (pc := 142) (n := 8) (f := (T_34 18)) (ws' := (zd_X6_pane cI adM qM1 qM2 qM3 qM4 qM5 qM6 qM7 qM8 qM12 qM13 qM15 qM16 qM17 qM18 qM19 qM20 qM21 (zset (zset (zset (zset T_34 15 r_39) 16 r_41) 17 r_43) 18 r_45))) C 14 h_44 rfl (by rw [er_45]; rfl) dX6_pane_142 ?_
            refine zv_aload_n (pc := 143) C rfl 1 rfl dX6_pane_143 ?_
            refine zv_dup (pc := 144) C rfl dX6_pane_144 ?_
            refine zv_get (pc := 145) (CC := RX6) (T := TX6) (N := 22) (ci := 5) (v := .int (T_34 14 0)) C zi_X6_pane_X6 0 rfl 14 (by decide) zf_X6_pane_189 rfl rfl dX6_pane_145 ?_
            refine zv_iconst (pc := 148) (v := 1) C (by decide) dX6_pane_148 ?_
            refine zv_iadd (pc := 149) C  dX6_pane_149 ?_
            refine zv_topi (fun y_46 ey_46 => ?_)
            replace hF := hF y_46 ey_46
            refine zv_put (pc := 150) (CC := RX6) (T := TX6) (N := 22) (ci := 5) (v := .int y_46) (ty := .int) (ws' := (zd_X6_pane cI adM qM1 qM2 qM3 qM4 qM5 qM6 qM7 qM8 qM12 qM13 qM15 qM16 qM17 qM18 qM19 qM20 qM21 (zset (zset (zset (zset (zset T_34 14 (fun _ => y_46)) 15 r_39) 16 r_41) 17 r_43) 18 r_45))) C zi_X6_pane_X6 tyX6 tyX6_ok nmX6 0 rfl 14 (by decide) zf_X6_pane_189 rfl (by decide +kernel) rfl rfl rfl (Nat.le_of_ble_eq_true rfl) rfl dX6_pane_150 ?_
            refine zv_aload_n (pc := 153) C rfl 1 rfl dX6_pane_153 ?_
            refine zv_get (pc := 154) (CC := RX6) (T := TX6) (N := 22) (ci := 5) (v := .int y_46) C zi_X6_pane_X6 0 rfl 14 (by decide) zf_X6_pane_189 rfl rfl dX6_pane_154 ?_
            exact zv_iret (pc := 157) C hr hlk y_46 (zset (zset (zset (zset (zset T_34 14 (fun _ => y_46)) 15 r_39) 16 r_41) 17 r_43) 18 r_45) hF rfl dX6_pane_157
          · replace hF := And.right hF c_37
            refine zv_iconst (pc := 100) (v := -1) C (by decide) dX6_pane_100 ?_
            exact zv_iret (pc := 101) C hr hlk (-1 : Int32) T_34 hF rfl dX6_pane_101
        · replace hF := And.right hF c_36
          refine zv_iconst (pc := 89) (v := 0) C (by decide) dX6_pane_89 ?_
          exact zv_iret (pc := 90) C hr hlk (0 : Int32) T_34 hF rfl dX6_pane_90
      · replace hF := And.right hF c_33
        refine zv_iload_n (pc := 62) C rfl 2 rfl dX6_pane_62 ?_
        refine zv_iload (pc := 63) C 5 rfl dX6_pane_63 ?_
        refine zv_imul (pc := 65) C  dX6_pane_65 ?_
        refine zv_iload_n (pc := 66) C rfl 4 rfl dX6_pane_66 ?_
        refine zv_iload_n (pc := 67) C rfl 3 rfl dX6_pane_67 ?_
        refine zv_imul (pc := 68) C  dX6_pane_68 ?_
        refine zv_iadd (pc := 69) C  dX6_pane_69 ?_
        refine zv_iload_n (pc := 70) C rfl 3 rfl dX6_pane_70 ?_
        refine zv_iload (pc := 71) C 5 rfl dX6_pane_71 ?_
        refine zv_imul (pc := 73) C  dX6_pane_73 ?_
        obtain ⟨KJ_49, h0KJ_49, hF⟩ := hF
        refine zv_join (α := Int32) (KK := fun uz => KJ_49 uz) (wsJ := fun uz => (zd_X6_pane cI adM qM1 qM2 qM3 qM4 qM5 qM6 qM7 qM8 qM12 qM13 qM15 qM16 qM17 qM18 qM19 qM20 qM21 (zset M 0 (fun _ => (0 : Int32))))) (pcJ := 82) (lvJ := fun uz => [(0, .ref adM), (1, .int a1), (2, .int a2), (3, .int a3), (4, .int a4)]) (stJ := fun uz => [.int uz, .ref adM]) ?_ (fun hKJ_49 => ?_)
        · rintro v_48 hF
          replace hF := h0KJ_49 v_48 hF
          refine zv_iconst (pc := 82) (v := 1) C (by decide) dX6_pane_82 ?_
          refine zv_ci0 (pc := 83) (ws' := (fun uz : zMem => (zd_X6_pane cI adM qM1 qM2 qM3 qM4 qM5 qM6 qM7 qM8 qM12 qM13 qM15 qM16 qM17 qM18 qM19 qM20 qM21 uz))) C (zv_runV (As := [.int v_48, .int (1 : Int32)]) (b := adM) (rest := []) (ci := 5) (q0 := 0) C (zc_X6_right l G cI adM qM1 qM2 qM3 qM4 qM5 qM6 qM7 qM8 qM12 qM13 qM15 qM16 qM17 qM18 qM19 qM20 qM21 (zset M 0 (fun _ => (0 : Int32))) v_48 (1 : Int32) _ hF) (cwV 2 C.2.2.2.2.1 gX6_pane_X6_right rfl rfl rfl zy_X6_right ⟨Nat.le_of_ble_eq_true rfl, Nat.le_of_ble_eq_true rfl⟩) rfl rfl rfl rfl rfl (Nat.le_of_ble_eq_true rfl) ⟨Nat.zero_le _, Nat.zero_le _⟩ dX6_pane_83) [0, 1, 2, 3, 4, 5, 6, 7, 8, 9, 10, 11, 12, 13, 14, 15, 16, 17] [] rfl rfl rfl rfl rfl (fun _ => rfl) (fun _ => rfl) (fun _ => rfl) (fun v_51 uz hF => ?_)
          obtain ⟨T_50, hE⟩ : ∃ z, z = uz := ⟨_, rfl⟩; subst hE
          refine zv_if_ne (pc := 86) (tgt := 91) C dX6_pane_86 (by decide) (fun c_52 => ?_) (fun c_52 => ?_)
          · replace hF := And.left hF c_52
            refine zv_aload_n (pc := 91) C rfl 0 rfl dX6_pane_91 ?_
            refine zv_get (pc := 92) (CC := RX6) (T := TX6) (N := 22) (ci := 5) (v := .int (T_50 14 0)) C zi_X6_pane_X6 0 rfl 14 (by decide) zf_X6_pane_189 rfl rfl dX6_pane_92 ?_
            refine zv_bipush (pc := 95) (v := 8) C (by decide) dX6_pane_95 ?_
            refine zv_icmp_ne (pc := 97) (tgt := 102) C dX6_pane_97 (by decide) (fun c_53 => ?_) (fun c_53 => ?_)
            · replace hF := And.left hF c_53
              refine zv_aload_n (pc := 102) C rfl 0 rfl dX6_pane_102 ?_
              refine zv_get (pc := 103) (CC := RX6) (T := TX6) (N := 22) (ci := 5) (v := .ref qM15) C zi_X6_pane_X6 0 rfl 15 (by decide) zf_X6_pane_44 rfl rfl dX6_pane_103 ?_
              refine zv_aload_n (pc := 106) C rfl 0 rfl dX6_pane_106 ?_
              refine zv_get (pc := 107) (CC := RX6) (T := TX6) (N := 22) (ci := 5) (v := .int (T_50 14 0)) C zi_X6_pane_X6 0 rfl 14 (by decide) zf_X6_pane_189 rfl rfl dX6_pane_107 ?_
              refine zv_iload_n (pc := 110) C rfl 1 rfl dX6_pane_110 ?_
              obtain ⟨h_54, hF⟩ := hF
              obtain ⟨r_55, er_55⟩ : ∃ y : zRow, y = (upd (T_50 15) (Int32.toNatClampNeg (T_50 14 0)) a1) := ⟨_, rfl⟩
              replace hF := hF r_55 er_55
              refine zv_iast (pc := 111) (n := 8) (f := (T_50 15)) (ws' := (zd_X6_pane cI adM qM1 qM2 qM3 qM4 qM5 qM6 qM7 qM8 qM12 qM13 qM15 qM16 qM17 qM18 qM19 qM20 qM21 (zset T_50 15 r_55))) C 11 h_54 rfl (by rw [er_55]; rfl) dX6_pane_111 ?_
              refine zv_aload_n (pc := 112) C rfl 0 rfl dX6_pane_112 ?_
              refine zv_get (pc := 113) (CC := RX6) (T := TX6) (N := 22) (ci := 5) (v := .ref qM16) C zi_X6_pane_X6 0 rfl 16 (by decide) zf_X6_pane_47 rfl rfl dX6_pane_113 ?_
              refine zv_aload_n (pc := 116) C rfl 0 rfl dX6_pane_116 ?_
              refine zv_get (pc := 117) (CC := RX6) (T := TX6) (N := 22) (ci := 5) (v := .int (T_50 14 0)) C zi_X6_pane_X6 0 rfl 14 (by decide) zf_X6_pane_189 rfl rfl dX6_pane_117 ?_
              refine zv_iload_n (pc := 120) C rfl 2 rfl dX6_pane_120 ?_
              obtain ⟨h_56, hF⟩ := hF
              obtain ⟨r_57, er_57⟩ : ∃ y : zRow, y = (upd (T_50 16) (Int32.toNatClampNeg (T_50 14 0)) a2) := ⟨_, rfl⟩
              replace hF := hF r_57 er_57
              refine zv_iast (pc := 121) (n := 8) (f := (T_50 16)) (ws' := (zd_X6_pane cI adM qM1 qM2 qM3 qM4 qM5 qM6 qM7 qM8 qM12 qM13 qM15 qM16 qM17 qM18 qM19 qM20 qM21 (zset (zset T_50 15 r_55) 16 r_57))) C 12 h_56 rfl (by rw [er_57]; rfl) dX6_pane_121 ?_
              refine zv_aload_n (pc := 122) C rfl 0 rfl dX6_pane_122 ?_
              refine zv_get (pc := 123) (CC := RX6) (T := TX6) (N := 22) (ci := 5) (v := .ref qM17) C zi_X6_pane_X6 0 rfl 17 (by decide) zf_X6_pane_50 rfl rfl dX6_pane_123 ?_
              refine zv_aload_n (pc := 126) C rfl 0 rfl dX6_pane_126 ?_
              refine zv_get (pc := 127) (CC := RX6) (T := TX6) (N := 22) (ci := 5) (v := .int (T_50 14 0)) C zi_X6_pane_X6 0 rfl 14 (by decide) zf_X6_pane_189 rfl rfl dX6_pane_127 ?_
              refine zv_iload_n (pc := 130) C rfl 3 rfl dX6_pane_130 ?_
              obtain ⟨h_58, hF⟩ := hF
              obtain ⟨r_59, er_59⟩ : ∃ y : zRow, y = (upd (T_50 17) (Int32.toNatClampNeg (T_50 14 0)) a3) := ⟨_, rfl⟩
              replace hF := hF r_59 er_59
              refine zv_iast (pc := 131) (n := 8) (f := (T_50 17)) (ws' := (zd_X6_pane cI adM qM1 qM2 qM3 qM4 qM5 qM6 qM7 qM8 qM12 qM13 qM15 qM16 qM17 qM18 qM19 qM20 qM21 (zset (zset (zset T_50 15 r_55) 16 r_57) 17 r_59))) C 13 h_58 rfl (by rw [er_59]; rfl) dX6_pane_131 ?_
              refine zv_aload_n (pc := 132) C rfl 0 rfl dX6_pane_132 ?_
              refine zv_get (pc := 133) (CC := RX6) (T := TX6) (N := 22) (ci := 5) (v := .ref qM18) C zi_X6_pane_X6 0 rfl 18 (by decide) zf_X6_pane_53 rfl rfl dX6_pane_133 ?_
              refine zv_aload_n (pc := 136) C rfl 0 rfl dX6_pane_136 ?_
              refine zv_get (pc := 137) (CC := RX6) (T := TX6) (N := 22) (ci := 5) (v := .int (T_50 14 0)) C zi_X6_pane_X6 0 rfl 14 (by decide) zf_X6_pane_189 rfl rfl dX6_pane_137 ?_
              refine zv_iload (pc := 140) C 4 rfl dX6_pane_140 ?_
              obtain ⟨h_60, hF⟩ := hF
              obtain ⟨r_61, er_61⟩ : ∃ y : zRow, y = (upd (T_50 18) (Int32.toNatClampNeg (T_50 14 0)) a4) := ⟨_, rfl⟩
              replace hF := hF r_61 er_61
              refine zv_iast (pc := 142) (n := 8) (f := (T_50 18)) (ws' := (zd_X6_pane cI adM qM1 qM2 qM3 qM4 qM5 qM6 qM7 qM8 qM12 qM13 qM15 qM16 qM17 qM18 qM19 qM20 qM21 (zset (zset (zset (zset T_50 15 r_55) 16 r_57) 17 r_59) 18 r_61))) C 14 h_60 rfl (by rw [er_61]; rfl) dX6_pane_142 ?_
              refine zv_aload_n (pc := 143) C rfl 0 rfl dX6_pane_143 ?_
              refine zv_dup (pc := 144) C rfl dX6_pane_144 ?_
              refine zv_get (pc := 145) (CC := RX6) (T := TX6) (N := 22) (ci := 5) (v := .int (T_50 14 0)) C zi_X6_pane_X6 0 rfl 14 (by decide) zf_X6_pane_189 rfl rfl dX6_pane_145 ?_
              refine zv_iconst (pc := 148) (v := 1) C (by decide) dX6_pane_148 ?_
              refine zv_iadd (pc := 149) C  dX6_pane_149 ?_
              refine zv_topi (fun y_62 ey_62 => ?_)
              replace hF := hF y_62 ey_62
              refine zv_put (pc := 150) (CC := RX6) (T := TX6) (N := 22) (ci := 5) (v := .int y_62) (ty := .int) (ws' := (zd_X6_pane cI adM qM1 qM2 qM3 qM4 qM5 qM6 qM7 qM8 qM12 qM13 qM15 qM16 qM17 qM18 qM19 qM20 qM21 (zset (zset (zset (zset (zset T_50 14 (fun _ => y_62)) 15 r_55) 16 r_57) 17 r_59) 18 r_61))) C zi_X6_pane_X6 tyX6 tyX6_ok nmX6 0 rfl 14 (by decide) zf_X6_pane_189 rfl (by decide +kernel) rfl rfl rfl (Nat.le_of_ble_eq_true rfl) rfl dX6_pane_150 ?_
              refine zv_aload_n (pc := 153) C rfl 0 rfl dX6_pane_153 ?_
              refine zv_get (pc := 154) (CC := RX6) (T := TX6) (N := 22) (ci := 5) (v := .int y_62) C zi_X6_pane_X6 0 rfl 14 (by decide) zf_X6_pane_189 rfl rfl dX6_pane_154 ?_
              exact zv_iret (pc := 157) C hr hlk y_62 (zset (zset (zset (zset (zset T_50 14 (fun _ => y_62)) 15 r_55) 16 r_57) 17 r_59) 18 r_61) hF rfl dX6_pane_157
            · replace hF := And.right hF c_53
              refine zv_iconst (pc := 100) (v := -1) C (by decide) dX6_pane_100 ?_
              exact zv_iret (pc := 101) C hr hlk (-1 : Int32) T_50 hF rfl dX6_pane_101
          · replace hF := And.right hF c_52
            refine zv_iconst (pc := 89) (v := 0) C (by decide) dX6_pane_89 ?_
            exact zv_iret (pc := 90) C hr hlk (0 : Int32) T_50 hF rfl dX6_pane_90
        · skip
          refine zv_icmp_gt (pc := 74) (tgt := 81) C dX6_pane_74 (by decide) (fun c_47 => ?_) (fun c_47 => ?_)
          · replace hF := And.left hF c_47
            refine zv_iconst (pc := 81) (v := 0) C (by decide) dX6_pane_81 ?_
            exact zv_lvs [1, 2, 3, 4, 5] rfl (hKJ_49 (0 : Int32) hF)
          · replace hF := And.right hF c_47
            refine zv_iconst (pc := 77) (v := 1) C (by decide) dX6_pane_77 ?_
            refine zv_goto (pc := 78) (tgt := 82) C dX6_pane_78 (by decide) ?_
            exact zv_lvs [1, 2, 3, 4, 5] rfl (hKJ_49 (1 : Int32) hF)
    · replace hF := And.right hF c_32
      refine zv_iload_n (pc := 15) C rfl 3 rfl dX6_pane_15 ?_
      refine zv_if_lt (pc := 16) (tgt := 53) C dX6_pane_16 (by decide) (fun c_63 => ?_) (fun c_63 => ?_)
      · replace hF := And.left hF c_63
        refine zv_iconst (pc := 53) (v := 0) C (by decide) dX6_pane_53 ?_
        refine zv_istore (pc := 54) (lv' := [(5, .int (0 : Int32)), (0, .ref adM), (1, .int a1), (2, .int a2), (3, .int a3), (4, .int a4)]) C (by decide) rfl dX6_pane_54 ?_
        refine zv_aload_n (pc := 56) C rfl 1 rfl dX6_pane_56 ?_
        refine zv_iload (pc := 57) C 0 rfl dX6_pane_57 ?_
        refine zv_if_eq (pc := 59) (tgt := 81) C dX6_pane_59 (by decide) (fun c_64 => ?_) (fun c_64 => ?_)
        · replace hF := And.left hF c_64
          refine zv_iconst (pc := 81) (v := 0) C (by decide) dX6_pane_81 ?_
          refine zv_iconst (pc := 82) (v := 1) C (by decide) dX6_pane_82 ?_
          refine zv_ci0 (pc := 83) (ws' := (fun uz : zMem => (zd_X6_pane cI adM qM1 qM2 qM3 qM4 qM5 qM6 qM7 qM8 qM12 qM13 qM15 qM16 qM17 qM18 qM19 qM20 qM21 uz))) C (zv_runV (As := [.int (0 : Int32), .int (1 : Int32)]) (b := adM) (rest := []) (ci := 5) (q0 := 0) C (zc_X6_right l G cI adM qM1 qM2 qM3 qM4 qM5 qM6 qM7 qM8 qM12 qM13 qM15 qM16 qM17 qM18 qM19 qM20 qM21 (zset M 0 (fun _ => (0 : Int32))) (0 : Int32) (1 : Int32) _ hF) (cwV 2 C.2.2.2.2.1 gX6_pane_X6_right rfl rfl rfl zy_X6_right ⟨Nat.le_of_ble_eq_true rfl, Nat.le_of_ble_eq_true rfl⟩) rfl rfl rfl rfl rfl (Nat.le_of_ble_eq_true rfl) ⟨Nat.zero_le _, Nat.zero_le _⟩ dX6_pane_83) [0, 1, 2, 3, 4, 5, 6, 7, 8, 9, 10, 11, 12, 13, 14, 15, 16, 17] [] rfl rfl rfl rfl rfl (fun _ => rfl) (fun _ => rfl) (fun _ => rfl) (fun v_66 uz hF => ?_)
          obtain ⟨T_65, hE⟩ : ∃ z, z = uz := ⟨_, rfl⟩; subst hE
          refine zv_if_ne (pc := 86) (tgt := 91) C dX6_pane_86 (by decide) (fun c_67 => ?_) (fun c_67 => ?_)
          · replace hF := And.left hF c_67
            refine zv_aload_n (pc := 91) C rfl 1 rfl dX6_pane_91 ?_
            refine zv_get (pc := 92) (CC := RX6) (T := TX6) (N := 22) (ci := 5) (v := .int (T_65 14 0)) C zi_X6_pane_X6 0 rfl 14 (by decide) zf_X6_pane_189 rfl rfl dX6_pane_92 ?_
            refine zv_bipush (pc := 95) (v := 8) C (by decide) dX6_pane_95 ?_
            refine zv_icmp_ne (pc := 97) (tgt := 102) C dX6_pane_97 (by decide) (fun c_68 => ?_) (fun c_68 => ?_)
            · replace hF := And.left hF c_68
              refine zv_aload_n (pc := 102) C rfl 1 rfl dX6_pane_102 ?_
              refine zv_get (pc := 103) (CC := RX6) (T := TX6) (N := 22) (ci := 5) (v := .ref qM15) C zi_X6_pane_X6 0 rfl 15 (by decide) zf_X6_pane_44 rfl rfl dX6_pane_103 ?_
              refine zv_aload_n (pc := 106) C rfl 1 rfl dX6_pane_106 ?_
              refine zv_get (pc := 107) (CC := RX6) (T := TX6) (N := 22) (ci := 5) (v := .int (T_65 14 0)) C zi_X6_pane_X6 0 rfl 14 (by decide) zf_X6_pane_189 rfl rfl dX6_pane_107 ?_
              refine zv_iload_n (pc := 110) C rfl 2 rfl dX6_pane_110 ?_
              obtain ⟨h_69, hF⟩ := hF
              obtain ⟨r_70, er_70⟩ : ∃ y : zRow, y = (upd (T_65 15) (Int32.toNatClampNeg (T_65 14 0)) a1) := ⟨_, rfl⟩
              replace hF := hF r_70 er_70
              refine zv_iast (pc := 111) (n := 8) (f := (T_65 15)) (ws' := (zd_X6_pane cI adM qM1 qM2 qM3 qM4 qM5 qM6 qM7 qM8 qM12 qM13 qM15 qM16 qM17 qM18 qM19 qM20 qM21 (zset T_65 15 r_70))) C 11 h_69 rfl (by rw [er_70]; rfl) dX6_pane_111 ?_
              refine zv_aload_n (pc := 112) C rfl 1 rfl dX6_pane_112 ?_
              refine zv_get (pc := 113) (CC := RX6) (T := TX6) (N := 22) (ci := 5) (v := .ref qM16) C zi_X6_pane_X6 0 rfl 16 (by decide) zf_X6_pane_47 rfl rfl dX6_pane_113 ?_
              refine zv_aload_n (pc := 116) C rfl 1 rfl dX6_pane_116 ?_
              refine zv_get (pc := 117) (CC := RX6) (T := TX6) (N := 22) (ci := 5) (v := .int (T_65 14 0)) C zi_X6_pane_X6 0 rfl 14 (by decide) zf_X6_pane_189 rfl rfl dX6_pane_117 ?_
              refine zv_iload_n (pc := 120) C rfl 3 rfl dX6_pane_120 ?_
              obtain ⟨h_71, hF⟩ := hF
              obtain ⟨r_72, er_72⟩ : ∃ y : zRow, y = (upd (T_65 16) (Int32.toNatClampNeg (T_65 14 0)) a2) := ⟨_, rfl⟩
              replace hF := hF r_72 er_72
              refine zv_iast (pc := 121) (n := 8) (f := (T_65 16)) (ws' := (zd_X6_pane cI adM qM1 qM2 qM3 qM4 qM5 qM6 qM7 qM8 qM12 qM13 qM15 qM16 qM17 qM18 qM19 qM20 qM21 (zset (zset T_65 15 r_70) 16 r_72))) C 12 h_71 rfl (by rw [er_72]; rfl) dX6_pane_121 ?_
              refine zv_aload_n (pc := 122) C rfl 1 rfl dX6_pane_122 ?_
              refine zv_get (pc := 123) (CC := RX6) (T := TX6) (N := 22) (ci := 5) (v := .ref qM17) C zi_X6_pane_X6 0 rfl 17 (by decide) zf_X6_pane_50 rfl rfl dX6_pane_123 ?_
              refine zv_aload_n (pc := 126) C rfl 1 rfl dX6_pane_126 ?_
              refine zv_get (pc := 127) (CC := RX6) (T := TX6) (N := 22) (ci := 5) (v := .int (T_65 14 0)) C zi_X6_pane_X6 0 rfl 14 (by decide) zf_X6_pane_189 rfl rfl dX6_pane_127 ?_
              refine zv_iload_n (pc := 130) C rfl 4 rfl dX6_pane_130 ?_
              obtain ⟨h_73, hF⟩ := hF
              obtain ⟨r_74, er_74⟩ : ∃ y : zRow, y = (upd (T_65 17) (Int32.toNatClampNeg (T_65 14 0)) a3) := ⟨_, rfl⟩
              replace hF := hF r_74 er_74
              refine zv_iast (pc := 131) (n := 8) (f := (T_65 17)) (ws' := (zd_X6_pane cI adM qM1 qM2 qM3 qM4 qM5 qM6 qM7 qM8 qM12 qM13 qM15 qM16 qM17 qM18 qM19 qM20 qM21 (zset (zset (zset T_65 15 r_70) 16 r_72) 17 r_74))) C 13 h_73 rfl (by rw [er_74]; rfl) dX6_pane_131 ?_
              refine zv_aload_n (pc := 132) C rfl 1 rfl dX6_pane_132 ?_
              refine zv_get (pc := 133) (CC := RX6) (T := TX6) (N := 22) (ci := 5) (v := .ref qM18) C zi_X6_pane_X6 0 rfl 18 (by decide) zf_X6_pane_53 rfl rfl dX6_pane_133 ?_
              refine zv_aload_n (pc := 136) C rfl 1 rfl dX6_pane_136 ?_
              refine zv_get (pc := 137) (CC := RX6) (T := TX6) (N := 22) (ci := 5) (v := .int (T_65 14 0)) C zi_X6_pane_X6 0 rfl 14 (by decide) zf_X6_pane_189 rfl rfl dX6_pane_137 ?_
              refine zv_iload (pc := 140) C 5 rfl dX6_pane_140 ?_
              obtain ⟨h_75, hF⟩ := hF
              obtain ⟨r_76, er_76⟩ : ∃ y : zRow, y = (upd (T_65 18) (Int32.toNatClampNeg (T_65 14 0)) a4) := ⟨_, rfl⟩
              replace hF := hF r_76 er_76
              refine zv_iast (pc := 142) (n := 8) (f := (T_65 18)) (ws' := (zd_X6_pane cI adM qM1 qM2 qM3 qM4 qM5 qM6 qM7 qM8 qM12 qM13 qM15 qM16 qM17 qM18 qM19 qM20 qM21 (zset (zset (zset (zset T_65 15 r_70) 16 r_72) 17 r_74) 18 r_76))) C 14 h_75 rfl (by rw [er_76]; rfl) dX6_pane_142 ?_
              refine zv_aload_n (pc := 143) C rfl 1 rfl dX6_pane_143 ?_
              refine zv_dup (pc := 144) C rfl dX6_pane_144 ?_
              refine zv_get (pc := 145) (CC := RX6) (T := TX6) (N := 22) (ci := 5) (v := .int (T_65 14 0)) C zi_X6_pane_X6 0 rfl 14 (by decide) zf_X6_pane_189 rfl rfl dX6_pane_145 ?_
              refine zv_iconst (pc := 148) (v := 1) C (by decide) dX6_pane_148 ?_
              refine zv_iadd (pc := 149) C  dX6_pane_149 ?_
              refine zv_topi (fun y_77 ey_77 => ?_)
              replace hF := hF y_77 ey_77
              refine zv_put (pc := 150) (CC := RX6) (T := TX6) (N := 22) (ci := 5) (v := .int y_77) (ty := .int) (ws' := (zd_X6_pane cI adM qM1 qM2 qM3 qM4 qM5 qM6 qM7 qM8 qM12 qM13 qM15 qM16 qM17 qM18 qM19 qM20 qM21 (zset (zset (zset (zset (zset T_65 14 (fun _ => y_77)) 15 r_70) 16 r_72) 17 r_74) 18 r_76))) C zi_X6_pane_X6 tyX6 tyX6_ok nmX6 0 rfl 14 (by decide) zf_X6_pane_189 rfl (by decide +kernel) rfl rfl rfl (Nat.le_of_ble_eq_true rfl) rfl dX6_pane_150 ?_
              refine zv_aload_n (pc := 153) C rfl 1 rfl dX6_pane_153 ?_
              refine zv_get (pc := 154) (CC := RX6) (T := TX6) (N := 22) (ci := 5) (v := .int y_77) C zi_X6_pane_X6 0 rfl 14 (by decide) zf_X6_pane_189 rfl rfl dX6_pane_154 ?_
              exact zv_iret (pc := 157) C hr hlk y_77 (zset (zset (zset (zset (zset T_65 14 (fun _ => y_77)) 15 r_70) 16 r_72) 17 r_74) 18 r_76) hF rfl dX6_pane_157
            · replace hF := And.right hF c_68
              refine zv_iconst (pc := 100) (v := -1) C (by decide) dX6_pane_100 ?_
              exact zv_iret (pc := 101) C hr hlk (-1 : Int32) T_65 hF rfl dX6_pane_101
          · replace hF := And.right hF c_67
            refine zv_iconst (pc := 89) (v := 0) C (by decide) dX6_pane_89 ?_
            exact zv_iret (pc := 90) C hr hlk (0 : Int32) T_65 hF rfl dX6_pane_90
        · replace hF := And.right hF c_64
          refine zv_iload_n (pc := 62) C rfl 2 rfl dX6_pane_62 ?_
          refine zv_iload (pc := 63) C 5 rfl dX6_pane_63 ?_
          refine zv_imul (pc := 65) C  dX6_pane_65 ?_
          refine zv_iload_n (pc := 66) C rfl 4 rfl dX6_pane_66 ?_
          refine zv_iload_n (pc := 67) C rfl 3 rfl dX6_pane_67 ?_
          refine zv_imul (pc := 68) C  dX6_pane_68 ?_
          refine zv_iadd (pc := 69) C  dX6_pane_69 ?_
          refine zv_iload_n (pc := 70) C rfl 3 rfl dX6_pane_70 ?_
          refine zv_iload (pc := 71) C 5 rfl dX6_pane_71 ?_
          refine zv_imul (pc := 73) C  dX6_pane_73 ?_
          obtain ⟨KJ_80, h0KJ_80, hF⟩ := hF
          refine zv_join (α := Int32) (KK := fun uz => KJ_80 uz) (wsJ := fun uz => (zd_X6_pane cI adM qM1 qM2 qM3 qM4 qM5 qM6 qM7 qM8 qM12 qM13 qM15 qM16 qM17 qM18 qM19 qM20 qM21 (zset M 0 (fun _ => (0 : Int32))))) (pcJ := 82) (lvJ := fun uz => [(0, .ref adM), (1, .int a1), (2, .int a2), (3, .int a3), (4, .int a4)]) (stJ := fun uz => [.int uz, .ref adM]) ?_ (fun hKJ_80 => ?_)
          · rintro v_79 hF
            replace hF := h0KJ_80 v_79 hF
            refine zv_iconst (pc := 82) (v := 1) C (by decide) dX6_pane_82 ?_
            refine zv_ci0 (pc := 83) (ws' := (fun uz : zMem => (zd_X6_pane cI adM qM1 qM2 qM3 qM4 qM5 qM6 qM7 qM8 qM12 qM13 qM15 qM16 qM17 qM18 qM19 qM20 qM21 uz))) C (zv_runV (As := [.int v_79, .int (1 : Int32)]) (b := adM) (rest := []) (ci := 5) (q0 := 0) C (zc_X6_right l G cI adM qM1 qM2 qM3 qM4 qM5 qM6 qM7 qM8 qM12 qM13 qM15 qM16 qM17 qM18 qM19 qM20 qM21 (zset M 0 (fun _ => (0 : Int32))) v_79 (1 : Int32) _ hF) (cwV 2 C.2.2.2.2.1 gX6_pane_X6_right rfl rfl rfl zy_X6_right ⟨Nat.le_of_ble_eq_true rfl, Nat.le_of_ble_eq_true rfl⟩) rfl rfl rfl rfl rfl (Nat.le_of_ble_eq_true rfl) ⟨Nat.zero_le _, Nat.zero_le _⟩ dX6_pane_83) [0, 1, 2, 3, 4, 5, 6, 7, 8, 9, 10, 11, 12, 13, 14, 15, 16, 17] [] rfl rfl rfl rfl rfl (fun _ => rfl) (fun _ => rfl) (fun _ => rfl) (fun v_82 uz hF => ?_)
            obtain ⟨T_81, hE⟩ : ∃ z, z = uz := ⟨_, rfl⟩; subst hE
            refine zv_if_ne (pc := 86) (tgt := 91) C dX6_pane_86 (by decide) (fun c_83 => ?_) (fun c_83 => ?_)
            · replace hF := And.left hF c_83
              refine zv_aload_n (pc := 91) C rfl 0 rfl dX6_pane_91 ?_
              refine zv_get (pc := 92) (CC := RX6) (T := TX6) (N := 22) (ci := 5) (v := .int (T_81 14 0)) C zi_X6_pane_X6 0 rfl 14 (by decide) zf_X6_pane_189 rfl rfl dX6_pane_92 ?_
              refine zv_bipush (pc := 95) (v := 8) C (by decide) dX6_pane_95 ?_
              refine zv_icmp_ne (pc := 97) (tgt := 102) C dX6_pane_97 (by decide) (fun c_84 => ?_) (fun c_84 => ?_)
              · replace hF := And.left hF c_84
                refine zv_aload_n (pc := 102) C rfl 0 rfl dX6_pane_102 ?_
                refine zv_get (pc := 103) (CC := RX6) (T := TX6) (N := 22) (ci := 5) (v := .ref qM15) C zi_X6_pane_X6 0 rfl 15 (by decide) zf_X6_pane_44 rfl rfl dX6_pane_103 ?_
                refine zv_aload_n (pc := 106) C rfl 0 rfl dX6_pane_106 ?_
                refine zv_get (pc := 107) (CC := RX6) (T := TX6) (N := 22) (ci := 5) (v := .int (T_81 14 0)) C zi_X6_pane_X6 0 rfl 14 (by decide) zf_X6_pane_189 rfl rfl dX6_pane_107 ?_
                refine zv_iload_n (pc := 110) C rfl 1 rfl dX6_pane_110 ?_
                obtain ⟨h_85, hF⟩ := hF
                obtain ⟨r_86, er_86⟩ : ∃ y : zRow, y = (upd (T_81 15) (Int32.toNatClampNeg (T_81 14 0)) a1) := ⟨_, rfl⟩
                replace hF := hF r_86 er_86
                refine zv_iast (pc := 111) (n := 8) (f := (T_81 15)) (ws' := (zd_X6_pane cI adM qM1 qM2 qM3 qM4 qM5 qM6 qM7 qM8 qM12 qM13 qM15 qM16 qM17 qM18 qM19 qM20 qM21 (zset T_81 15 r_86))) C 11 h_85 rfl (by rw [er_86]; rfl) dX6_pane_111 ?_
                refine zv_aload_n (pc := 112) C rfl 0 rfl dX6_pane_112 ?_
                refine zv_get (pc := 113) (CC := RX6) (T := TX6) (N := 22) (ci := 5) (v := .ref qM16) C zi_X6_pane_X6 0 rfl 16 (by decide) zf_X6_pane_47 rfl rfl dX6_pane_113 ?_
                refine zv_aload_n (pc := 116) C rfl 0 rfl dX6_pane_116 ?_
                refine zv_get (pc := 117) (CC := RX6) (T := TX6) (N := 22) (ci := 5) (v := .int (T_81 14 0)) C zi_X6_pane_X6 0 rfl 14 (by decide) zf_X6_pane_189 rfl rfl dX6_pane_117 ?_
                refine zv_iload_n (pc := 120) C rfl 2 rfl dX6_pane_120 ?_
                obtain ⟨h_87, hF⟩ := hF
                obtain ⟨r_88, er_88⟩ : ∃ y : zRow, y = (upd (T_81 16) (Int32.toNatClampNeg (T_81 14 0)) a2) := ⟨_, rfl⟩
                replace hF := hF r_88 er_88
                refine zv_iast (pc := 121) (n := 8) (f := (T_81 16)) (ws' := (zd_X6_pane cI adM qM1 qM2 qM3 qM4 qM5 qM6 qM7 qM8 qM12 qM13 qM15 qM16 qM17 qM18 qM19 qM20 qM21 (zset (zset T_81 15 r_86) 16 r_88))) C 12 h_87 rfl (by rw [er_88]; rfl) dX6_pane_121 ?_
                refine zv_aload_n (pc := 122) C rfl 0 rfl dX6_pane_122 ?_
                refine zv_get (pc := 123) (CC := RX6) (T := TX6) (N := 22) (ci := 5) (v := .ref qM17) C zi_X6_pane_X6 0 rfl 17 (by decide) zf_X6_pane_50 rfl rfl dX6_pane_123 ?_
                refine zv_aload_n (pc := 126) C rfl 0 rfl dX6_pane_126 ?_
                refine zv_get (pc := 127) (CC := RX6) (T := TX6) (N := 22) (ci := 5) (v := .int (T_81 14 0)) C zi_X6_pane_X6 0 rfl 14 (by decide) zf_X6_pane_189 rfl rfl dX6_pane_127 ?_
                refine zv_iload_n (pc := 130) C rfl 3 rfl dX6_pane_130 ?_
                obtain ⟨h_89, hF⟩ := hF
                obtain ⟨r_90, er_90⟩ : ∃ y : zRow, y = (upd (T_81 17) (Int32.toNatClampNeg (T_81 14 0)) a3) := ⟨_, rfl⟩
                replace hF := hF r_90 er_90
                refine zv_iast (pc := 131) (n := 8) (f := (T_81 17)) (ws' := (zd_X6_pane cI adM qM1 qM2 qM3 qM4 qM5 qM6 qM7 qM8 qM12 qM13 qM15 qM16 qM17 qM18 qM19 qM20 qM21 (zset (zset (zset T_81 15 r_86) 16 r_88) 17 r_90))) C 13 h_89 rfl (by rw [er_90]; rfl) dX6_pane_131 ?_
                refine zv_aload_n (pc := 132) C rfl 0 rfl dX6_pane_132 ?_
                refine zv_get (pc := 133) (CC := RX6) (T := TX6) (N := 22) (ci := 5) (v := .ref qM18) C zi_X6_pane_X6 0 rfl 18 (by decide) zf_X6_pane_53 rfl rfl dX6_pane_133 ?_
                refine zv_aload_n (pc := 136) C rfl 0 rfl dX6_pane_136 ?_
                refine zv_get (pc := 137) (CC := RX6) (T := TX6) (N := 22) (ci := 5) (v := .int (T_81 14 0)) C zi_X6_pane_X6 0 rfl 14 (by decide) zf_X6_pane_189 rfl rfl dX6_pane_137 ?_
                refine zv_iload (pc := 140) C 4 rfl dX6_pane_140 ?_
                obtain ⟨h_91, hF⟩ := hF
                obtain ⟨r_92, er_92⟩ : ∃ y : zRow, y = (upd (T_81 18) (Int32.toNatClampNeg (T_81 14 0)) a4) := ⟨_, rfl⟩
                replace hF := hF r_92 er_92
                refine zv_iast (pc := 142) (n := 8) (f := (T_81 18)) (ws' := (zd_X6_pane cI adM qM1 qM2 qM3 qM4 qM5 qM6 qM7 qM8 qM12 qM13 qM15 qM16 qM17 qM18 qM19 qM20 qM21 (zset (zset (zset (zset T_81 15 r_86) 16 r_88) 17 r_90) 18 r_92))) C 14 h_91 rfl (by rw [er_92]; rfl) dX6_pane_142 ?_
                refine zv_aload_n (pc := 143) C rfl 0 rfl dX6_pane_143 ?_
                refine zv_dup (pc := 144) C rfl dX6_pane_144 ?_
                refine zv_get (pc := 145) (CC := RX6) (T := TX6) (N := 22) (ci := 5) (v := .int (T_81 14 0)) C zi_X6_pane_X6 0 rfl 14 (by decide) zf_X6_pane_189 rfl rfl dX6_pane_145 ?_
                refine zv_iconst (pc := 148) (v := 1) C (by decide) dX6_pane_148 ?_
                refine zv_iadd (pc := 149) C  dX6_pane_149 ?_
                refine zv_topi (fun y_93 ey_93 => ?_)
                replace hF := hF y_93 ey_93
                refine zv_put (pc := 150) (CC := RX6) (T := TX6) (N := 22) (ci := 5) (v := .int y_93) (ty := .int) (ws' := (zd_X6_pane cI adM qM1 qM2 qM3 qM4 qM5 qM6 qM7 qM8 qM12 qM13 qM15 qM16 qM17 qM18 qM19 qM20 qM21 (zset (zset (zset (zset (zset T_81 14 (fun _ => y_93)) 15 r_86) 16 r_88) 17 r_90) 18 r_92))) C zi_X6_pane_X6 tyX6 tyX6_ok nmX6 0 rfl 14 (by decide) zf_X6_pane_189 rfl (by decide +kernel) rfl rfl rfl (Nat.le_of_ble_eq_true rfl) rfl dX6_pane_150 ?_
                refine zv_aload_n (pc := 153) C rfl 0 rfl dX6_pane_153 ?_
                refine zv_get (pc := 154) (CC := RX6) (T := TX6) (N := 22) (ci := 5) (v := .int y_93) C zi_X6_pane_X6 0 rfl 14 (by decide) zf_X6_pane_189 rfl rfl dX6_pane_154 ?_
                exact zv_iret (pc := 157) C hr hlk y_93 (zset (zset (zset (zset (zset T_81 14 (fun _ => y_93)) 15 r_86) 16 r_88) 17 r_90) 18 r_92) hF rfl dX6_pane_157
              · replace hF := And.right hF c_84
                refine zv_iconst (pc := 100) (v := -1) C (by decide) dX6_pane_100 ?_
                exact zv_iret (pc := 101) C hr hlk (-1 : Int32) T_81 hF rfl dX6_pane_101
            · replace hF := And.right hF c_83
              refine zv_iconst (pc := 89) (v := 0) C (by decide) dX6_pane_89 ?_
              exact zv_iret (pc := 90) C hr hlk (0 : Int32) T_81 hF rfl dX6_pane_90
          · skip
            refine zv_icmp_gt (pc := 74) (tgt := 81) C dX6_pane_74 (by decide) (fun c_78 => ?_) (fun c_78 => ?_)
            · replace hF := And.left hF c_78
              refine zv_iconst (pc := 81) (v := 0) C (by decide) dX6_pane_81 ?_
              exact zv_lvs [1, 2, 3, 4, 5] rfl (hKJ_80 (0 : Int32) hF)
            · replace hF := And.right hF c_78
              refine zv_iconst (pc := 77) (v := 1) C (by decide) dX6_pane_77 ?_
              refine zv_goto (pc := 78) (tgt := 82) C dX6_pane_78 (by decide) ?_
              exact zv_lvs [1, 2, 3, 4, 5] rfl (hKJ_80 (1 : Int32) hF)
      · replace hF := And.right hF c_63
        refine zv_iload_n (pc := 19) C rfl 3 rfl dX6_pane_19 ?_
        refine zv_bipush (pc := 20) (v := 100) C (by decide) dX6_pane_20 ?_
        refine zv_icmp_gt (pc := 22) (tgt := 53) C dX6_pane_22 (by decide) (fun c_94 => ?_) (fun c_94 => ?_)
        · replace hF := And.left hF c_94
          refine zv_iconst (pc := 53) (v := 0) C (by decide) dX6_pane_53 ?_
          refine zv_istore (pc := 54) (lv' := [(5, .int (0 : Int32)), (0, .ref adM), (1, .int a1), (2, .int a2), (3, .int a3), (4, .int a4)]) C (by decide) rfl dX6_pane_54 ?_
          refine zv_aload_n (pc := 56) C rfl 1 rfl dX6_pane_56 ?_
          refine zv_iload (pc := 57) C 0 rfl dX6_pane_57 ?_
          refine zv_if_eq (pc := 59) (tgt := 81) C dX6_pane_59 (by decide) (fun c_95 => ?_) (fun c_95 => ?_)
          · replace hF := And.left hF c_95
            refine zv_iconst (pc := 81) (v := 0) C (by decide) dX6_pane_81 ?_
            refine zv_iconst (pc := 82) (v := 1) C (by decide) dX6_pane_82 ?_
            refine zv_ci0 (pc := 83) (ws' := (fun uz : zMem => (zd_X6_pane cI adM qM1 qM2 qM3 qM4 qM5 qM6 qM7 qM8 qM12 qM13 qM15 qM16 qM17 qM18 qM19 qM20 qM21 uz))) C (zv_runV (As := [.int (0 : Int32), .int (1 : Int32)]) (b := adM) (rest := []) (ci := 5) (q0 := 0) C (zc_X6_right l G cI adM qM1 qM2 qM3 qM4 qM5 qM6 qM7 qM8 qM12 qM13 qM15 qM16 qM17 qM18 qM19 qM20 qM21 (zset M 0 (fun _ => (0 : Int32))) (0 : Int32) (1 : Int32) _ hF) (cwV 2 C.2.2.2.2.1 gX6_pane_X6_right rfl rfl rfl zy_X6_right ⟨Nat.le_of_ble_eq_true rfl, Nat.le_of_ble_eq_true rfl⟩) rfl rfl rfl rfl rfl (Nat.le_of_ble_eq_true rfl) ⟨Nat.zero_le _, Nat.zero_le _⟩ dX6_pane_83) [0, 1, 2, 3, 4, 5, 6, 7, 8, 9, 10, 11, 12, 13, 14, 15, 16, 17] [] rfl rfl rfl rfl rfl (fun _ => rfl) (fun _ => rfl) (fun _ => rfl) (fun v_97 uz hF => ?_)
            obtain ⟨T_96, hE⟩ : ∃ z, z = uz := ⟨_, rfl⟩; subst hE
            refine zv_if_ne (pc := 86) (tgt := 91) C dX6_pane_86 (by decide) (fun c_98 => ?_) (fun c_98 => ?_)
            · replace hF := And.left hF c_98
              refine zv_aload_n (pc := 91) C rfl 1 rfl dX6_pane_91 ?_
              refine zv_get (pc := 92) (CC := RX6) (T := TX6) (N := 22) (ci := 5) (v := .int (T_96 14 0)) C zi_X6_pane_X6 0 rfl 14 (by decide) zf_X6_pane_189 rfl rfl dX6_pane_92 ?_
              refine zv_bipush (pc := 95) (v := 8) C (by decide) dX6_pane_95 ?_
              refine zv_icmp_ne (pc := 97) (tgt := 102) C dX6_pane_97 (by decide) (fun c_99 => ?_) (fun c_99 => ?_)
              · replace hF := And.left hF c_99
                refine zv_aload_n (pc := 102) C rfl 1 rfl dX6_pane_102 ?_
                refine zv_get (pc := 103) (CC := RX6) (T := TX6) (N := 22) (ci := 5) (v := .ref qM15) C zi_X6_pane_X6 0 rfl 15 (by decide) zf_X6_pane_44 rfl rfl dX6_pane_103 ?_
                refine zv_aload_n (pc := 106) C rfl 1 rfl dX6_pane_106 ?_
                refine zv_get (pc := 107) (CC := RX6) (T := TX6) (N := 22) (ci := 5) (v := .int (T_96 14 0)) C zi_X6_pane_X6 0 rfl 14 (by decide) zf_X6_pane_189 rfl rfl dX6_pane_107 ?_
                refine zv_iload_n (pc := 110) C rfl 2 rfl dX6_pane_110 ?_
                obtain ⟨h_100, hF⟩ := hF
                obtain ⟨r_101, er_101⟩ : ∃ y : zRow, y = (upd (T_96 15) (Int32.toNatClampNeg (T_96 14 0)) a1) := ⟨_, rfl⟩
                replace hF := hF r_101 er_101
                refine zv_iast (pc := 111) (n := 8) (f := (T_96 15)) (ws' := (zd_X6_pane cI adM qM1 qM2 qM3 qM4 qM5 qM6 qM7 qM8 qM12 qM13 qM15 qM16 qM17 qM18 qM19 qM20 qM21 (zset T_96 15 r_101))) C 11 h_100 rfl (by rw [er_101]; rfl) dX6_pane_111 ?_
                refine zv_aload_n (pc := 112) C rfl 1 rfl dX6_pane_112 ?_
                refine zv_get (pc := 113) (CC := RX6) (T := TX6) (N := 22) (ci := 5) (v := .ref qM16) C zi_X6_pane_X6 0 rfl 16 (by decide) zf_X6_pane_47 rfl rfl dX6_pane_113 ?_
                refine zv_aload_n (pc := 116) C rfl 1 rfl dX6_pane_116 ?_
                refine zv_get (pc := 117) (CC := RX6) (T := TX6) (N := 22) (ci := 5) (v := .int (T_96 14 0)) C zi_X6_pane_X6 0 rfl 14 (by decide) zf_X6_pane_189 rfl rfl dX6_pane_117 ?_
                refine zv_iload_n (pc := 120) C rfl 3 rfl dX6_pane_120 ?_
                obtain ⟨h_102, hF⟩ := hF
                obtain ⟨r_103, er_103⟩ : ∃ y : zRow, y = (upd (T_96 16) (Int32.toNatClampNeg (T_96 14 0)) a2) := ⟨_, rfl⟩
                replace hF := hF r_103 er_103
                refine zv_iast (pc := 121) (n := 8) (f := (T_96 16)) (ws' := (zd_X6_pane cI adM qM1 qM2 qM3 qM4 qM5 qM6 qM7 qM8 qM12 qM13 qM15 qM16 qM17 qM18 qM19 qM20 qM21 (zset (zset T_96 15 r_101) 16 r_103))) C 12 h_102 rfl (by rw [er_103]; rfl) dX6_pane_121 ?_
                refine zv_aload_n (pc := 122) C rfl 1 rfl dX6_pane_122 ?_
                refine zv_get (pc := 123) (CC := RX6) (T := TX6) (N := 22) (ci := 5) (v := .ref qM17) C zi_X6_pane_X6 0 rfl 17 (by decide) zf_X6_pane_50 rfl rfl dX6_pane_123 ?_
                refine zv_aload_n (pc := 126) C rfl 1 rfl dX6_pane_126 ?_
                refine zv_get (pc := 127) (CC := RX6) (T := TX6) (N := 22) (ci := 5) (v := .int (T_96 14 0)) C zi_X6_pane_X6 0 rfl 14 (by decide) zf_X6_pane_189 rfl rfl dX6_pane_127 ?_
                refine zv_iload_n (pc := 130) C rfl 4 rfl dX6_pane_130 ?_
                obtain ⟨h_104, hF⟩ := hF
                obtain ⟨r_105, er_105⟩ : ∃ y : zRow, y = (upd (T_96 17) (Int32.toNatClampNeg (T_96 14 0)) a3) := ⟨_, rfl⟩
                replace hF := hF r_105 er_105
                refine zv_iast (pc := 131) (n := 8) (f := (T_96 17)) (ws' := (zd_X6_pane cI adM qM1 qM2 qM3 qM4 qM5 qM6 qM7 qM8 qM12 qM13 qM15 qM16 qM17 qM18 qM19 qM20 qM21 (zset (zset (zset T_96 15 r_101) 16 r_103) 17 r_105))) C 13 h_104 rfl (by rw [er_105]; rfl) dX6_pane_131 ?_
                refine zv_aload_n (pc := 132) C rfl 1 rfl dX6_pane_132 ?_
                refine zv_get (pc := 133) (CC := RX6) (T := TX6) (N := 22) (ci := 5) (v := .ref qM18) C zi_X6_pane_X6 0 rfl 18 (by decide) zf_X6_pane_53 rfl rfl dX6_pane_133 ?_
                refine zv_aload_n (pc := 136) C rfl 1 rfl dX6_pane_136 ?_
                refine zv_get (pc := 137) (CC := RX6) (T := TX6) (N := 22) (ci := 5) (v := .int (T_96 14 0)) C zi_X6_pane_X6 0 rfl 14 (by decide) zf_X6_pane_189 rfl rfl dX6_pane_137 ?_
                refine zv_iload (pc := 140) C 5 rfl dX6_pane_140 ?_
                obtain ⟨h_106, hF⟩ := hF
                obtain ⟨r_107, er_107⟩ : ∃ y : zRow, y = (upd (T_96 18) (Int32.toNatClampNeg (T_96 14 0)) a4) := ⟨_, rfl⟩
                replace hF := hF r_107 er_107
                refine zv_iast (pc := 142) (n := 8) (f := (T_96 18)) (ws' := (zd_X6_pane cI adM qM1 qM2 qM3 qM4 qM5 qM6 qM7 qM8 qM12 qM13 qM15 qM16 qM17 qM18 qM19 qM20 qM21 (zset (zset (zset (zset T_96 15 r_101) 16 r_103) 17 r_105) 18 r_107))) C 14 h_106 rfl (by rw [er_107]; rfl) dX6_pane_142 ?_
                refine zv_aload_n (pc := 143) C rfl 1 rfl dX6_pane_143 ?_
                refine zv_dup (pc := 144) C rfl dX6_pane_144 ?_
                refine zv_get (pc := 145) (CC := RX6) (T := TX6) (N := 22) (ci := 5) (v := .int (T_96 14 0)) C zi_X6_pane_X6 0 rfl 14 (by decide) zf_X6_pane_189 rfl rfl dX6_pane_145 ?_
                refine zv_iconst (pc := 148) (v := 1) C (by decide) dX6_pane_148 ?_
                refine zv_iadd (pc := 149) C  dX6_pane_149 ?_
                refine zv_topi (fun y_108 ey_108 => ?_)
                replace hF := hF y_108 ey_108
                refine zv_put (pc := 150) (CC := RX6) (T := TX6) (N := 22) (ci := 5) (v := .int y_108) (ty := .int) (ws' := (zd_X6_pane cI adM qM1 qM2 qM3 qM4 qM5 qM6 qM7 qM8 qM12 qM13 qM15 qM16 qM17 qM18 qM19 qM20 qM21 (zset (zset (zset (zset (zset T_96 14 (fun _ => y_108)) 15 r_101) 16 r_103) 17 r_105) 18 r_107))) C zi_X6_pane_X6 tyX6 tyX6_ok nmX6 0 rfl 14 (by decide) zf_X6_pane_189 rfl (by decide +kernel) rfl rfl rfl (Nat.le_of_ble_eq_true rfl) rfl dX6_pane_150 ?_
                refine zv_aload_n (pc := 153) C rfl 1 rfl dX6_pane_153 ?_
                refine zv_get (pc := 154) (CC := RX6) (T := TX6) (N := 22) (ci := 5) (v := .int y_108) C zi_X6_pane_X6 0 rfl 14 (by decide) zf_X6_pane_189 rfl rfl dX6_pane_154 ?_
                exact zv_iret (pc := 157) C hr hlk y_108 (zset (zset (zset (zset (zset T_96 14 (fun _ => y_108)) 15 r_101) 16 r_103) 17 r_105) 18 r_107) hF rfl dX6_pane_157
              · replace hF := And.right hF c_99
                refine zv_iconst (pc := 100) (v := -1) C (by decide) dX6_pane_100 ?_
                exact zv_iret (pc := 101) C hr hlk (-1 : Int32) T_96 hF rfl dX6_pane_101
            · replace hF := And.right hF c_98
              refine zv_iconst (pc := 89) (v := 0) C (by decide) dX6_pane_89 ?_
              exact zv_iret (pc := 90) C hr hlk (0 : Int32) T_96 hF rfl dX6_pane_90
          · replace hF := And.right hF c_95
            refine zv_iload_n (pc := 62) C rfl 2 rfl dX6_pane_62 ?_
            refine zv_iload (pc := 63) C 5 rfl dX6_pane_63 ?_
            refine zv_imul (pc := 65) C  dX6_pane_65 ?_
            refine zv_iload_n (pc := 66) C rfl 4 rfl dX6_pane_66 ?_
            refine zv_iload_n (pc := 67) C rfl 3 rfl dX6_pane_67 ?_
            refine zv_imul (pc := 68) C  dX6_pane_68 ?_
            refine zv_iadd (pc := 69) C  dX6_pane_69 ?_
            refine zv_iload_n (pc := 70) C rfl 3 rfl dX6_pane_70 ?_
            refine zv_iload (pc := 71) C 5 rfl dX6_pane_71 ?_
            refine zv_imul (pc := 73) C  dX6_pane_73 ?_
            obtain ⟨KJ_111, h0KJ_111, hF⟩ := hF
            refine zv_join (α := Int32) (KK := fun uz => KJ_111 uz) (wsJ := fun uz => (zd_X6_pane cI adM qM1 qM2 qM3 qM4 qM5 qM6 qM7 qM8 qM12 qM13 qM15 qM16 qM17 qM18 qM19 qM20 qM21 (zset M 0 (fun _ => (0 : Int32))))) (pcJ := 82) (lvJ := fun uz => [(0, .ref adM), (1, .int a1), (2, .int a2), (3, .int a3), (4, .int a4)]) (stJ := fun uz => [.int uz, .ref adM]) ?_ (fun hKJ_111 => ?_)
            · rintro v_110 hF
              replace hF := h0KJ_111 v_110 hF
              refine zv_iconst (pc := 82) (v := 1) C (by decide) dX6_pane_82 ?_
              refine zv_ci0 (pc := 83) (ws' := (fun uz : zMem => (zd_X6_pane cI adM qM1 qM2 qM3 qM4 qM5 qM6 qM7 qM8 qM12 qM13 qM15 qM16 qM17 qM18 qM19 qM20 qM21 uz))) C (zv_runV (As := [.int v_110, .int (1 : Int32)]) (b := adM) (rest := []) (ci := 5) (q0 := 0) C (zc_X6_right l G cI adM qM1 qM2 qM3 qM4 qM5 qM6 qM7 qM8 qM12 qM13 qM15 qM16 qM17 qM18 qM19 qM20 qM21 (zset M 0 (fun _ => (0 : Int32))) v_110 (1 : Int32) _ hF) (cwV 2 C.2.2.2.2.1 gX6_pane_X6_right rfl rfl rfl zy_X6_right ⟨Nat.le_of_ble_eq_true rfl, Nat.le_of_ble_eq_true rfl⟩) rfl rfl rfl rfl rfl (Nat.le_of_ble_eq_true rfl) ⟨Nat.zero_le _, Nat.zero_le _⟩ dX6_pane_83) [0, 1, 2, 3, 4, 5, 6, 7, 8, 9, 10, 11, 12, 13, 14, 15, 16, 17] [] rfl rfl rfl rfl rfl (fun _ => rfl) (fun _ => rfl) (fun _ => rfl) (fun v_113 uz hF => ?_)
              obtain ⟨T_112, hE⟩ : ∃ z, z = uz := ⟨_, rfl⟩; subst hE
              refine zv_if_ne (pc := 86) (tgt := 91) C dX6_pane_86 (by decide) (fun c_114 => ?_) (fun c_114 => ?_)
              · replace hF := And.left hF c_114
                refine zv_aload_n (pc := 91) C rfl 0 rfl dX6_pane_91 ?_
                refine zv_get (pc := 92) (CC := RX6) (T := TX6) (N := 22) (ci := 5) (v := .int (T_112 14 0)) C zi_X6_pane_X6 0 rfl 14 (by decide) zf_X6_pane_189 rfl rfl dX6_pane_92 ?_
                refine zv_bipush (pc := 95) (v := 8) C (by decide) dX6_pane_95 ?_
                refine zv_icmp_ne (pc := 97) (tgt := 102) C dX6_pane_97 (by decide) (fun c_115 => ?_) (fun c_115 => ?_)
                · replace hF := And.left hF c_115
                  refine zv_aload_n (pc := 102) C rfl 0 rfl dX6_pane_102 ?_
                  refine zv_get (pc := 103) (CC := RX6) (T := TX6) (N := 22) (ci := 5) (v := .ref qM15) C zi_X6_pane_X6 0 rfl 15 (by decide) zf_X6_pane_44 rfl rfl dX6_pane_103 ?_
                  refine zv_aload_n (pc := 106) C rfl 0 rfl dX6_pane_106 ?_
                  refine zv_get (pc := 107) (CC := RX6) (T := TX6) (N := 22) (ci := 5) (v := .int (T_112 14 0)) C zi_X6_pane_X6 0 rfl 14 (by decide) zf_X6_pane_189 rfl rfl dX6_pane_107 ?_
                  refine zv_iload_n (pc := 110) C rfl 1 rfl dX6_pane_110 ?_
                  obtain ⟨h_116, hF⟩ := hF
                  obtain ⟨r_117, er_117⟩ : ∃ y : zRow, y = (upd (T_112 15) (Int32.toNatClampNeg (T_112 14 0)) a1) := ⟨_, rfl⟩
                  replace hF := hF r_117 er_117
                  refine zv_iast (pc := 111) (n := 8) (f := (T_112 15)) (ws' := (zd_X6_pane cI adM qM1 qM2 qM3 qM4 qM5 qM6 qM7 qM8 qM12 qM13 qM15 qM16 qM17 qM18 qM19 qM20 qM21 (zset T_112 15 r_117))) C 11 h_116 rfl (by rw [er_117]; rfl) dX6_pane_111 ?_
                  refine zv_aload_n (pc := 112) C rfl 0 rfl dX6_pane_112 ?_
                  refine zv_get (pc := 113) (CC := RX6) (T := TX6) (N := 22) (ci := 5) (v := .ref qM16) C zi_X6_pane_X6 0 rfl 16 (by decide) zf_X6_pane_47 rfl rfl dX6_pane_113 ?_
                  refine zv_aload_n (pc := 116) C rfl 0 rfl dX6_pane_116 ?_
                  refine zv_get (pc := 117) (CC := RX6) (T := TX6) (N := 22) (ci := 5) (v := .int (T_112 14 0)) C zi_X6_pane_X6 0 rfl 14 (by decide) zf_X6_pane_189 rfl rfl dX6_pane_117 ?_
                  refine zv_iload_n (pc := 120) C rfl 2 rfl dX6_pane_120 ?_
                  obtain ⟨h_118, hF⟩ := hF
                  obtain ⟨r_119, er_119⟩ : ∃ y : zRow, y = (upd (T_112 16) (Int32.toNatClampNeg (T_112 14 0)) a2) := ⟨_, rfl⟩
                  replace hF := hF r_119 er_119
                  refine zv_iast (pc := 121) (n := 8) (f := (T_112 16)) (ws' := (zd_X6_pane cI adM qM1 qM2 qM3 qM4 qM5 qM6 qM7 qM8 qM12 qM13 qM15 qM16 qM17 qM18 qM19 qM20 qM21 (zset (zset T_112 15 r_117) 16 r_119))) C 12 h_118 rfl (by rw [er_119]; rfl) dX6_pane_121 ?_
                  refine zv_aload_n (pc := 122) C rfl 0 rfl dX6_pane_122 ?_
                  refine zv_get (pc := 123) (CC := RX6) (T := TX6) (N := 22) (ci := 5) (v := .ref qM17) C zi_X6_pane_X6 0 rfl 17 (by decide) zf_X6_pane_50 rfl rfl dX6_pane_123 ?_
                  refine zv_aload_n (pc := 126) C rfl 0 rfl dX6_pane_126 ?_
                  refine zv_get (pc := 127) (CC := RX6) (T := TX6) (N := 22) (ci := 5) (v := .int (T_112 14 0)) C zi_X6_pane_X6 0 rfl 14 (by decide) zf_X6_pane_189 rfl rfl dX6_pane_127 ?_
                  refine zv_iload_n (pc := 130) C rfl 3 rfl dX6_pane_130 ?_
                  obtain ⟨h_120, hF⟩ := hF
                  obtain ⟨r_121, er_121⟩ : ∃ y : zRow, y = (upd (T_112 17) (Int32.toNatClampNeg (T_112 14 0)) a3) := ⟨_, rfl⟩
                  replace hF := hF r_121 er_121
                  refine zv_iast (pc := 131) (n := 8) (f := (T_112 17)) (ws' := (zd_X6_pane cI adM qM1 qM2 qM3 qM4 qM5 qM6 qM7 qM8 qM12 qM13 qM15 qM16 qM17 qM18 qM19 qM20 qM21 (zset (zset (zset T_112 15 r_117) 16 r_119) 17 r_121))) C 13 h_120 rfl (by rw [er_121]; rfl) dX6_pane_131 ?_
                  refine zv_aload_n (pc := 132) C rfl 0 rfl dX6_pane_132 ?_
                  refine zv_get (pc := 133) (CC := RX6) (T := TX6) (N := 22) (ci := 5) (v := .ref qM18) C zi_X6_pane_X6 0 rfl 18 (by decide) zf_X6_pane_53 rfl rfl dX6_pane_133 ?_
                  refine zv_aload_n (pc := 136) C rfl 0 rfl dX6_pane_136 ?_
                  refine zv_get (pc := 137) (CC := RX6) (T := TX6) (N := 22) (ci := 5) (v := .int (T_112 14 0)) C zi_X6_pane_X6 0 rfl 14 (by decide) zf_X6_pane_189 rfl rfl dX6_pane_137 ?_
                  refine zv_iload (pc := 140) C 4 rfl dX6_pane_140 ?_
                  obtain ⟨h_122, hF⟩ := hF
                  obtain ⟨r_123, er_123⟩ : ∃ y : zRow, y = (upd (T_112 18) (Int32.toNatClampNeg (T_112 14 0)) a4) := ⟨_, rfl⟩
                  replace hF := hF r_123 er_123
                  refine zv_iast (pc := 142) (n := 8) (f := (T_112 18)) (ws' := (zd_X6_pane cI adM qM1 qM2 qM3 qM4 qM5 qM6 qM7 qM8 qM12 qM13 qM15 qM16 qM17 qM18 qM19 qM20 qM21 (zset (zset (zset (zset T_112 15 r_117) 16 r_119) 17 r_121) 18 r_123))) C 14 h_122 rfl (by rw [er_123]; rfl) dX6_pane_142 ?_
                  refine zv_aload_n (pc := 143) C rfl 0 rfl dX6_pane_143 ?_
                  refine zv_dup (pc := 144) C rfl dX6_pane_144 ?_
                  refine zv_get (pc := 145) (CC := RX6) (T := TX6) (N := 22) (ci := 5) (v := .int (T_112 14 0)) C zi_X6_pane_X6 0 rfl 14 (by decide) zf_X6_pane_189 rfl rfl dX6_pane_145 ?_
                  refine zv_iconst (pc := 148) (v := 1) C (by decide) dX6_pane_148 ?_
                  refine zv_iadd (pc := 149) C  dX6_pane_149 ?_
                  refine zv_topi (fun y_124 ey_124 => ?_)
                  replace hF := hF y_124 ey_124
                  refine zv_put (pc := 150) (CC := RX6) (T := TX6) (N := 22) (ci := 5) (v := .int y_124) (ty := .int) (ws' := (zd_X6_pane cI adM qM1 qM2 qM3 qM4 qM5 qM6 qM7 qM8 qM12 qM13 qM15 qM16 qM17 qM18 qM19 qM20 qM21 (zset (zset (zset (zset (zset T_112 14 (fun _ => y_124)) 15 r_117) 16 r_119) 17 r_121) 18 r_123))) C zi_X6_pane_X6 tyX6 tyX6_ok nmX6 0 rfl 14 (by decide) zf_X6_pane_189 rfl (by decide +kernel) rfl rfl rfl (Nat.le_of_ble_eq_true rfl) rfl dX6_pane_150 ?_
                  refine zv_aload_n (pc := 153) C rfl 0 rfl dX6_pane_153 ?_
                  refine zv_get (pc := 154) (CC := RX6) (T := TX6) (N := 22) (ci := 5) (v := .int y_124) C zi_X6_pane_X6 0 rfl 14 (by decide) zf_X6_pane_189 rfl rfl dX6_pane_154 ?_
                  exact zv_iret (pc := 157) C hr hlk y_124 (zset (zset (zset (zset (zset T_112 14 (fun _ => y_124)) 15 r_117) 16 r_119) 17 r_121) 18 r_123) hF rfl dX6_pane_157
                · replace hF := And.right hF c_115
                  refine zv_iconst (pc := 100) (v := -1) C (by decide) dX6_pane_100 ?_
                  exact zv_iret (pc := 101) C hr hlk (-1 : Int32) T_112 hF rfl dX6_pane_101
              · replace hF := And.right hF c_114
                refine zv_iconst (pc := 89) (v := 0) C (by decide) dX6_pane_89 ?_
                exact zv_iret (pc := 90) C hr hlk (0 : Int32) T_112 hF rfl dX6_pane_90
            · skip
              refine zv_icmp_gt (pc := 74) (tgt := 81) C dX6_pane_74 (by decide) (fun c_109 => ?_) (fun c_109 => ?_)
              · replace hF := And.left hF c_109
                refine zv_iconst (pc := 81) (v := 0) C (by decide) dX6_pane_81 ?_
                exact zv_lvs [1, 2, 3, 4, 5] rfl (hKJ_111 (0 : Int32) hF)
              · replace hF := And.right hF c_109
                refine zv_iconst (pc := 77) (v := 1) C (by decide) dX6_pane_77 ?_
                refine zv_goto (pc := 78) (tgt := 82) C dX6_pane_78 (by decide) ?_
                exact zv_lvs [1, 2, 3, 4, 5] rfl (hKJ_111 (1 : Int32) hF)
        · replace hF := And.right hF c_94
          refine zv_iload_n (pc := 25) C rfl 2 rfl dX6_pane_25 ?_
          refine zv_iconst (pc := 26) (v := 1) C (by decide) dX6_pane_26 ?_
          refine zv_icmp_lt (pc := 27) (tgt := 53) C dX6_pane_27 (by decide) (fun c_125 => ?_) (fun c_125 => ?_)
          · replace hF := And.left hF c_125
            refine zv_iconst (pc := 53) (v := 0) C (by decide) dX6_pane_53 ?_
            refine zv_istore (pc := 54) (lv' := [(5, .int (0 : Int32)), (0, .ref adM), (1, .int a1), (2, .int a2), (3, .int a3), (4, .int a4)]) C (by decide) rfl dX6_pane_54 ?_
            refine zv_aload_n (pc := 56) C rfl 1 rfl dX6_pane_56 ?_
            refine zv_iload (pc := 57) C 0 rfl dX6_pane_57 ?_
            refine zv_if_eq (pc := 59) (tgt := 81) C dX6_pane_59 (by decide) (fun c_126 => ?_) (fun c_126 => ?_)
            · replace hF := And.left hF c_126
              refine zv_iconst (pc := 81) (v := 0) C (by decide) dX6_pane_81 ?_
              refine zv_iconst (pc := 82) (v := 1) C (by decide) dX6_pane_82 ?_
              refine zv_ci0 (pc := 83) (ws' := (fun uz : zMem => (zd_X6_pane cI adM qM1 qM2 qM3 qM4 qM5 qM6 qM7 qM8 qM12 qM13 qM15 qM16 qM17 qM18 qM19 qM20 qM21 uz))) C (zv_runV (As := [.int (0 : Int32), .int (1 : Int32)]) (b := adM) (rest := []) (ci := 5) (q0 := 0) C (zc_X6_right l G cI adM qM1 qM2 qM3 qM4 qM5 qM6 qM7 qM8 qM12 qM13 qM15 qM16 qM17 qM18 qM19 qM20 qM21 (zset M 0 (fun _ => (0 : Int32))) (0 : Int32) (1 : Int32) _ hF) (cwV 2 C.2.2.2.2.1 gX6_pane_X6_right rfl rfl rfl zy_X6_right ⟨Nat.le_of_ble_eq_true rfl, Nat.le_of_ble_eq_true rfl⟩) rfl rfl rfl rfl rfl (Nat.le_of_ble_eq_true rfl) ⟨Nat.zero_le _, Nat.zero_le _⟩ dX6_pane_83) [0, 1, 2, 3, 4, 5, 6, 7, 8, 9, 10, 11, 12, 13, 14, 15, 16, 17] [] rfl rfl rfl rfl rfl (fun _ => rfl) (fun _ => rfl) (fun _ => rfl) (fun v_128 uz hF => ?_)
              obtain ⟨T_127, hE⟩ : ∃ z, z = uz := ⟨_, rfl⟩; subst hE
              refine zv_if_ne (pc := 86) (tgt := 91) C dX6_pane_86 (by decide) (fun c_129 => ?_) (fun c_129 => ?_)
              · replace hF := And.left hF c_129
                refine zv_aload_n (pc := 91) C rfl 1 rfl dX6_pane_91 ?_
                refine zv_get (pc := 92) (CC := RX6) (T := TX6) (N := 22) (ci := 5) (v := .int (T_127 14 0)) C zi_X6_pane_X6 0 rfl 14 (by decide) zf_X6_pane_189 rfl rfl dX6_pane_92 ?_
                refine zv_bipush (pc := 95) (v := 8) C (by decide) dX6_pane_95 ?_
                refine zv_icmp_ne (pc := 97) (tgt := 102) C dX6_pane_97 (by decide) (fun c_130 => ?_) (fun c_130 => ?_)
                · replace hF := And.left hF c_130
                  refine zv_aload_n (pc := 102) C rfl 1 rfl dX6_pane_102 ?_
                  refine zv_get (pc := 103) (CC := RX6) (T := TX6) (N := 22) (ci := 5) (v := .ref qM15) C zi_X6_pane_X6 0 rfl 15 (by decide) zf_X6_pane_44 rfl rfl dX6_pane_103 ?_
                  refine zv_aload_n (pc := 106) C rfl 1 rfl dX6_pane_106 ?_
                  refine zv_get (pc := 107) (CC := RX6) (T := TX6) (N := 22) (ci := 5) (v := .int (T_127 14 0)) C zi_X6_pane_X6 0 rfl 14 (by decide) zf_X6_pane_189 rfl rfl dX6_pane_107 ?_
                  refine zv_iload_n (pc := 110) C rfl 2 rfl dX6_pane_110 ?_
                  obtain ⟨h_131, hF⟩ := hF
                  obtain ⟨r_132, er_132⟩ : ∃ y : zRow, y = (upd (T_127 15) (Int32.toNatClampNeg (T_127 14 0)) a1) := ⟨_, rfl⟩
                  replace hF := hF r_132 er_132
                  refine zv_iast (pc := 111) (n := 8) (f := (T_127 15)) (ws' := (zd_X6_pane cI adM qM1 qM2 qM3 qM4 qM5 qM6 qM7 qM8 qM12 qM13 qM15 qM16 qM17 qM18 qM19 qM20 qM21 (zset T_127 15 r_132))) C 11 h_131 rfl (by rw [er_132]; rfl) dX6_pane_111 ?_
                  refine zv_aload_n (pc := 112) C rfl 1 rfl dX6_pane_112 ?_
                  refine zv_get (pc := 113) (CC := RX6) (T := TX6) (N := 22) (ci := 5) (v := .ref qM16) C zi_X6_pane_X6 0 rfl 16 (by decide) zf_X6_pane_47 rfl rfl dX6_pane_113 ?_
                  refine zv_aload_n (pc := 116) C rfl 1 rfl dX6_pane_116 ?_
                  refine zv_get (pc := 117) (CC := RX6) (T := TX6) (N := 22) (ci := 5) (v := .int (T_127 14 0)) C zi_X6_pane_X6 0 rfl 14 (by decide) zf_X6_pane_189 rfl rfl dX6_pane_117 ?_
                  refine zv_iload_n (pc := 120) C rfl 3 rfl dX6_pane_120 ?_
                  obtain ⟨h_133, hF⟩ := hF
                  obtain ⟨r_134, er_134⟩ : ∃ y : zRow, y = (upd (T_127 16) (Int32.toNatClampNeg (T_127 14 0)) a2) := ⟨_, rfl⟩
                  replace hF := hF r_134 er_134
                  refine zv_iast (pc := 121) (n := 8) (f := (T_127 16)) (ws' := (zd_X6_pane cI adM qM1 qM2 qM3 qM4 qM5 qM6 qM7 qM8 qM12 qM13 qM15 qM16 qM17 qM18 qM19 qM20 qM21 (zset (zset T_127 15 r_132) 16 r_134))) C 12 h_133 rfl (by rw [er_134]; rfl) dX6_pane_121 ?_
                  refine zv_aload_n (pc := 122) C rfl 1 rfl dX6_pane_122 ?_
                  refine zv_get (pc := 123) (CC := RX6) (T := TX6) (N := 22) (ci := 5) (v := .ref qM17) C zi_X6_pane_X6 0 rfl 17 (by decide) zf_X6_pane_50 rfl rfl dX6_pane_123 ?_
                  refine zv_aload_n (pc := 126) C rfl 1 rfl dX6_pane_126 ?_
                  refine zv_get (pc := 127) (CC := RX6) (T := TX6) (N := 22) (ci := 5) (v := .int (T_127 14 0)) C zi_X6_pane_X6 0 rfl 14 (by decide) zf_X6_pane_189 rfl rfl dX6_pane_127 ?_
                  refine zv_iload_n (pc := 130) C rfl 4 rfl dX6_pane_130 ?_
                  obtain ⟨h_135, hF⟩ := hF
                  obtain ⟨r_136, er_136⟩ : ∃ y : zRow, y = (upd (T_127 17) (Int32.toNatClampNeg (T_127 14 0)) a3) := ⟨_, rfl⟩
                  replace hF := hF r_136 er_136
                  refine zv_iast (pc := 131) (n := 8) (f := (T_127 17)) (ws' := (zd_X6_pane cI adM qM1 qM2 qM3 qM4 qM5 qM6 qM7 qM8 qM12 qM13 qM15 qM16 qM17 qM18 qM19 qM20 qM21 (zset (zset (zset T_127 15 r_132) 16 r_134) 17 r_136))) C 13 h_135 rfl (by rw [er_136]; rfl) dX6_pane_131 ?_
                  refine zv_aload_n (pc := 132) C rfl 1 rfl dX6_pane_132 ?_
                  refine zv_get (pc := 133) (CC := RX6) (T := TX6) (N := 22) (ci := 5) (v := .ref qM18) C zi_X6_pane_X6 0 rfl 18 (by decide) zf_X6_pane_53 rfl rfl dX6_pane_133 ?_
                  refine zv_aload_n (pc := 136) C rfl 1 rfl dX6_pane_136 ?_
                  refine zv_get (pc := 137) (CC := RX6) (T := TX6) (N := 22) (ci := 5) (v := .int (T_127 14 0)) C zi_X6_pane_X6 0 rfl 14 (by decide) zf_X6_pane_189 rfl rfl dX6_pane_137 ?_
                  refine zv_iload (pc := 140) C 5 rfl dX6_pane_140 ?_
                  obtain ⟨h_137, hF⟩ := hF
                  obtain ⟨r_138, er_138⟩ : ∃ y : zRow, y = (upd (T_127 18) (Int32.toNatClampNeg (T_127 14 0)) a4) := ⟨_, rfl⟩
                  replace hF := hF r_138 er_138
                  refine zv_iast (pc := 142) (n := 8) (f := (T_127 18)) (ws' := (zd_X6_pane cI adM qM1 qM2 qM3 qM4 qM5 qM6 qM7 qM8 qM12 qM13 qM15 qM16 qM17 qM18 qM19 qM20 qM21 (zset (zset (zset (zset T_127 15 r_132) 16 r_134) 17 r_136) 18 r_138))) C 14 h_137 rfl (by rw [er_138]; rfl) dX6_pane_142 ?_
                  refine zv_aload_n (pc := 143) C rfl 1 rfl dX6_pane_143 ?_
                  refine zv_dup (pc := 144) C rfl dX6_pane_144 ?_
                  refine zv_get (pc := 145) (CC := RX6) (T := TX6) (N := 22) (ci := 5) (v := .int (T_127 14 0)) C zi_X6_pane_X6 0 rfl 14 (by decide) zf_X6_pane_189 rfl rfl dX6_pane_145 ?_
                  refine zv_iconst (pc := 148) (v := 1) C (by decide) dX6_pane_148 ?_
                  refine zv_iadd (pc := 149) C  dX6_pane_149 ?_
                  refine zv_topi (fun y_139 ey_139 => ?_)
                  replace hF := hF y_139 ey_139
                  refine zv_put (pc := 150) (CC := RX6) (T := TX6) (N := 22) (ci := 5) (v := .int y_139) (ty := .int) (ws' := (zd_X6_pane cI adM qM1 qM2 qM3 qM4 qM5 qM6 qM7 qM8 qM12 qM13 qM15 qM16 qM17 qM18 qM19 qM20 qM21 (zset (zset (zset (zset (zset T_127 14 (fun _ => y_139)) 15 r_132) 16 r_134) 17 r_136) 18 r_138))) C zi_X6_pane_X6 tyX6 tyX6_ok nmX6 0 rfl 14 (by decide) zf_X6_pane_189 rfl (by decide +kernel) rfl rfl rfl (Nat.le_of_ble_eq_true rfl) rfl dX6_pane_150 ?_
                  refine zv_aload_n (pc := 153) C rfl 1 rfl dX6_pane_153 ?_
                  refine zv_get (pc := 154) (CC := RX6) (T := TX6) (N := 22) (ci := 5) (v := .int y_139) C zi_X6_pane_X6 0 rfl 14 (by decide) zf_X6_pane_189 rfl rfl dX6_pane_154 ?_
                  exact zv_iret (pc := 157) C hr hlk y_139 (zset (zset (zset (zset (zset T_127 14 (fun _ => y_139)) 15 r_132) 16 r_134) 17 r_136) 18 r_138) hF rfl dX6_pane_157
                · replace hF := And.right hF c_130
                  refine zv_iconst (pc := 100) (v := -1) C (by decide) dX6_pane_100 ?_
                  exact zv_iret (pc := 101) C hr hlk (-1 : Int32) T_127 hF rfl dX6_pane_101
              · replace hF := And.right hF c_129
                refine zv_iconst (pc := 89) (v := 0) C (by decide) dX6_pane_89 ?_
                exact zv_iret (pc := 90) C hr hlk (0 : Int32) T_127 hF rfl dX6_pane_90
            · replace hF := And.right hF c_126
              refine zv_iload_n (pc := 62) C rfl 2 rfl dX6_pane_62 ?_
              refine zv_iload (pc := 63) C 5 rfl dX6_pane_63 ?_
              refine zv_imul (pc := 65) C  dX6_pane_65 ?_
              refine zv_iload_n (pc := 66) C rfl 4 rfl dX6_pane_66 ?_
              refine zv_iload_n (pc := 67) C rfl 3 rfl dX6_pane_67 ?_
              refine zv_imul (pc := 68) C  dX6_pane_68 ?_
              refine zv_iadd (pc := 69) C  dX6_pane_69 ?_
              refine zv_iload_n (pc := 70) C rfl 3 rfl dX6_pane_70 ?_
              refine zv_iload (pc := 71) C 5 rfl dX6_pane_71 ?_
              refine zv_imul (pc := 73) C  dX6_pane_73 ?_
              obtain ⟨KJ_142, h0KJ_142, hF⟩ := hF
              refine zv_join (α := Int32) (KK := fun uz => KJ_142 uz) (wsJ := fun uz => (zd_X6_pane cI adM qM1 qM2 qM3 qM4 qM5 qM6 qM7 qM8 qM12 qM13 qM15 qM16 qM17 qM18 qM19 qM20 qM21 (zset M 0 (fun _ => (0 : Int32))))) (pcJ := 82) (lvJ := fun uz => [(0, .ref adM), (1, .int a1), (2, .int a2), (3, .int a3), (4, .int a4)]) (stJ := fun uz => [.int uz, .ref adM]) ?_ (fun hKJ_142 => ?_)
              · rintro v_141 hF
                replace hF := h0KJ_142 v_141 hF
                refine zv_iconst (pc := 82) (v := 1) C (by decide) dX6_pane_82 ?_
                refine zv_ci0 (pc := 83) (ws' := (fun uz : zMem => (zd_X6_pane cI adM qM1 qM2 qM3 qM4 qM5 qM6 qM7 qM8 qM12 qM13 qM15 qM16 qM17 qM18 qM19 qM20 qM21 uz))) C (zv_runV (As := [.int v_141, .int (1 : Int32)]) (b := adM) (rest := []) (ci := 5) (q0 := 0) C (zc_X6_right l G cI adM qM1 qM2 qM3 qM4 qM5 qM6 qM7 qM8 qM12 qM13 qM15 qM16 qM17 qM18 qM19 qM20 qM21 (zset M 0 (fun _ => (0 : Int32))) v_141 (1 : Int32) _ hF) (cwV 2 C.2.2.2.2.1 gX6_pane_X6_right rfl rfl rfl zy_X6_right ⟨Nat.le_of_ble_eq_true rfl, Nat.le_of_ble_eq_true rfl⟩) rfl rfl rfl rfl rfl (Nat.le_of_ble_eq_true rfl) ⟨Nat.zero_le _, Nat.zero_le _⟩ dX6_pane_83) [0, 1, 2, 3, 4, 5, 6, 7, 8, 9, 10, 11, 12, 13, 14, 15, 16, 17] [] rfl rfl rfl rfl rfl (fun _ => rfl) (fun _ => rfl) (fun _ => rfl) (fun v_144 uz hF => ?_)
                obtain ⟨T_143, hE⟩ : ∃ z, z = uz := ⟨_, rfl⟩; subst hE
                refine zv_if_ne (pc := 86) (tgt := 91) C dX6_pane_86 (by decide) (fun c_145 => ?_) (fun c_145 => ?_)
                · replace hF := And.left hF c_145
                  refine zv_aload_n (pc := 91) C rfl 0 rfl dX6_pane_91 ?_
                  refine zv_get (pc := 92) (CC := RX6) (T := TX6) (N := 22) (ci := 5) (v := .int (T_143 14 0)) C zi_X6_pane_X6 0 rfl 14 (by decide) zf_X6_pane_189 rfl rfl dX6_pane_92 ?_
                  refine zv_bipush (pc := 95) (v := 8) C (by decide) dX6_pane_95 ?_
                  refine zv_icmp_ne (pc := 97) (tgt := 102) C dX6_pane_97 (by decide) (fun c_146 => ?_) (fun c_146 => ?_)
                  · replace hF := And.left hF c_146
                    refine zv_aload_n (pc := 102) C rfl 0 rfl dX6_pane_102 ?_
                    refine zv_get (pc := 103) (CC := RX6) (T := TX6) (N := 22) (ci := 5) (v := .ref qM15) C zi_X6_pane_X6 0 rfl 15 (by decide) zf_X6_pane_44 rfl rfl dX6_pane_103 ?_
                    refine zv_aload_n (pc := 106) C rfl 0 rfl dX6_pane_106 ?_
                    refine zv_get (pc := 107) (CC := RX6) (T := TX6) (N := 22) (ci := 5) (v := .int (T_143 14 0)) C zi_X6_pane_X6 0 rfl 14 (by decide) zf_X6_pane_189 rfl rfl dX6_pane_107 ?_
                    refine zv_iload_n (pc := 110) C rfl 1 rfl dX6_pane_110 ?_
                    obtain ⟨h_147, hF⟩ := hF
                    obtain ⟨r_148, er_148⟩ : ∃ y : zRow, y = (upd (T_143 15) (Int32.toNatClampNeg (T_143 14 0)) a1) := ⟨_, rfl⟩
                    replace hF := hF r_148 er_148
                    refine zv_iast (pc := 111) (n := 8) (f := (T_143 15)) (ws' := (zd_X6_pane cI adM qM1 qM2 qM3 qM4 qM5 qM6 qM7 qM8 qM12 qM13 qM15 qM16 qM17 qM18 qM19 qM20 qM21 (zset T_143 15 r_148))) C 11 h_147 rfl (by rw [er_148]; rfl) dX6_pane_111 ?_
                    refine zv_aload_n (pc := 112) C rfl 0 rfl dX6_pane_112 ?_
                    refine zv_get (pc := 113) (CC := RX6) (T := TX6) (N := 22) (ci := 5) (v := .ref qM16) C zi_X6_pane_X6 0 rfl 16 (by decide) zf_X6_pane_47 rfl rfl dX6_pane_113 ?_
                    refine zv_aload_n (pc := 116) C rfl 0 rfl dX6_pane_116 ?_
                    refine zv_get (pc := 117) (CC := RX6) (T := TX6) (N := 22) (ci := 5) (v := .int (T_143 14 0)) C zi_X6_pane_X6 0 rfl 14 (by decide) zf_X6_pane_189 rfl rfl dX6_pane_117 ?_
                    refine zv_iload_n (pc := 120) C rfl 2 rfl dX6_pane_120 ?_
                    obtain ⟨h_149, hF⟩ := hF
                    obtain ⟨r_150, er_150⟩ : ∃ y : zRow, y = (upd (T_143 16) (Int32.toNatClampNeg (T_143 14 0)) a2) := ⟨_, rfl⟩
                    replace hF := hF r_150 er_150
                    refine zv_iast (pc := 121) (n := 8) (f := (T_143 16)) (ws' := (zd_X6_pane cI adM qM1 qM2 qM3 qM4 qM5 qM6 qM7 qM8 qM12 qM13 qM15 qM16 qM17 qM18 qM19 qM20 qM21 (zset (zset T_143 15 r_148) 16 r_150))) C 12 h_149 rfl (by rw [er_150]; rfl) dX6_pane_121 ?_
                    refine zv_aload_n (pc := 122) C rfl 0 rfl dX6_pane_122 ?_
                    refine zv_get (pc := 123) (CC := RX6) (T := TX6) (N := 22) (ci := 5) (v := .ref qM17) C zi_X6_pane_X6 0 rfl 17 (by decide) zf_X6_pane_50 rfl rfl dX6_pane_123 ?_
                    refine zv_aload_n (pc := 126) C rfl 0 rfl dX6_pane_126 ?_
                    refine zv_get (pc := 127) (CC := RX6) (T := TX6) (N := 22) (ci := 5) (v := .int (T_143 14 0)) C zi_X6_pane_X6 0 rfl 14 (by decide) zf_X6_pane_189 rfl rfl dX6_pane_127 ?_
                    refine zv_iload_n (pc := 130) C rfl 3 rfl dX6_pane_130 ?_
                    obtain ⟨h_151, hF⟩ := hF
                    obtain ⟨r_152, er_152⟩ : ∃ y : zRow, y = (upd (T_143 17) (Int32.toNatClampNeg (T_143 14 0)) a3) := ⟨_, rfl⟩
                    replace hF := hF r_152 er_152
                    refine zv_iast (pc := 131) (n := 8) (f := (T_143 17)) (ws' := (zd_X6_pane cI adM qM1 qM2 qM3 qM4 qM5 qM6 qM7 qM8 qM12 qM13 qM15 qM16 qM17 qM18 qM19 qM20 qM21 (zset (zset (zset T_143 15 r_148) 16 r_150) 17 r_152))) C 13 h_151 rfl (by rw [er_152]; rfl) dX6_pane_131 ?_
                    refine zv_aload_n (pc := 132) C rfl 0 rfl dX6_pane_132 ?_
                    refine zv_get (pc := 133) (CC := RX6) (T := TX6) (N := 22) (ci := 5) (v := .ref qM18) C zi_X6_pane_X6 0 rfl 18 (by decide) zf_X6_pane_53 rfl rfl dX6_pane_133 ?_
                    refine zv_aload_n (pc := 136) C rfl 0 rfl dX6_pane_136 ?_
                    refine zv_get (pc := 137) (CC := RX6) (T := TX6) (N := 22) (ci := 5) (v := .int (T_143 14 0)) C zi_X6_pane_X6 0 rfl 14 (by decide) zf_X6_pane_189 rfl rfl dX6_pane_137 ?_
                    refine zv_iload (pc := 140) C 4 rfl dX6_pane_140 ?_
                    obtain ⟨h_153, hF⟩ := hF
                    obtain ⟨r_154, er_154⟩ : ∃ y : zRow, y = (upd (T_143 18) (Int32.toNatClampNeg (T_143 14 0)) a4) := ⟨_, rfl⟩
                    replace hF := hF r_154 er_154
                    refine zv_iast (pc := 142) (n := 8) (f := (T_143 18)) (ws' := (zd_X6_pane cI adM qM1 qM2 qM3 qM4 qM5 qM6 qM7 qM8 qM12 qM13 qM15 qM16 qM17 qM18 qM19 qM20 qM21 (zset (zset (zset (zset T_143 15 r_148) 16 r_150) 17 r_152) 18 r_154))) C 14 h_153 rfl (by rw [er_154]; rfl) dX6_pane_142 ?_
                    refine zv_aload_n (pc := 143) C rfl 0 rfl dX6_pane_143 ?_
                    refine zv_dup (pc := 144) C rfl dX6_pane_144 ?_
                    refine zv_get (pc := 145) (CC := RX6) (T := TX6) (N := 22) (ci := 5) (v := .int (T_143 14 0)) C zi_X6_pane_X6 0 rfl 14 (by decide) zf_X6_pane_189 rfl rfl dX6_pane_145 ?_
                    refine zv_iconst (pc := 148) (v := 1) C (by decide) dX6_pane_148 ?_
                    refine zv_iadd (pc := 149) C  dX6_pane_149 ?_
                    refine zv_topi (fun y_155 ey_155 => ?_)
                    replace hF := hF y_155 ey_155
                    refine zv_put (pc := 150) (CC := RX6) (T := TX6) (N := 22) (ci := 5) (v := .int y_155) (ty := .int) (ws' := (zd_X6_pane cI adM qM1 qM2 qM3 qM4 qM5 qM6 qM7 qM8 qM12 qM13 qM15 qM16 qM17 qM18 qM19 qM20 qM21 (zset (zset (zset (zset (zset T_143 14 (fun _ => y_155)) 15 r_148) 16 r_150) 17 r_152) 18 r_154))) C zi_X6_pane_X6 tyX6 tyX6_ok nmX6 0 rfl 14 (by decide) zf_X6_pane_189 rfl (by decide +kernel) rfl rfl rfl (Nat.le_of_ble_eq_true rfl) rfl dX6_pane_150 ?_
                    refine zv_aload_n (pc := 153) C rfl 0 rfl dX6_pane_153 ?_
                    refine zv_get (pc := 154) (CC := RX6) (T := TX6) (N := 22) (ci := 5) (v := .int y_155) C zi_X6_pane_X6 0 rfl 14 (by decide) zf_X6_pane_189 rfl rfl dX6_pane_154 ?_
                    exact zv_iret (pc := 157) C hr hlk y_155 (zset (zset (zset (zset (zset T_143 14 (fun _ => y_155)) 15 r_148) 16 r_150) 17 r_152) 18 r_154) hF rfl dX6_pane_157
                  · replace hF := And.right hF c_146
                    refine zv_iconst (pc := 100) (v := -1) C (by decide) dX6_pane_100 ?_
                    exact zv_iret (pc := 101) C hr hlk (-1 : Int32) T_143 hF rfl dX6_pane_101
                · replace hF := And.right hF c_145
                  refine zv_iconst (pc := 89) (v := 0) C (by decide) dX6_pane_89 ?_
                  exact zv_iret (pc := 90) C hr hlk (0 : Int32) T_143 hF rfl dX6_pane_90
              · skip
                refine zv_icmp_gt (pc := 74) (tgt := 81) C dX6_pane_74 (by decide) (fun c_140 => ?_) (fun c_140 => ?_)
                · replace hF := And.left hF c_140
                  refine zv_iconst (pc := 81) (v := 0) C (by decide) dX6_pane_81 ?_
                  exact zv_lvs [1, 2, 3, 4, 5] rfl (hKJ_142 (0 : Int32) hF)
                · replace hF := And.right hF c_140
                  refine zv_iconst (pc := 77) (v := 1) C (by decide) dX6_pane_77 ?_
                  refine zv_goto (pc := 78) (tgt := 82) C dX6_pane_78 (by decide) ?_
                  exact zv_lvs [1, 2, 3, 4, 5] rfl (hKJ_142 (1 : Int32) hF)
          · replace hF := And.right hF c_125
            refine zv_iload_n (pc := 30) C rfl 2 rfl dX6_pane_30 ?_
            refine zv_bipush (pc := 31) (v := 100) C (by decide) dX6_pane_31 ?_
            refine zv_icmp_gt (pc := 33) (tgt := 53) C dX6_pane_33 (by decide) (fun c_156 => ?_) (fun c_156 => ?_)
            · replace hF := And.left hF c_156
              refine zv_iconst (pc := 53) (v := 0) C (by decide) dX6_pane_53 ?_
              refine zv_istore (pc := 54) (lv' := [(5, .int (0 : Int32)), (0, .ref adM), (1, .int a1), (2, .int a2), (3, .int a3), (4, .int a4)]) C (by decide) rfl dX6_pane_54 ?_
              refine zv_aload_n (pc := 56) C rfl 1 rfl dX6_pane_56 ?_
              refine zv_iload (pc := 57) C 0 rfl dX6_pane_57 ?_
              refine zv_if_eq (pc := 59) (tgt := 81) C dX6_pane_59 (by decide) (fun c_157 => ?_) (fun c_157 => ?_)
              · replace hF := And.left hF c_157
                refine zv_iconst (pc := 81) (v := 0) C (by decide) dX6_pane_81 ?_
                refine zv_iconst (pc := 82) (v := 1) C (by decide) dX6_pane_82 ?_
                refine zv_ci0 (pc := 83) (ws' := (fun uz : zMem => (zd_X6_pane cI adM qM1 qM2 qM3 qM4 qM5 qM6 qM7 qM8 qM12 qM13 qM15 qM16 qM17 qM18 qM19 qM20 qM21 uz))) C (zv_runV (As := [.int (0 : Int32), .int (1 : Int32)]) (b := adM) (rest := []) (ci := 5) (q0 := 0) C (zc_X6_right l G cI adM qM1 qM2 qM3 qM4 qM5 qM6 qM7 qM8 qM12 qM13 qM15 qM16 qM17 qM18 qM19 qM20 qM21 (zset M 0 (fun _ => (0 : Int32))) (0 : Int32) (1 : Int32) _ hF) (cwV 2 C.2.2.2.2.1 gX6_pane_X6_right rfl rfl rfl zy_X6_right ⟨Nat.le_of_ble_eq_true rfl, Nat.le_of_ble_eq_true rfl⟩) rfl rfl rfl rfl rfl (Nat.le_of_ble_eq_true rfl) ⟨Nat.zero_le _, Nat.zero_le _⟩ dX6_pane_83) [0, 1, 2, 3, 4, 5, 6, 7, 8, 9, 10, 11, 12, 13, 14, 15, 16, 17] [] rfl rfl rfl rfl rfl (fun _ => rfl) (fun _ => rfl) (fun _ => rfl) (fun v_159 uz hF => ?_)
                obtain ⟨T_158, hE⟩ : ∃ z, z = uz := ⟨_, rfl⟩; subst hE
                refine zv_if_ne (pc := 86) (tgt := 91) C dX6_pane_86 (by decide) (fun c_160 => ?_) (fun c_160 => ?_)
                · replace hF := And.left hF c_160
                  refine zv_aload_n (pc := 91) C rfl 1 rfl dX6_pane_91 ?_
                  refine zv_get (pc := 92) (CC := RX6) (T := TX6) (N := 22) (ci := 5) (v := .int (T_158 14 0)) C zi_X6_pane_X6 0 rfl 14 (by decide) zf_X6_pane_189 rfl rfl dX6_pane_92 ?_
                  refine zv_bipush (pc := 95) (v := 8) C (by decide) dX6_pane_95 ?_
                  refine zv_icmp_ne (pc := 97) (tgt := 102) C dX6_pane_97 (by decide) (fun c_161 => ?_) (fun c_161 => ?_)
                  · replace hF := And.left hF c_161
                    refine zv_aload_n (pc := 102) C rfl 1 rfl dX6_pane_102 ?_
                    refine zv_get (pc := 103) (CC := RX6) (T := TX6) (N := 22) (ci := 5) (v := .ref qM15) C zi_X6_pane_X6 0 rfl 15 (by decide) zf_X6_pane_44 rfl rfl dX6_pane_103 ?_
                    refine zv_aload_n (pc := 106) C rfl 1 rfl dX6_pane_106 ?_
                    refine zv_get (pc := 107) (CC := RX6) (T := TX6) (N := 22) (ci := 5) (v := .int (T_158 14 0)) C zi_X6_pane_X6 0 rfl 14 (by decide) zf_X6_pane_189 rfl rfl dX6_pane_107 ?_
                    refine zv_iload_n (pc := 110) C rfl 2 rfl dX6_pane_110 ?_
                    obtain ⟨h_162, hF⟩ := hF
                    obtain ⟨r_163, er_163⟩ : ∃ y : zRow, y = (upd (T_158 15) (Int32.toNatClampNeg (T_158 14 0)) a1) := ⟨_, rfl⟩
                    replace hF := hF r_163 er_163
                    refine zv_iast (pc := 111) (n := 8) (f := (T_158 15)) (ws' := (zd_X6_pane cI adM qM1 qM2 qM3 qM4 qM5 qM6 qM7 qM8 qM12 qM13 qM15 qM16 qM17 qM18 qM19 qM20 qM21 (zset T_158 15 r_163))) C 11 h_162 rfl (by rw [er_163]; rfl) dX6_pane_111 ?_
                    refine zv_aload_n (pc := 112) C rfl 1 rfl dX6_pane_112 ?_
                    refine zv_get (pc := 113) (CC := RX6) (T := TX6) (N := 22) (ci := 5) (v := .ref qM16) C zi_X6_pane_X6 0 rfl 16 (by decide) zf_X6_pane_47 rfl rfl dX6_pane_113 ?_
                    refine zv_aload_n (pc := 116) C rfl 1 rfl dX6_pane_116 ?_
                    refine zv_get (pc := 117) (CC := RX6) (T := TX6) (N := 22) (ci := 5) (v := .int (T_158 14 0)) C zi_X6_pane_X6 0 rfl 14 (by decide) zf_X6_pane_189 rfl rfl dX6_pane_117 ?_
                    refine zv_iload_n (pc := 120) C rfl 3 rfl dX6_pane_120 ?_
                    obtain ⟨h_164, hF⟩ := hF
                    obtain ⟨r_165, er_165⟩ : ∃ y : zRow, y = (upd (T_158 16) (Int32.toNatClampNeg (T_158 14 0)) a2) := ⟨_, rfl⟩
                    replace hF := hF r_165 er_165
                    refine zv_iast (pc := 121) (n := 8) (f := (T_158 16)) (ws' := (zd_X6_pane cI adM qM1 qM2 qM3 qM4 qM5 qM6 qM7 qM8 qM12 qM13 qM15 qM16 qM17 qM18 qM19 qM20 qM21 (zset (zset T_158 15 r_163) 16 r_165))) C 12 h_164 rfl (by rw [er_165]; rfl) dX6_pane_121 ?_
                    refine zv_aload_n (pc := 122) C rfl 1 rfl dX6_pane_122 ?_
                    refine zv_get (pc := 123) (CC := RX6) (T := TX6) (N := 22) (ci := 5) (v := .ref qM17) C zi_X6_pane_X6 0 rfl 17 (by decide) zf_X6_pane_50 rfl rfl dX6_pane_123 ?_
                    refine zv_aload_n (pc := 126) C rfl 1 rfl dX6_pane_126 ?_
                    refine zv_get (pc := 127) (CC := RX6) (T := TX6) (N := 22) (ci := 5) (v := .int (T_158 14 0)) C zi_X6_pane_X6 0 rfl 14 (by decide) zf_X6_pane_189 rfl rfl dX6_pane_127 ?_
                    refine zv_iload_n (pc := 130) C rfl 4 rfl dX6_pane_130 ?_
                    obtain ⟨h_166, hF⟩ := hF
                    obtain ⟨r_167, er_167⟩ : ∃ y : zRow, y = (upd (T_158 17) (Int32.toNatClampNeg (T_158 14 0)) a3) := ⟨_, rfl⟩
                    replace hF := hF r_167 er_167
                    refine zv_iast (pc := 131) (n := 8) (f := (T_158 17)) (ws' := (zd_X6_pane cI adM qM1 qM2 qM3 qM4 qM5 qM6 qM7 qM8 qM12 qM13 qM15 qM16 qM17 qM18 qM19 qM20 qM21 (zset (zset (zset T_158 15 r_163) 16 r_165) 17 r_167))) C 13 h_166 rfl (by rw [er_167]; rfl) dX6_pane_131 ?_
                    refine zv_aload_n (pc := 132) C rfl 1 rfl dX6_pane_132 ?_
                    refine zv_get (pc := 133) (CC := RX6) (T := TX6) (N := 22) (ci := 5) (v := .ref qM18) C zi_X6_pane_X6 0 rfl 18 (by decide) zf_X6_pane_53 rfl rfl dX6_pane_133 ?_
                    refine zv_aload_n (pc := 136) C rfl 1 rfl dX6_pane_136 ?_
                    refine zv_get (pc := 137) (CC := RX6) (T := TX6) (N := 22) (ci := 5) (v := .int (T_158 14 0)) C zi_X6_pane_X6 0 rfl 14 (by decide) zf_X6_pane_189 rfl rfl dX6_pane_137 ?_
                    refine zv_iload (pc := 140) C 5 rfl dX6_pane_140 ?_
                    obtain ⟨h_168, hF⟩ := hF
                    obtain ⟨r_169, er_169⟩ : ∃ y : zRow, y = (upd (T_158 18) (Int32.toNatClampNeg (T_158 14 0)) a4) := ⟨_, rfl⟩
                    replace hF := hF r_169 er_169
                    refine zv_iast (pc := 142) (n := 8) (f := (T_158 18)) (ws' := (zd_X6_pane cI adM qM1 qM2 qM3 qM4 qM5 qM6 qM7 qM8 qM12 qM13 qM15 qM16 qM17 qM18 qM19 qM20 qM21 (zset (zset (zset (zset T_158 15 r_163) 16 r_165) 17 r_167) 18 r_169))) C 14 h_168 rfl (by rw [er_169]; rfl) dX6_pane_142 ?_
                    refine zv_aload_n (pc := 143) C rfl 1 rfl dX6_pane_143 ?_
                    refine zv_dup (pc := 144) C rfl dX6_pane_144 ?_
                    refine zv_get (pc := 145) (CC := RX6) (T := TX6) (N := 22) (ci := 5) (v := .int (T_158 14 0)) C zi_X6_pane_X6 0 rfl 14 (by decide) zf_X6_pane_189 rfl rfl dX6_pane_145 ?_
                    refine zv_iconst (pc := 148) (v := 1) C (by decide) dX6_pane_148 ?_
                    refine zv_iadd (pc := 149) C  dX6_pane_149 ?_
                    refine zv_topi (fun y_170 ey_170 => ?_)
                    replace hF := hF y_170 ey_170
                    refine zv_put (pc := 150) (CC := RX6) (T := TX6) (N := 22) (ci := 5) (v := .int y_170) (ty := .int) (ws' := (zd_X6_pane cI adM qM1 qM2 qM3 qM4 qM5 qM6 qM7 qM8 qM12 qM13 qM15 qM16 qM17 qM18 qM19 qM20 qM21 (zset (zset (zset (zset (zset T_158 14 (fun _ => y_170)) 15 r_163) 16 r_165) 17 r_167) 18 r_169))) C zi_X6_pane_X6 tyX6 tyX6_ok nmX6 0 rfl 14 (by decide) zf_X6_pane_189 rfl (by decide +kernel) rfl rfl rfl (Nat.le_of_ble_eq_true rfl) rfl dX6_pane_150 ?_
                    refine zv_aload_n (pc := 153) C rfl 1 rfl dX6_pane_153 ?_
                    refine zv_get (pc := 154) (CC := RX6) (T := TX6) (N := 22) (ci := 5) (v := .int y_170) C zi_X6_pane_X6 0 rfl 14 (by decide) zf_X6_pane_189 rfl rfl dX6_pane_154 ?_
                    exact zv_iret (pc := 157) C hr hlk y_170 (zset (zset (zset (zset (zset T_158 14 (fun _ => y_170)) 15 r_163) 16 r_165) 17 r_167) 18 r_169) hF rfl dX6_pane_157
                  · replace hF := And.right hF c_161
                    refine zv_iconst (pc := 100) (v := -1) C (by decide) dX6_pane_100 ?_
                    exact zv_iret (pc := 101) C hr hlk (-1 : Int32) T_158 hF rfl dX6_pane_101
                · replace hF := And.right hF c_160
                  refine zv_iconst (pc := 89) (v := 0) C (by decide) dX6_pane_89 ?_
                  exact zv_iret (pc := 90) C hr hlk (0 : Int32) T_158 hF rfl dX6_pane_90
              · replace hF := And.right hF c_157
                refine zv_iload_n (pc := 62) C rfl 2 rfl dX6_pane_62 ?_
                refine zv_iload (pc := 63) C 5 rfl dX6_pane_63 ?_
                refine zv_imul (pc := 65) C  dX6_pane_65 ?_
                refine zv_iload_n (pc := 66) C rfl 4 rfl dX6_pane_66 ?_
                refine zv_iload_n (pc := 67) C rfl 3 rfl dX6_pane_67 ?_
                refine zv_imul (pc := 68) C  dX6_pane_68 ?_
                refine zv_iadd (pc := 69) C  dX6_pane_69 ?_
                refine zv_iload_n (pc := 70) C rfl 3 rfl dX6_pane_70 ?_
                refine zv_iload (pc := 71) C 5 rfl dX6_pane_71 ?_
                refine zv_imul (pc := 73) C  dX6_pane_73 ?_
                obtain ⟨KJ_173, h0KJ_173, hF⟩ := hF
                refine zv_join (α := Int32) (KK := fun uz => KJ_173 uz) (wsJ := fun uz => (zd_X6_pane cI adM qM1 qM2 qM3 qM4 qM5 qM6 qM7 qM8 qM12 qM13 qM15 qM16 qM17 qM18 qM19 qM20 qM21 (zset M 0 (fun _ => (0 : Int32))))) (pcJ := 82) (lvJ := fun uz => [(0, .ref adM), (1, .int a1), (2, .int a2), (3, .int a3), (4, .int a4)]) (stJ := fun uz => [.int uz, .ref adM]) ?_ (fun hKJ_173 => ?_)
                · rintro v_172 hF
                  replace hF := h0KJ_173 v_172 hF
                  refine zv_iconst (pc := 82) (v := 1) C (by decide) dX6_pane_82 ?_
                  refine zv_ci0 (pc := 83) (ws' := (fun uz : zMem => (zd_X6_pane cI adM qM1 qM2 qM3 qM4 qM5 qM6 qM7 qM8 qM12 qM13 qM15 qM16 qM17 qM18 qM19 qM20 qM21 uz))) C (zv_runV (As := [.int v_172, .int (1 : Int32)]) (b := adM) (rest := []) (ci := 5) (q0 := 0) C (zc_X6_right l G cI adM qM1 qM2 qM3 qM4 qM5 qM6 qM7 qM8 qM12 qM13 qM15 qM16 qM17 qM18 qM19 qM20 qM21 (zset M 0 (fun _ => (0 : Int32))) v_172 (1 : Int32) _ hF) (cwV 2 C.2.2.2.2.1 gX6_pane_X6_right rfl rfl rfl zy_X6_right ⟨Nat.le_of_ble_eq_true rfl, Nat.le_of_ble_eq_true rfl⟩) rfl rfl rfl rfl rfl (Nat.le_of_ble_eq_true rfl) ⟨Nat.zero_le _, Nat.zero_le _⟩ dX6_pane_83) [0, 1, 2, 3, 4, 5, 6, 7, 8, 9, 10, 11, 12, 13, 14, 15, 16, 17] [] rfl rfl rfl rfl rfl (fun _ => rfl) (fun _ => rfl) (fun _ => rfl) (fun v_175 uz hF => ?_)
                  obtain ⟨T_174, hE⟩ : ∃ z, z = uz := ⟨_, rfl⟩; subst hE
                  refine zv_if_ne (pc := 86) (tgt := 91) C dX6_pane_86 (by decide) (fun c_176 => ?_) (fun c_176 => ?_)
                  · replace hF := And.left hF c_176
                    refine zv_aload_n (pc := 91) C rfl 0 rfl dX6_pane_91 ?_
                    refine zv_get (pc := 92) (CC := RX6) (T := TX6) (N := 22) (ci := 5) (v := .int (T_174 14 0)) C zi_X6_pane_X6 0 rfl 14 (by decide) zf_X6_pane_189 rfl rfl dX6_pane_92 ?_
                    refine zv_bipush (pc := 95) (v := 8) C (by decide) dX6_pane_95 ?_
                    refine zv_icmp_ne (pc := 97) (tgt := 102) C dX6_pane_97 (by decide) (fun c_177 => ?_) (fun c_177 => ?_)
                    · replace hF := And.left hF c_177
                      refine zv_aload_n (pc := 102) C rfl 0 rfl dX6_pane_102 ?_
                      refine zv_get (pc := 103) (CC := RX6) (T := TX6) (N := 22) (ci := 5) (v := .ref qM15) C zi_X6_pane_X6 0 rfl 15 (by decide) zf_X6_pane_44 rfl rfl dX6_pane_103 ?_
                      refine zv_aload_n (pc := 106) C rfl 0 rfl dX6_pane_106 ?_
                      refine zv_get (pc := 107) (CC := RX6) (T := TX6) (N := 22) (ci := 5) (v := .int (T_174 14 0)) C zi_X6_pane_X6 0 rfl 14 (by decide) zf_X6_pane_189 rfl rfl dX6_pane_107 ?_
                      refine zv_iload_n (pc := 110) C rfl 1 rfl dX6_pane_110 ?_
                      obtain ⟨h_178, hF⟩ := hF
                      obtain ⟨r_179, er_179⟩ : ∃ y : zRow, y = (upd (T_174 15) (Int32.toNatClampNeg (T_174 14 0)) a1) := ⟨_, rfl⟩
                      replace hF := hF r_179 er_179
                      refine zv_iast (pc := 111) (n := 8) (f := (T_174 15)) (ws' := (zd_X6_pane cI adM qM1 qM2 qM3 qM4 qM5 qM6 qM7 qM8 qM12 qM13 qM15 qM16 qM17 qM18 qM19 qM20 qM21 (zset T_174 15 r_179))) C 11 h_178 rfl (by rw [er_179]; rfl) dX6_pane_111 ?_
                      refine zv_aload_n (pc := 112) C rfl 0 rfl dX6_pane_112 ?_
                      refine zv_get (pc := 113) (CC := RX6) (T := TX6) (N := 22) (ci := 5) (v := .ref qM16) C zi_X6_pane_X6 0 rfl 16 (by decide) zf_X6_pane_47 rfl rfl dX6_pane_113 ?_
                      refine zv_aload_n (pc := 116) C rfl 0 rfl dX6_pane_116 ?_
                      refine zv_get (pc := 117) (CC := RX6) (T := TX6) (N := 22) (ci := 5) (v := .int (T_174 14 0)) C zi_X6_pane_X6 0 rfl 14 (by decide) zf_X6_pane_189 rfl rfl dX6_pane_117 ?_
                      refine zv_iload_n (pc := 120) C rfl 2 rfl dX6_pane_120 ?_
                      obtain ⟨h_180, hF⟩ := hF
                      obtain ⟨r_181, er_181⟩ : ∃ y : zRow, y = (upd (T_174 16) (Int32.toNatClampNeg (T_174 14 0)) a2) := ⟨_, rfl⟩
                      replace hF := hF r_181 er_181
                      refine zv_iast (pc := 121) (n := 8) (f := (T_174 16)) (ws' := (zd_X6_pane cI adM qM1 qM2 qM3 qM4 qM5 qM6 qM7 qM8 qM12 qM13 qM15 qM16 qM17 qM18 qM19 qM20 qM21 (zset (zset T_174 15 r_179) 16 r_181))) C 12 h_180 rfl (by rw [er_181]; rfl) dX6_pane_121 ?_
                      refine zv_aload_n (pc := 122) C rfl 0 rfl dX6_pane_122 ?_
                      refine zv_get (pc := 123) (CC := RX6) (T := TX6) (N := 22) (ci := 5) (v := .ref qM17) C zi_X6_pane_X6 0 rfl 17 (by decide) zf_X6_pane_50 rfl rfl dX6_pane_123 ?_
                      refine zv_aload_n (pc := 126) C rfl 0 rfl dX6_pane_126 ?_
                      refine zv_get (pc := 127) (CC := RX6) (T := TX6) (N := 22) (ci := 5) (v := .int (T_174 14 0)) C zi_X6_pane_X6 0 rfl 14 (by decide) zf_X6_pane_189 rfl rfl dX6_pane_127 ?_
                      refine zv_iload_n (pc := 130) C rfl 3 rfl dX6_pane_130 ?_
                      obtain ⟨h_182, hF⟩ := hF
                      obtain ⟨r_183, er_183⟩ : ∃ y : zRow, y = (upd (T_174 17) (Int32.toNatClampNeg (T_174 14 0)) a3) := ⟨_, rfl⟩
                      replace hF := hF r_183 er_183
                      refine zv_iast (pc := 131) (n := 8) (f := (T_174 17)) (ws' := (zd_X6_pane cI adM qM1 qM2 qM3 qM4 qM5 qM6 qM7 qM8 qM12 qM13 qM15 qM16 qM17 qM18 qM19 qM20 qM21 (zset (zset (zset T_174 15 r_179) 16 r_181) 17 r_183))) C 13 h_182 rfl (by rw [er_183]; rfl) dX6_pane_131 ?_
                      refine zv_aload_n (pc := 132) C rfl 0 rfl dX6_pane_132 ?_
                      refine zv_get (pc := 133) (CC := RX6) (T := TX6) (N := 22) (ci := 5) (v := .ref qM18) C zi_X6_pane_X6 0 rfl 18 (by decide) zf_X6_pane_53 rfl rfl dX6_pane_133 ?_
                      refine zv_aload_n (pc := 136) C rfl 0 rfl dX6_pane_136 ?_
                      refine zv_get (pc := 137) (CC := RX6) (T := TX6) (N := 22) (ci := 5) (v := .int (T_174 14 0)) C zi_X6_pane_X6 0 rfl 14 (by decide) zf_X6_pane_189 rfl rfl dX6_pane_137 ?_
                      refine zv_iload (pc := 140) C 4 rfl dX6_pane_140 ?_
                      obtain ⟨h_184, hF⟩ := hF
                      obtain ⟨r_185, er_185⟩ : ∃ y : zRow, y = (upd (T_174 18) (Int32.toNatClampNeg (T_174 14 0)) a4) := ⟨_, rfl⟩
                      replace hF := hF r_185 er_185
                      refine zv_iast (pc := 142) (n := 8) (f := (T_174 18)) (ws' := (zd_X6_pane cI adM qM1 qM2 qM3 qM4 qM5 qM6 qM7 qM8 qM12 qM13 qM15 qM16 qM17 qM18 qM19 qM20 qM21 (zset (zset (zset (zset T_174 15 r_179) 16 r_181) 17 r_183) 18 r_185))) C 14 h_184 rfl (by rw [er_185]; rfl) dX6_pane_142 ?_
                      refine zv_aload_n (pc := 143) C rfl 0 rfl dX6_pane_143 ?_
                      refine zv_dup (pc := 144) C rfl dX6_pane_144 ?_
                      refine zv_get (pc := 145) (CC := RX6) (T := TX6) (N := 22) (ci := 5) (v := .int (T_174 14 0)) C zi_X6_pane_X6 0 rfl 14 (by decide) zf_X6_pane_189 rfl rfl dX6_pane_145 ?_
                      refine zv_iconst (pc := 148) (v := 1) C (by decide) dX6_pane_148 ?_
                      refine zv_iadd (pc := 149) C  dX6_pane_149 ?_
                      refine zv_topi (fun y_186 ey_186 => ?_)
                      replace hF := hF y_186 ey_186
                      refine zv_put (pc := 150) (CC := RX6) (T := TX6) (N := 22) (ci := 5) (v := .int y_186) (ty := .int) (ws' := (zd_X6_pane cI adM qM1 qM2 qM3 qM4 qM5 qM6 qM7 qM8 qM12 qM13 qM15 qM16 qM17 qM18 qM19 qM20 qM21 (zset (zset (zset (zset (zset T_174 14 (fun _ => y_186)) 15 r_179) 16 r_181) 17 r_183) 18 r_185))) C zi_X6_pane_X6 tyX6 tyX6_ok nmX6 0 rfl 14 (by decide) zf_X6_pane_189 rfl (by decide +kernel) rfl rfl rfl (Nat.le_of_ble_eq_true rfl) rfl dX6_pane_150 ?_
                      refine zv_aload_n (pc := 153) C rfl 0 rfl dX6_pane_153 ?_
                      refine zv_get (pc := 154) (CC := RX6) (T := TX6) (N := 22) (ci := 5) (v := .int y_186) C zi_X6_pane_X6 0 rfl 14 (by decide) zf_X6_pane_189 rfl rfl dX6_pane_154 ?_
                      exact zv_iret (pc := 157) C hr hlk y_186 (zset (zset (zset (zset (zset T_174 14 (fun _ => y_186)) 15 r_179) 16 r_181) 17 r_183) 18 r_185) hF rfl dX6_pane_157
                    · replace hF := And.right hF c_177
                      refine zv_iconst (pc := 100) (v := -1) C (by decide) dX6_pane_100 ?_
                      exact zv_iret (pc := 101) C hr hlk (-1 : Int32) T_174 hF rfl dX6_pane_101
                  · replace hF := And.right hF c_176
                    refine zv_iconst (pc := 89) (v := 0) C (by decide) dX6_pane_89 ?_
                    exact zv_iret (pc := 90) C hr hlk (0 : Int32) T_174 hF rfl dX6_pane_90
                · skip
                  refine zv_icmp_gt (pc := 74) (tgt := 81) C dX6_pane_74 (by decide) (fun c_171 => ?_) (fun c_171 => ?_)
                  · replace hF := And.left hF c_171
                    refine zv_iconst (pc := 81) (v := 0) C (by decide) dX6_pane_81 ?_
                    exact zv_lvs [1, 2, 3, 4, 5] rfl (hKJ_173 (0 : Int32) hF)
                  · replace hF := And.right hF c_171
                    refine zv_iconst (pc := 77) (v := 1) C (by decide) dX6_pane_77 ?_
                    refine zv_goto (pc := 78) (tgt := 82) C dX6_pane_78 (by decide) ?_
                    exact zv_lvs [1, 2, 3, 4, 5] rfl (hKJ_173 (1 : Int32) hF)
            · replace hF := And.right hF c_156
              refine zv_iload (pc := 36) C 4 rfl dX6_pane_36 ?_
              refine zv_iconst (pc := 38) (v := 1) C (by decide) dX6_pane_38 ?_
              refine zv_icmp_lt (pc := 39) (tgt := 53) C dX6_pane_39 (by decide) (fun c_187 => ?_) (fun c_187 => ?_)
              · replace hF := And.left hF c_187
                refine zv_iconst (pc := 53) (v := 0) C (by decide) dX6_pane_53 ?_
                refine zv_istore (pc := 54) (lv' := [(5, .int (0 : Int32)), (0, .ref adM), (1, .int a1), (2, .int a2), (3, .int a3), (4, .int a4)]) C (by decide) rfl dX6_pane_54 ?_
                refine zv_aload_n (pc := 56) C rfl 1 rfl dX6_pane_56 ?_
                refine zv_iload (pc := 57) C 0 rfl dX6_pane_57 ?_
                refine zv_if_eq (pc := 59) (tgt := 81) C dX6_pane_59 (by decide) (fun c_188 => ?_) (fun c_188 => ?_)
                · replace hF := And.left hF c_188
                  refine zv_iconst (pc := 81) (v := 0) C (by decide) dX6_pane_81 ?_
                  refine zv_iconst (pc := 82) (v := 1) C (by decide) dX6_pane_82 ?_
                  refine zv_ci0 (pc := 83) (ws' := (fun uz : zMem => (zd_X6_pane cI adM qM1 qM2 qM3 qM4 qM5 qM6 qM7 qM8 qM12 qM13 qM15 qM16 qM17 qM18 qM19 qM20 qM21 uz))) C (zv_runV (As := [.int (0 : Int32), .int (1 : Int32)]) (b := adM) (rest := []) (ci := 5) (q0 := 0) C (zc_X6_right l G cI adM qM1 qM2 qM3 qM4 qM5 qM6 qM7 qM8 qM12 qM13 qM15 qM16 qM17 qM18 qM19 qM20 qM21 (zset M 0 (fun _ => (0 : Int32))) (0 : Int32) (1 : Int32) _ hF) (cwV 2 C.2.2.2.2.1 gX6_pane_X6_right rfl rfl rfl zy_X6_right ⟨Nat.le_of_ble_eq_true rfl, Nat.le_of_ble_eq_true rfl⟩) rfl rfl rfl rfl rfl (Nat.le_of_ble_eq_true rfl) ⟨Nat.zero_le _, Nat.zero_le _⟩ dX6_pane_83) [0, 1, 2, 3, 4, 5, 6, 7, 8, 9, 10, 11, 12, 13, 14, 15, 16, 17] [] rfl rfl rfl rfl rfl (fun _ => rfl) (fun _ => rfl) (fun _ => rfl) (fun v_190 uz hF => ?_)
                  obtain ⟨T_189, hE⟩ : ∃ z, z = uz := ⟨_, rfl⟩; subst hE
                  refine zv_if_ne (pc := 86) (tgt := 91) C dX6_pane_86 (by decide) (fun c_191 => ?_) (fun c_191 => ?_)
                  · replace hF := And.left hF c_191
                    refine zv_aload_n (pc := 91) C rfl 1 rfl dX6_pane_91 ?_
                    refine zv_get (pc := 92) (CC := RX6) (T := TX6) (N := 22) (ci := 5) (v := .int (T_189 14 0)) C zi_X6_pane_X6 0 rfl 14 (by decide) zf_X6_pane_189 rfl rfl dX6_pane_92 ?_
                    refine zv_bipush (pc := 95) (v := 8) C (by decide) dX6_pane_95 ?_
                    refine zv_icmp_ne (pc := 97) (tgt := 102) C dX6_pane_97 (by decide) (fun c_192 => ?_) (fun c_192 => ?_)
                    · replace hF := And.left hF c_192
                      refine zv_aload_n (pc := 102) C rfl 1 rfl dX6_pane_102 ?_
                      refine zv_get (pc := 103) (CC := RX6) (T := TX6) (N := 22) (ci := 5) (v := .ref qM15) C zi_X6_pane_X6 0 rfl 15 (by decide) zf_X6_pane_44 rfl rfl dX6_pane_103 ?_
                      refine zv_aload_n (pc := 106) C rfl 1 rfl dX6_pane_106 ?_
                      refine zv_get (pc := 107) (CC := RX6) (T := TX6) (N := 22) (ci := 5) (v := .int (T_189 14 0)) C zi_X6_pane_X6 0 rfl 14 (by decide) zf_X6_pane_189 rfl rfl dX6_pane_107 ?_
                      refine zv_iload_n (pc := 110) C rfl 2 rfl dX6_pane_110 ?_
                      obtain ⟨h_193, hF⟩ := hF
                      obtain ⟨r_194, er_194⟩ : ∃ y : zRow, y = (upd (T_189 15) (Int32.toNatClampNeg (T_189 14 0)) a1) := ⟨_, rfl⟩
                      replace hF := hF r_194 er_194
                      refine zv_iast (pc := 111) (n := 8) (f := (T_189 15)) (ws' := (zd_X6_pane cI adM qM1 qM2 qM3 qM4 qM5 qM6 qM7 qM8 qM12 qM13 qM15 qM16 qM17 qM18 qM19 qM20 qM21 (zset T_189 15 r_194))) C 11 h_193 rfl (by rw [er_194]; rfl) dX6_pane_111 ?_
                      refine zv_aload_n (pc := 112) C rfl 1 rfl dX6_pane_112 ?_
                      refine zv_get (pc := 113) (CC := RX6) (T := TX6) (N := 22) (ci := 5) (v := .ref qM16) C zi_X6_pane_X6 0 rfl 16 (by decide) zf_X6_pane_47 rfl rfl dX6_pane_113 ?_
                      refine zv_aload_n (pc := 116) C rfl 1 rfl dX6_pane_116 ?_
                      refine zv_get (pc := 117) (CC := RX6) (T := TX6) (N := 22) (ci := 5) (v := .int (T_189 14 0)) C zi_X6_pane_X6 0 rfl 14 (by decide) zf_X6_pane_189 rfl rfl dX6_pane_117 ?_
                      refine zv_iload_n (pc := 120) C rfl 3 rfl dX6_pane_120 ?_
                      obtain ⟨h_195, hF⟩ := hF
                      obtain ⟨r_196, er_196⟩ : ∃ y : zRow, y = (upd (T_189 16) (Int32.toNatClampNeg (T_189 14 0)) a2) := ⟨_, rfl⟩
                      replace hF := hF r_196 er_196
                      refine zv_iast (pc := 121) (n := 8) (f := (T_189 16)) (ws' := (zd_X6_pane cI adM qM1 qM2 qM3 qM4 qM5 qM6 qM7 qM8 qM12 qM13 qM15 qM16 qM17 qM18 qM19 qM20 qM21 (zset (zset T_189 15 r_194) 16 r_196))) C 12 h_195 rfl (by rw [er_196]; rfl) dX6_pane_121 ?_
                      refine zv_aload_n (pc := 122) C rfl 1 rfl dX6_pane_122 ?_
                      refine zv_get (pc := 123) (CC := RX6) (T := TX6) (N := 22) (ci := 5) (v := .ref qM17) C zi_X6_pane_X6 0 rfl 17 (by decide) zf_X6_pane_50 rfl rfl dX6_pane_123 ?_
                      refine zv_aload_n (pc := 126) C rfl 1 rfl dX6_pane_126 ?_
                      refine zv_get (pc := 127) (CC := RX6) (T := TX6) (N := 22) (ci := 5) (v := .int (T_189 14 0)) C zi_X6_pane_X6 0 rfl 14 (by decide) zf_X6_pane_189 rfl rfl dX6_pane_127 ?_
                      refine zv_iload_n (pc := 130) C rfl 4 rfl dX6_pane_130 ?_
                      obtain ⟨h_197, hF⟩ := hF
                      obtain ⟨r_198, er_198⟩ : ∃ y : zRow, y = (upd (T_189 17) (Int32.toNatClampNeg (T_189 14 0)) a3) := ⟨_, rfl⟩
                      replace hF := hF r_198 er_198
                      refine zv_iast (pc := 131) (n := 8) (f := (T_189 17)) (ws' := (zd_X6_pane cI adM qM1 qM2 qM3 qM4 qM5 qM6 qM7 qM8 qM12 qM13 qM15 qM16 qM17 qM18 qM19 qM20 qM21 (zset (zset (zset T_189 15 r_194) 16 r_196) 17 r_198))) C 13 h_197 rfl (by rw [er_198]; rfl) dX6_pane_131 ?_
                      refine zv_aload_n (pc := 132) C rfl 1 rfl dX6_pane_132 ?_
                      refine zv_get (pc := 133) (CC := RX6) (T := TX6) (N := 22) (ci := 5) (v := .ref qM18) C zi_X6_pane_X6 0 rfl 18 (by decide) zf_X6_pane_53 rfl rfl dX6_pane_133 ?_
                      refine zv_aload_n (pc := 136) C rfl 1 rfl dX6_pane_136 ?_
                      refine zv_get (pc := 137) (CC := RX6) (T := TX6) (N := 22) (ci := 5) (v := .int (T_189 14 0)) C zi_X6_pane_X6 0 rfl 14 (by decide) zf_X6_pane_189 rfl rfl dX6_pane_137 ?_
                      refine zv_iload (pc := 140) C 5 rfl dX6_pane_140 ?_
                      obtain ⟨h_199, hF⟩ := hF
                      obtain ⟨r_200, er_200⟩ : ∃ y : zRow, y = (upd (T_189 18) (Int32.toNatClampNeg (T_189 14 0)) a4) := ⟨_, rfl⟩
                      replace hF := hF r_200 er_200
                      refine zv_iast (pc := 142) (n := 8) (f := (T_189 18)) (ws' := (zd_X6_pane cI adM qM1 qM2 qM3 qM4 qM5 qM6 qM7 qM8 qM12 qM13 qM15 qM16 qM17 qM18 qM19 qM20 qM21 (zset (zset (zset (zset T_189 15 r_194) 16 r_196) 17 r_198) 18 r_200))) C 14 h_199 rfl (by rw [er_200]; rfl) dX6_pane_142 ?_
                      refine zv_aload_n (pc := 143) C rfl 1 rfl dX6_pane_143 ?_
                      refine zv_dup (pc := 144) C rfl dX6_pane_144 ?_
                      refine zv_get (pc := 145) (CC := RX6) (T := TX6) (N := 22) (ci := 5) (v := .int (T_189 14 0)) C zi_X6_pane_X6 0 rfl 14 (by decide) zf_X6_pane_189 rfl rfl dX6_pane_145 ?_
                      refine zv_iconst (pc := 148) (v := 1) C (by decide) dX6_pane_148 ?_
                      refine zv_iadd (pc := 149) C  dX6_pane_149 ?_
                      refine zv_topi (fun y_201 ey_201 => ?_)
                      replace hF := hF y_201 ey_201
                      refine zv_put (pc := 150) (CC := RX6) (T := TX6) (N := 22) (ci := 5) (v := .int y_201) (ty := .int) (ws' := (zd_X6_pane cI adM qM1 qM2 qM3 qM4 qM5 qM6 qM7 qM8 qM12 qM13 qM15 qM16 qM17 qM18 qM19 qM20 qM21 (zset (zset (zset (zset (zset T_189 14 (fun _ => y_201)) 15 r_194) 16 r_196) 17 r_198) 18 r_200))) C zi_X6_pane_X6 tyX6 tyX6_ok nmX6 0 rfl 14 (by decide) zf_X6_pane_189 rfl (by decide +kernel) rfl rfl rfl (Nat.le_of_ble_eq_true rfl) rfl dX6_pane_150 ?_
                      refine zv_aload_n (pc := 153) C rfl 1 rfl dX6_pane_153 ?_
                      refine zv_get (pc := 154) (CC := RX6) (T := TX6) (N := 22) (ci := 5) (v := .int y_201) C zi_X6_pane_X6 0 rfl 14 (by decide) zf_X6_pane_189 rfl rfl dX6_pane_154 ?_
                      exact zv_iret (pc := 157) C hr hlk y_201 (zset (zset (zset (zset (zset T_189 14 (fun _ => y_201)) 15 r_194) 16 r_196) 17 r_198) 18 r_200) hF rfl dX6_pane_157
                    · replace hF := And.right hF c_192
                      refine zv_iconst (pc := 100) (v := -1) C (by decide) dX6_pane_100 ?_
                      exact zv_iret (pc := 101) C hr hlk (-1 : Int32) T_189 hF rfl dX6_pane_101
                  · replace hF := And.right hF c_191
                    refine zv_iconst (pc := 89) (v := 0) C (by decide) dX6_pane_89 ?_
                    exact zv_iret (pc := 90) C hr hlk (0 : Int32) T_189 hF rfl dX6_pane_90
                · replace hF := And.right hF c_188
                  refine zv_iload_n (pc := 62) C rfl 2 rfl dX6_pane_62 ?_
                  refine zv_iload (pc := 63) C 5 rfl dX6_pane_63 ?_
                  refine zv_imul (pc := 65) C  dX6_pane_65 ?_
                  refine zv_iload_n (pc := 66) C rfl 4 rfl dX6_pane_66 ?_
                  refine zv_iload_n (pc := 67) C rfl 3 rfl dX6_pane_67 ?_
                  refine zv_imul (pc := 68) C  dX6_pane_68 ?_
                  refine zv_iadd (pc := 69) C  dX6_pane_69 ?_
                  refine zv_iload_n (pc := 70) C rfl 3 rfl dX6_pane_70 ?_
                  refine zv_iload (pc := 71) C 5 rfl dX6_pane_71 ?_
                  refine zv_imul (pc := 73) C  dX6_pane_73 ?_
                  obtain ⟨KJ_204, h0KJ_204, hF⟩ := hF
                  refine zv_join (α := Int32) (KK := fun uz => KJ_204 uz) (wsJ := fun uz => (zd_X6_pane cI adM qM1 qM2 qM3 qM4 qM5 qM6 qM7 qM8 qM12 qM13 qM15 qM16 qM17 qM18 qM19 qM20 qM21 (zset M 0 (fun _ => (0 : Int32))))) (pcJ := 82) (lvJ := fun uz => [(0, .ref adM), (1, .int a1), (2, .int a2), (3, .int a3), (4, .int a4)]) (stJ := fun uz => [.int uz, .ref adM]) ?_ (fun hKJ_204 => ?_)
                  · rintro v_203 hF
                    replace hF := h0KJ_204 v_203 hF
                    refine zv_iconst (pc := 82) (v := 1) C (by decide) dX6_pane_82 ?_
                    refine zv_ci0 (pc := 83) (ws' := (fun uz : zMem => (zd_X6_pane cI adM qM1 qM2 qM3 qM4 qM5 qM6 qM7 qM8 qM12 qM13 qM15 qM16 qM17 qM18 qM19 qM20 qM21 uz))) C (zv_runV (As := [.int v_203, .int (1 : Int32)]) (b := adM) (rest := []) (ci := 5) (q0 := 0) C (zc_X6_right l G cI adM qM1 qM2 qM3 qM4 qM5 qM6 qM7 qM8 qM12 qM13 qM15 qM16 qM17 qM18 qM19 qM20 qM21 (zset M 0 (fun _ => (0 : Int32))) v_203 (1 : Int32) _ hF) (cwV 2 C.2.2.2.2.1 gX6_pane_X6_right rfl rfl rfl zy_X6_right ⟨Nat.le_of_ble_eq_true rfl, Nat.le_of_ble_eq_true rfl⟩) rfl rfl rfl rfl rfl (Nat.le_of_ble_eq_true rfl) ⟨Nat.zero_le _, Nat.zero_le _⟩ dX6_pane_83) [0, 1, 2, 3, 4, 5, 6, 7, 8, 9, 10, 11, 12, 13, 14, 15, 16, 17] [] rfl rfl rfl rfl rfl (fun _ => rfl) (fun _ => rfl) (fun _ => rfl) (fun v_206 uz hF => ?_)
                    obtain ⟨T_205, hE⟩ : ∃ z, z = uz := ⟨_, rfl⟩; subst hE
                    refine zv_if_ne (pc := 86) (tgt := 91) C dX6_pane_86 (by decide) (fun c_207 => ?_) (fun c_207 => ?_)
                    · replace hF := And.left hF c_207
                      refine zv_aload_n (pc := 91) C rfl 0 rfl dX6_pane_91 ?_
                      refine zv_get (pc := 92) (CC := RX6) (T := TX6) (N := 22) (ci := 5) (v := .int (T_205 14 0)) C zi_X6_pane_X6 0 rfl 14 (by decide) zf_X6_pane_189 rfl rfl dX6_pane_92 ?_
                      refine zv_bipush (pc := 95) (v := 8) C (by decide) dX6_pane_95 ?_
                      refine zv_icmp_ne (pc := 97) (tgt := 102) C dX6_pane_97 (by decide) (fun c_208 => ?_) (fun c_208 => ?_)
                      · replace hF := And.left hF c_208
                        refine zv_aload_n (pc := 102) C rfl 0 rfl dX6_pane_102 ?_
                        refine zv_get (pc := 103) (CC := RX6) (T := TX6) (N := 22) (ci := 5) (v := .ref qM15) C zi_X6_pane_X6 0 rfl 15 (by decide) zf_X6_pane_44 rfl rfl dX6_pane_103 ?_
                        refine zv_aload_n (pc := 106) C rfl 0 rfl dX6_pane_106 ?_
                        refine zv_get (pc := 107) (CC := RX6) (T := TX6) (N := 22) (ci := 5) (v := .int (T_205 14 0)) C zi_X6_pane_X6 0 rfl 14 (by decide) zf_X6_pane_189 rfl rfl dX6_pane_107 ?_
                        refine zv_iload_n (pc := 110) C rfl 1 rfl dX6_pane_110 ?_
                        obtain ⟨h_209, hF⟩ := hF
                        obtain ⟨r_210, er_210⟩ : ∃ y : zRow, y = (upd (T_205 15) (Int32.toNatClampNeg (T_205 14 0)) a1) := ⟨_, rfl⟩
                        replace hF := hF r_210 er_210
                        refine zv_iast (pc := 111) (n := 8) (f := (T_205 15)) (ws' := (zd_X6_pane cI adM qM1 qM2 qM3 qM4 qM5 qM6 qM7 qM8 qM12 qM13 qM15 qM16 qM17 qM18 qM19 qM20 qM21 (zset T_205 15 r_210))) C 11 h_209 rfl (by rw [er_210]; rfl) dX6_pane_111 ?_
                        refine zv_aload_n (pc := 112) C rfl 0 rfl dX6_pane_112 ?_
                        refine zv_get (pc := 113) (CC := RX6) (T := TX6) (N := 22) (ci := 5) (v := .ref qM16) C zi_X6_pane_X6 0 rfl 16 (by decide) zf_X6_pane_47 rfl rfl dX6_pane_113 ?_
                        refine zv_aload_n (pc := 116) C rfl 0 rfl dX6_pane_116 ?_
                        refine zv_get (pc := 117) (CC := RX6) (T := TX6) (N := 22) (ci := 5) (v := .int (T_205 14 0)) C zi_X6_pane_X6 0 rfl 14 (by decide) zf_X6_pane_189 rfl rfl dX6_pane_117 ?_
                        refine zv_iload_n (pc := 120) C rfl 2 rfl dX6_pane_120 ?_
                        obtain ⟨h_211, hF⟩ := hF
                        obtain ⟨r_212, er_212⟩ : ∃ y : zRow, y = (upd (T_205 16) (Int32.toNatClampNeg (T_205 14 0)) a2) := ⟨_, rfl⟩
                        replace hF := hF r_212 er_212
                        refine zv_iast (pc := 121) (n := 8) (f := (T_205 16)) (ws' := (zd_X6_pane cI adM qM1 qM2 qM3 qM4 qM5 qM6 qM7 qM8 qM12 qM13 qM15 qM16 qM17 qM18 qM19 qM20 qM21 (zset (zset T_205 15 r_210) 16 r_212))) C 12 h_211 rfl (by rw [er_212]; rfl) dX6_pane_121 ?_
                        refine zv_aload_n (pc := 122) C rfl 0 rfl dX6_pane_122 ?_
                        refine zv_get (pc := 123) (CC := RX6) (T := TX6) (N := 22) (ci := 5) (v := .ref qM17) C zi_X6_pane_X6 0 rfl 17 (by decide) zf_X6_pane_50 rfl rfl dX6_pane_123 ?_
                        refine zv_aload_n (pc := 126) C rfl 0 rfl dX6_pane_126 ?_
                        refine zv_get (pc := 127) (CC := RX6) (T := TX6) (N := 22) (ci := 5) (v := .int (T_205 14 0)) C zi_X6_pane_X6 0 rfl 14 (by decide) zf_X6_pane_189 rfl rfl dX6_pane_127 ?_
                        refine zv_iload_n (pc := 130) C rfl 3 rfl dX6_pane_130 ?_
                        obtain ⟨h_213, hF⟩ := hF
                        obtain ⟨r_214, er_214⟩ : ∃ y : zRow, y = (upd (T_205 17) (Int32.toNatClampNeg (T_205 14 0)) a3) := ⟨_, rfl⟩
                        replace hF := hF r_214 er_214
                        refine zv_iast (pc := 131) (n := 8) (f := (T_205 17)) (ws' := (zd_X6_pane cI adM qM1 qM2 qM3 qM4 qM5 qM6 qM7 qM8 qM12 qM13 qM15 qM16 qM17 qM18 qM19 qM20 qM21 (zset (zset (zset T_205 15 r_210) 16 r_212) 17 r_214))) C 13 h_213 rfl (by rw [er_214]; rfl) dX6_pane_131 ?_
                        refine zv_aload_n (pc := 132) C rfl 0 rfl dX6_pane_132 ?_
                        refine zv_get (pc := 133) (CC := RX6) (T := TX6) (N := 22) (ci := 5) (v := .ref qM18) C zi_X6_pane_X6 0 rfl 18 (by decide) zf_X6_pane_53 rfl rfl dX6_pane_133 ?_
                        refine zv_aload_n (pc := 136) C rfl 0 rfl dX6_pane_136 ?_
                        refine zv_get (pc := 137) (CC := RX6) (T := TX6) (N := 22) (ci := 5) (v := .int (T_205 14 0)) C zi_X6_pane_X6 0 rfl 14 (by decide) zf_X6_pane_189 rfl rfl dX6_pane_137 ?_
                        refine zv_iload (pc := 140) C 4 rfl dX6_pane_140 ?_
                        obtain ⟨h_215, hF⟩ := hF
                        obtain ⟨r_216, er_216⟩ : ∃ y : zRow, y = (upd (T_205 18) (Int32.toNatClampNeg (T_205 14 0)) a4) := ⟨_, rfl⟩
                        replace hF := hF r_216 er_216
                        refine zv_iast (pc := 142) (n := 8) (f := (T_205 18)) (ws' := (zd_X6_pane cI adM qM1 qM2 qM3 qM4 qM5 qM6 qM7 qM8 qM12 qM13 qM15 qM16 qM17 qM18 qM19 qM20 qM21 (zset (zset (zset (zset T_205 15 r_210) 16 r_212) 17 r_214) 18 r_216))) C 14 h_215 rfl (by rw [er_216]; rfl) dX6_pane_142 ?_
                        refine zv_aload_n (pc := 143) C rfl 0 rfl dX6_pane_143 ?_
                        refine zv_dup (pc := 144) C rfl dX6_pane_144 ?_
                        refine zv_get (pc := 145) (CC := RX6) (T := TX6) (N := 22) (ci := 5) (v := .int (T_205 14 0)) C zi_X6_pane_X6 0 rfl 14 (by decide) zf_X6_pane_189 rfl rfl dX6_pane_145 ?_
                        refine zv_iconst (pc := 148) (v := 1) C (by decide) dX6_pane_148 ?_
                        refine zv_iadd (pc := 149) C  dX6_pane_149 ?_
                        refine zv_topi (fun y_217 ey_217 => ?_)
                        replace hF := hF y_217 ey_217
                        refine zv_put (pc := 150) (CC := RX6) (T := TX6) (N := 22) (ci := 5) (v := .int y_217) (ty := .int) (ws' := (zd_X6_pane cI adM qM1 qM2 qM3 qM4 qM5 qM6 qM7 qM8 qM12 qM13 qM15 qM16 qM17 qM18 qM19 qM20 qM21 (zset (zset (zset (zset (zset T_205 14 (fun _ => y_217)) 15 r_210) 16 r_212) 17 r_214) 18 r_216))) C zi_X6_pane_X6 tyX6 tyX6_ok nmX6 0 rfl 14 (by decide) zf_X6_pane_189 rfl (by decide +kernel) rfl rfl rfl (Nat.le_of_ble_eq_true rfl) rfl dX6_pane_150 ?_
                        refine zv_aload_n (pc := 153) C rfl 0 rfl dX6_pane_153 ?_
                        refine zv_get (pc := 154) (CC := RX6) (T := TX6) (N := 22) (ci := 5) (v := .int y_217) C zi_X6_pane_X6 0 rfl 14 (by decide) zf_X6_pane_189 rfl rfl dX6_pane_154 ?_
                        exact zv_iret (pc := 157) C hr hlk y_217 (zset (zset (zset (zset (zset T_205 14 (fun _ => y_217)) 15 r_210) 16 r_212) 17 r_214) 18 r_216) hF rfl dX6_pane_157
                      · replace hF := And.right hF c_208
                        refine zv_iconst (pc := 100) (v := -1) C (by decide) dX6_pane_100 ?_
                        exact zv_iret (pc := 101) C hr hlk (-1 : Int32) T_205 hF rfl dX6_pane_101
                    · replace hF := And.right hF c_207
                      refine zv_iconst (pc := 89) (v := 0) C (by decide) dX6_pane_89 ?_
                      exact zv_iret (pc := 90) C hr hlk (0 : Int32) T_205 hF rfl dX6_pane_90
                  · skip
                    refine zv_icmp_gt (pc := 74) (tgt := 81) C dX6_pane_74 (by decide) (fun c_202 => ?_) (fun c_202 => ?_)
                    · replace hF := And.left hF c_202
                      refine zv_iconst (pc := 81) (v := 0) C (by decide) dX6_pane_81 ?_
                      exact zv_lvs [1, 2, 3, 4, 5] rfl (hKJ_204 (0 : Int32) hF)
                    · replace hF := And.right hF c_202
                      refine zv_iconst (pc := 77) (v := 1) C (by decide) dX6_pane_77 ?_
                      refine zv_goto (pc := 78) (tgt := 82) C dX6_pane_78 (by decide) ?_
                      exact zv_lvs [1, 2, 3, 4, 5] rfl (hKJ_204 (1 : Int32) hF)
              · replace hF := And.right hF c_187
                refine zv_iload (pc := 42) C 4 rfl dX6_pane_42 ?_
                refine zv_bipush (pc := 44) (v := 100) C (by decide) dX6_pane_44 ?_
                obtain ⟨KJ_220, h0KJ_220, hF⟩ := hF
                refine zv_join (α := Int32) (KK := fun uz => KJ_220 uz) (wsJ := fun uz => (zd_X6_pane cI adM qM1 qM2 qM3 qM4 qM5 qM6 qM7 qM8 qM12 qM13 qM15 qM16 qM17 qM18 qM19 qM20 qM21 (zset M 0 (fun _ => (0 : Int32))))) (pcJ := 54) (lvJ := fun uz => [(0, .ref adM), (1, .int a1), (2, .int a2), (3, .int a3), (4, .int a4)]) (stJ := fun uz => [.int uz]) ?_ (fun hKJ_220 => ?_)
                · rintro v_219 hF
                  replace hF := h0KJ_220 v_219 hF
                  refine zv_istore (pc := 54) (lv' := [(5, .int v_219), (0, .ref adM), (1, .int a1), (2, .int a2), (3, .int a3), (4, .int a4)]) C (by decide) rfl dX6_pane_54 ?_
                  refine zv_aload_n (pc := 56) C rfl 1 rfl dX6_pane_56 ?_
                  refine zv_iload (pc := 57) C 0 rfl dX6_pane_57 ?_
                  refine zv_if_eq (pc := 59) (tgt := 81) C dX6_pane_59 (by decide) (fun c_221 => ?_) (fun c_221 => ?_)
                  · replace hF := And.left hF c_221
                    refine zv_iconst (pc := 81) (v := 0) C (by decide) dX6_pane_81 ?_
                    refine zv_iconst (pc := 82) (v := 1) C (by decide) dX6_pane_82 ?_
                    refine zv_ci0 (pc := 83) (ws' := (fun uz : zMem => (zd_X6_pane cI adM qM1 qM2 qM3 qM4 qM5 qM6 qM7 qM8 qM12 qM13 qM15 qM16 qM17 qM18 qM19 qM20 qM21 uz))) C (zv_runV (As := [.int (0 : Int32), .int (1 : Int32)]) (b := adM) (rest := []) (ci := 5) (q0 := 0) C (zc_X6_right l G cI adM qM1 qM2 qM3 qM4 qM5 qM6 qM7 qM8 qM12 qM13 qM15 qM16 qM17 qM18 qM19 qM20 qM21 (zset M 0 (fun _ => (0 : Int32))) (0 : Int32) (1 : Int32) _ hF) (cwV 2 C.2.2.2.2.1 gX6_pane_X6_right rfl rfl rfl zy_X6_right ⟨Nat.le_of_ble_eq_true rfl, Nat.le_of_ble_eq_true rfl⟩) rfl rfl rfl rfl rfl (Nat.le_of_ble_eq_true rfl) ⟨Nat.zero_le _, Nat.zero_le _⟩ dX6_pane_83) [0, 1, 2, 3, 4, 5, 6, 7, 8, 9, 10, 11, 12, 13, 14, 15, 16, 17] [] rfl rfl rfl rfl rfl (fun _ => rfl) (fun _ => rfl) (fun _ => rfl) (fun v_223 uz hF => ?_)
                    obtain ⟨T_222, hE⟩ : ∃ z, z = uz := ⟨_, rfl⟩; subst hE
                    refine zv_if_ne (pc := 86) (tgt := 91) C dX6_pane_86 (by decide) (fun c_224 => ?_) (fun c_224 => ?_)
                    · replace hF := And.left hF c_224
                      refine zv_aload_n (pc := 91) C rfl 1 rfl dX6_pane_91 ?_
                      refine zv_get (pc := 92) (CC := RX6) (T := TX6) (N := 22) (ci := 5) (v := .int (T_222 14 0)) C zi_X6_pane_X6 0 rfl 14 (by decide) zf_X6_pane_189 rfl rfl dX6_pane_92 ?_
                      refine zv_bipush (pc := 95) (v := 8) C (by decide) dX6_pane_95 ?_
                      refine zv_icmp_ne (pc := 97) (tgt := 102) C dX6_pane_97 (by decide) (fun c_225 => ?_) (fun c_225 => ?_)
                      · replace hF := And.left hF c_225
                        refine zv_aload_n (pc := 102) C rfl 1 rfl dX6_pane_102 ?_
                        refine zv_get (pc := 103) (CC := RX6) (T := TX6) (N := 22) (ci := 5) (v := .ref qM15) C zi_X6_pane_X6 0 rfl 15 (by decide) zf_X6_pane_44 rfl rfl dX6_pane_103 ?_
                        refine zv_aload_n (pc := 106) C rfl 1 rfl dX6_pane_106 ?_
                        refine zv_get (pc := 107) (CC := RX6) (T := TX6) (N := 22) (ci := 5) (v := .int (T_222 14 0)) C zi_X6_pane_X6 0 rfl 14 (by decide) zf_X6_pane_189 rfl rfl dX6_pane_107 ?_
                        refine zv_iload_n (pc := 110) C rfl 2 rfl dX6_pane_110 ?_
                        obtain ⟨h_226, hF⟩ := hF
                        obtain ⟨r_227, er_227⟩ : ∃ y : zRow, y = (upd (T_222 15) (Int32.toNatClampNeg (T_222 14 0)) a1) := ⟨_, rfl⟩
                        replace hF := hF r_227 er_227
                        refine zv_iast (pc := 111) (n := 8) (f := (T_222 15)) (ws' := (zd_X6_pane cI adM qM1 qM2 qM3 qM4 qM5 qM6 qM7 qM8 qM12 qM13 qM15 qM16 qM17 qM18 qM19 qM20 qM21 (zset T_222 15 r_227))) C 11 h_226 rfl (by rw [er_227]; rfl) dX6_pane_111 ?_
                        refine zv_aload_n (pc := 112) C rfl 1 rfl dX6_pane_112 ?_
                        refine zv_get (pc := 113) (CC := RX6) (T := TX6) (N := 22) (ci := 5) (v := .ref qM16) C zi_X6_pane_X6 0 rfl 16 (by decide) zf_X6_pane_47 rfl rfl dX6_pane_113 ?_
                        refine zv_aload_n (pc := 116) C rfl 1 rfl dX6_pane_116 ?_
                        refine zv_get (pc := 117) (CC := RX6) (T := TX6) (N := 22) (ci := 5) (v := .int (T_222 14 0)) C zi_X6_pane_X6 0 rfl 14 (by decide) zf_X6_pane_189 rfl rfl dX6_pane_117 ?_
                        refine zv_iload_n (pc := 120) C rfl 3 rfl dX6_pane_120 ?_
                        obtain ⟨h_228, hF⟩ := hF
                        obtain ⟨r_229, er_229⟩ : ∃ y : zRow, y = (upd (T_222 16) (Int32.toNatClampNeg (T_222 14 0)) a2) := ⟨_, rfl⟩
                        replace hF := hF r_229 er_229
                        refine zv_iast (pc := 121) (n := 8) (f := (T_222 16)) (ws' := (zd_X6_pane cI adM qM1 qM2 qM3 qM4 qM5 qM6 qM7 qM8 qM12 qM13 qM15 qM16 qM17 qM18 qM19 qM20 qM21 (zset (zset T_222 15 r_227) 16 r_229))) C 12 h_228 rfl (by rw [er_229]; rfl) dX6_pane_121 ?_
                        refine zv_aload_n (pc := 122) C rfl 1 rfl dX6_pane_122 ?_
                        refine zv_get (pc := 123) (CC := RX6) (T := TX6) (N := 22) (ci := 5) (v := .ref qM17) C zi_X6_pane_X6 0 rfl 17 (by decide) zf_X6_pane_50 rfl rfl dX6_pane_123 ?_
                        refine zv_aload_n (pc := 126) C rfl 1 rfl dX6_pane_126 ?_
                        refine zv_get (pc := 127) (CC := RX6) (T := TX6) (N := 22) (ci := 5) (v := .int (T_222 14 0)) C zi_X6_pane_X6 0 rfl 14 (by decide) zf_X6_pane_189 rfl rfl dX6_pane_127 ?_
                        refine zv_iload_n (pc := 130) C rfl 4 rfl dX6_pane_130 ?_
                        obtain ⟨h_230, hF⟩ := hF
                        obtain ⟨r_231, er_231⟩ : ∃ y : zRow, y = (upd (T_222 17) (Int32.toNatClampNeg (T_222 14 0)) a3) := ⟨_, rfl⟩
                        replace hF := hF r_231 er_231
                        refine zv_iast (pc := 131) (n := 8) (f := (T_222 17)) (ws' := (zd_X6_pane cI adM qM1 qM2 qM3 qM4 qM5 qM6 qM7 qM8 qM12 qM13 qM15 qM16 qM17 qM18 qM19 qM20 qM21 (zset (zset (zset T_222 15 r_227) 16 r_229) 17 r_231))) C 13 h_230 rfl (by rw [er_231]; rfl) dX6_pane_131 ?_
                        refine zv_aload_n (pc := 132) C rfl 1 rfl dX6_pane_132 ?_
                        refine zv_get (pc := 133) (CC := RX6) (T := TX6) (N := 22) (ci := 5) (v := .ref qM18) C zi_X6_pane_X6 0 rfl 18 (by decide) zf_X6_pane_53 rfl rfl dX6_pane_133 ?_
                        refine zv_aload_n (pc := 136) C rfl 1 rfl dX6_pane_136 ?_
                        refine zv_get (pc := 137) (CC := RX6) (T := TX6) (N := 22) (ci := 5) (v := .int (T_222 14 0)) C zi_X6_pane_X6 0 rfl 14 (by decide) zf_X6_pane_189 rfl rfl dX6_pane_137 ?_
                        refine zv_iload (pc := 140) C 5 rfl dX6_pane_140 ?_
                        obtain ⟨h_232, hF⟩ := hF
                        obtain ⟨r_233, er_233⟩ : ∃ y : zRow, y = (upd (T_222 18) (Int32.toNatClampNeg (T_222 14 0)) a4) := ⟨_, rfl⟩
                        replace hF := hF r_233 er_233
                        refine zv_iast (pc := 142) (n := 8) (f := (T_222 18)) (ws' := (zd_X6_pane cI adM qM1 qM2 qM3 qM4 qM5 qM6 qM7 qM8 qM12 qM13 qM15 qM16 qM17 qM18 qM19 qM20 qM21 (zset (zset (zset (zset T_222 15 r_227) 16 r_229) 17 r_231) 18 r_233))) C 14 h_232 rfl (by rw [er_233]; rfl) dX6_pane_142 ?_
                        refine zv_aload_n (pc := 143) C rfl 1 rfl dX6_pane_143 ?_
                        refine zv_dup (pc := 144) C rfl dX6_pane_144 ?_
                        refine zv_get (pc := 145) (CC := RX6) (T := TX6) (N := 22) (ci := 5) (v := .int (T_222 14 0)) C zi_X6_pane_X6 0 rfl 14 (by decide) zf_X6_pane_189 rfl rfl dX6_pane_145 ?_
                        refine zv_iconst (pc := 148) (v := 1) C (by decide) dX6_pane_148 ?_
                        refine zv_iadd (pc := 149) C  dX6_pane_149 ?_
                        refine zv_topi (fun y_234 ey_234 => ?_)
                        replace hF := hF y_234 ey_234
                        refine zv_put (pc := 150) (CC := RX6) (T := TX6) (N := 22) (ci := 5) (v := .int y_234) (ty := .int) (ws' := (zd_X6_pane cI adM qM1 qM2 qM3 qM4 qM5 qM6 qM7 qM8 qM12 qM13 qM15 qM16 qM17 qM18 qM19 qM20 qM21 (zset (zset (zset (zset (zset T_222 14 (fun _ => y_234)) 15 r_227) 16 r_229) 17 r_231) 18 r_233))) C zi_X6_pane_X6 tyX6 tyX6_ok nmX6 0 rfl 14 (by decide) zf_X6_pane_189 rfl (by decide +kernel) rfl rfl rfl (Nat.le_of_ble_eq_true rfl) rfl dX6_pane_150 ?_
                        refine zv_aload_n (pc := 153) C rfl 1 rfl dX6_pane_153 ?_
                        refine zv_get (pc := 154) (CC := RX6) (T := TX6) (N := 22) (ci := 5) (v := .int y_234) C zi_X6_pane_X6 0 rfl 14 (by decide) zf_X6_pane_189 rfl rfl dX6_pane_154 ?_
                        exact zv_iret (pc := 157) C hr hlk y_234 (zset (zset (zset (zset (zset T_222 14 (fun _ => y_234)) 15 r_227) 16 r_229) 17 r_231) 18 r_233) hF rfl dX6_pane_157
                      · replace hF := And.right hF c_225
                        refine zv_iconst (pc := 100) (v := -1) C (by decide) dX6_pane_100 ?_
                        exact zv_iret (pc := 101) C hr hlk (-1 : Int32) T_222 hF rfl dX6_pane_101
                    · replace hF := And.right hF c_224
                      refine zv_iconst (pc := 89) (v := 0) C (by decide) dX6_pane_89 ?_
                      exact zv_iret (pc := 90) C hr hlk (0 : Int32) T_222 hF rfl dX6_pane_90
                  · replace hF := And.right hF c_221
                    refine zv_iload_n (pc := 62) C rfl 2 rfl dX6_pane_62 ?_
                    refine zv_iload (pc := 63) C 5 rfl dX6_pane_63 ?_
                    refine zv_imul (pc := 65) C  dX6_pane_65 ?_
                    refine zv_iload_n (pc := 66) C rfl 4 rfl dX6_pane_66 ?_
                    refine zv_iload_n (pc := 67) C rfl 3 rfl dX6_pane_67 ?_
                    refine zv_imul (pc := 68) C  dX6_pane_68 ?_
                    refine zv_iadd (pc := 69) C  dX6_pane_69 ?_
                    refine zv_iload_n (pc := 70) C rfl 3 rfl dX6_pane_70 ?_
                    refine zv_iload (pc := 71) C 5 rfl dX6_pane_71 ?_
                    refine zv_imul (pc := 73) C  dX6_pane_73 ?_
                    obtain ⟨KJ_237, h0KJ_237, hF⟩ := hF
                    refine zv_join (α := Int32) (KK := fun uz => KJ_237 uz) (wsJ := fun uz => (zd_X6_pane cI adM qM1 qM2 qM3 qM4 qM5 qM6 qM7 qM8 qM12 qM13 qM15 qM16 qM17 qM18 qM19 qM20 qM21 (zset M 0 (fun _ => (0 : Int32))))) (pcJ := 82) (lvJ := fun uz => [(0, .ref adM), (1, .int a1), (2, .int a2), (3, .int a3), (4, .int a4)]) (stJ := fun uz => [.int uz, .ref adM]) ?_ (fun hKJ_237 => ?_)
                    · rintro v_236 hF
                      replace hF := h0KJ_237 v_236 hF
                      refine zv_iconst (pc := 82) (v := 1) C (by decide) dX6_pane_82 ?_
                      refine zv_ci0 (pc := 83) (ws' := (fun uz : zMem => (zd_X6_pane cI adM qM1 qM2 qM3 qM4 qM5 qM6 qM7 qM8 qM12 qM13 qM15 qM16 qM17 qM18 qM19 qM20 qM21 uz))) C (zv_runV (As := [.int v_236, .int (1 : Int32)]) (b := adM) (rest := []) (ci := 5) (q0 := 0) C (zc_X6_right l G cI adM qM1 qM2 qM3 qM4 qM5 qM6 qM7 qM8 qM12 qM13 qM15 qM16 qM17 qM18 qM19 qM20 qM21 (zset M 0 (fun _ => (0 : Int32))) v_236 (1 : Int32) _ hF) (cwV 2 C.2.2.2.2.1 gX6_pane_X6_right rfl rfl rfl zy_X6_right ⟨Nat.le_of_ble_eq_true rfl, Nat.le_of_ble_eq_true rfl⟩) rfl rfl rfl rfl rfl (Nat.le_of_ble_eq_true rfl) ⟨Nat.zero_le _, Nat.zero_le _⟩ dX6_pane_83) [0, 1, 2, 3, 4, 5, 6, 7, 8, 9, 10, 11, 12, 13, 14, 15, 16, 17] [] rfl rfl rfl rfl rfl (fun _ => rfl) (fun _ => rfl) (fun _ => rfl) (fun v_239 uz hF => ?_)
                      obtain ⟨T_238, hE⟩ : ∃ z, z = uz := ⟨_, rfl⟩; subst hE
                      refine zv_if_ne (pc := 86) (tgt := 91) C dX6_pane_86 (by decide) (fun c_240 => ?_) (fun c_240 => ?_)
                      · replace hF := And.left hF c_240
                        refine zv_aload_n (pc := 91) C rfl 0 rfl dX6_pane_91 ?_
                        refine zv_get (pc := 92) (CC := RX6) (T := TX6) (N := 22) (ci := 5) (v := .int (T_238 14 0)) C zi_X6_pane_X6 0 rfl 14 (by decide) zf_X6_pane_189 rfl rfl dX6_pane_92 ?_
                        refine zv_bipush (pc := 95) (v := 8) C (by decide) dX6_pane_95 ?_
                        refine zv_icmp_ne (pc := 97) (tgt := 102) C dX6_pane_97 (by decide) (fun c_241 => ?_) (fun c_241 => ?_)
                        · replace hF := And.left hF c_241
                          refine zv_aload_n (pc := 102) C rfl 0 rfl dX6_pane_102 ?_
                          refine zv_get (pc := 103) (CC := RX6) (T := TX6) (N := 22) (ci := 5) (v := .ref qM15) C zi_X6_pane_X6 0 rfl 15 (by decide) zf_X6_pane_44 rfl rfl dX6_pane_103 ?_
                          refine zv_aload_n (pc := 106) C rfl 0 rfl dX6_pane_106 ?_
                          refine zv_get (pc := 107) (CC := RX6) (T := TX6) (N := 22) (ci := 5) (v := .int (T_238 14 0)) C zi_X6_pane_X6 0 rfl 14 (by decide) zf_X6_pane_189 rfl rfl dX6_pane_107 ?_
                          refine zv_iload_n (pc := 110) C rfl 1 rfl dX6_pane_110 ?_
                          obtain ⟨h_242, hF⟩ := hF
                          obtain ⟨r_243, er_243⟩ : ∃ y : zRow, y = (upd (T_238 15) (Int32.toNatClampNeg (T_238 14 0)) a1) := ⟨_, rfl⟩
                          replace hF := hF r_243 er_243
                          refine zv_iast (pc := 111) (n := 8) (f := (T_238 15)) (ws' := (zd_X6_pane cI adM qM1 qM2 qM3 qM4 qM5 qM6 qM7 qM8 qM12 qM13 qM15 qM16 qM17 qM18 qM19 qM20 qM21 (zset T_238 15 r_243))) C 11 h_242 rfl (by rw [er_243]; rfl) dX6_pane_111 ?_
                          refine zv_aload_n (pc := 112) C rfl 0 rfl dX6_pane_112 ?_
                          refine zv_get (pc := 113) (CC := RX6) (T := TX6) (N := 22) (ci := 5) (v := .ref qM16) C zi_X6_pane_X6 0 rfl 16 (by decide) zf_X6_pane_47 rfl rfl dX6_pane_113 ?_
                          refine zv_aload_n (pc := 116) C rfl 0 rfl dX6_pane_116 ?_
                          refine zv_get (pc := 117) (CC := RX6) (T := TX6) (N := 22) (ci := 5) (v := .int (T_238 14 0)) C zi_X6_pane_X6 0 rfl 14 (by decide) zf_X6_pane_189 rfl rfl dX6_pane_117 ?_
                          refine zv_iload_n (pc := 120) C rfl 2 rfl dX6_pane_120 ?_
                          obtain ⟨h_244, hF⟩ := hF
                          obtain ⟨r_245, er_245⟩ : ∃ y : zRow, y = (upd (T_238 16) (Int32.toNatClampNeg (T_238 14 0)) a2) := ⟨_, rfl⟩
                          replace hF := hF r_245 er_245
                          refine zv_iast (pc := 121) (n := 8) (f := (T_238 16)) (ws' := (zd_X6_pane cI adM qM1 qM2 qM3 qM4 qM5 qM6 qM7 qM8 qM12 qM13 qM15 qM16 qM17 qM18 qM19 qM20 qM21 (zset (zset T_238 15 r_243) 16 r_245))) C 12 h_244 rfl (by rw [er_245]; rfl) dX6_pane_121 ?_
                          refine zv_aload_n (pc := 122) C rfl 0 rfl dX6_pane_122 ?_
                          refine zv_get (pc := 123) (CC := RX6) (T := TX6) (N := 22) (ci := 5) (v := .ref qM17) C zi_X6_pane_X6 0 rfl 17 (by decide) zf_X6_pane_50 rfl rfl dX6_pane_123 ?_
                          refine zv_aload_n (pc := 126) C rfl 0 rfl dX6_pane_126 ?_
                          refine zv_get (pc := 127) (CC := RX6) (T := TX6) (N := 22) (ci := 5) (v := .int (T_238 14 0)) C zi_X6_pane_X6 0 rfl 14 (by decide) zf_X6_pane_189 rfl rfl dX6_pane_127 ?_
                          refine zv_iload_n (pc := 130) C rfl 3 rfl dX6_pane_130 ?_
                          obtain ⟨h_246, hF⟩ := hF
                          obtain ⟨r_247, er_247⟩ : ∃ y : zRow, y = (upd (T_238 17) (Int32.toNatClampNeg (T_238 14 0)) a3) := ⟨_, rfl⟩
                          replace hF := hF r_247 er_247
                          refine zv_iast (pc := 131) (n := 8) (f := (T_238 17)) (ws' := (zd_X6_pane cI adM qM1 qM2 qM3 qM4 qM5 qM6 qM7 qM8 qM12 qM13 qM15 qM16 qM17 qM18 qM19 qM20 qM21 (zset (zset (zset T_238 15 r_243) 16 r_245) 17 r_247))) C 13 h_246 rfl (by rw [er_247]; rfl) dX6_pane_131 ?_
                          refine zv_aload_n (pc := 132) C rfl 0 rfl dX6_pane_132 ?_
                          refine zv_get (pc := 133) (CC := RX6) (T := TX6) (N := 22) (ci := 5) (v := .ref qM18) C zi_X6_pane_X6 0 rfl 18 (by decide) zf_X6_pane_53 rfl rfl dX6_pane_133 ?_
                          refine zv_aload_n (pc := 136) C rfl 0 rfl dX6_pane_136 ?_
                          refine zv_get (pc := 137) (CC := RX6) (T := TX6) (N := 22) (ci := 5) (v := .int (T_238 14 0)) C zi_X6_pane_X6 0 rfl 14 (by decide) zf_X6_pane_189 rfl rfl dX6_pane_137 ?_
                          refine zv_iload (pc := 140) C 4 rfl dX6_pane_140 ?_
                          obtain ⟨h_248, hF⟩ := hF
                          obtain ⟨r_249, er_249⟩ : ∃ y : zRow, y = (upd (T_238 18) (Int32.toNatClampNeg (T_238 14 0)) a4) := ⟨_, rfl⟩
                          replace hF := hF r_249 er_249
                          refine zv_iast (pc := 142) (n := 8) (f := (T_238 18)) (ws' := (zd_X6_pane cI adM qM1 qM2 qM3 qM4 qM5 qM6 qM7 qM8 qM12 qM13 qM15 qM16 qM17 qM18 qM19 qM20 qM21 (zset (zset (zset (zset T_238 15 r_243) 16 r_245) 17 r_247) 18 r_249))) C 14 h_248 rfl (by rw [er_249]; rfl) dX6_pane_142 ?_
                          refine zv_aload_n (pc := 143) C rfl 0 rfl dX6_pane_143 ?_
                          refine zv_dup (pc := 144) C rfl dX6_pane_144 ?_
                          refine zv_get (pc := 145) (CC := RX6) (T := TX6) (N := 22) (ci := 5) (v := .int (T_238 14 0)) C zi_X6_pane_X6 0 rfl 14 (by decide) zf_X6_pane_189 rfl rfl dX6_pane_145 ?_
                          refine zv_iconst (pc := 148) (v := 1) C (by decide) dX6_pane_148 ?_
                          refine zv_iadd (pc := 149) C  dX6_pane_149 ?_
                          refine zv_topi (fun y_250 ey_250 => ?_)
                          replace hF := hF y_250 ey_250
                          refine zv_put (pc := 150) (CC := RX6) (T := TX6) (N := 22) (ci := 5) (v := .int y_250) (ty := .int) (ws' := (zd_X6_pane cI adM qM1 qM2 qM3 qM4 qM5 qM6 qM7 qM8 qM12 qM13 qM15 qM16 qM17 qM18 qM19 qM20 qM21 (zset (zset (zset (zset (zset T_238 14 (fun _ => y_250)) 15 r_243) 16 r_245) 17 r_247) 18 r_249))) C zi_X6_pane_X6 tyX6 tyX6_ok nmX6 0 rfl 14 (by decide) zf_X6_pane_189 rfl (by decide +kernel) rfl rfl rfl (Nat.le_of_ble_eq_true rfl) rfl dX6_pane_150 ?_
                          refine zv_aload_n (pc := 153) C rfl 0 rfl dX6_pane_153 ?_
                          refine zv_get (pc := 154) (CC := RX6) (T := TX6) (N := 22) (ci := 5) (v := .int y_250) C zi_X6_pane_X6 0 rfl 14 (by decide) zf_X6_pane_189 rfl rfl dX6_pane_154 ?_
                          exact zv_iret (pc := 157) C hr hlk y_250 (zset (zset (zset (zset (zset T_238 14 (fun _ => y_250)) 15 r_243) 16 r_245) 17 r_247) 18 r_249) hF rfl dX6_pane_157
                        · replace hF := And.right hF c_241
                          refine zv_iconst (pc := 100) (v := -1) C (by decide) dX6_pane_100 ?_
                          exact zv_iret (pc := 101) C hr hlk (-1 : Int32) T_238 hF rfl dX6_pane_101
                      · replace hF := And.right hF c_240
                        refine zv_iconst (pc := 89) (v := 0) C (by decide) dX6_pane_89 ?_
                        exact zv_iret (pc := 90) C hr hlk (0 : Int32) T_238 hF rfl dX6_pane_90
                    · skip
                      refine zv_icmp_gt (pc := 74) (tgt := 81) C dX6_pane_74 (by decide) (fun c_235 => ?_) (fun c_235 => ?_)
                      · replace hF := And.left hF c_235
                        refine zv_iconst (pc := 81) (v := 0) C (by decide) dX6_pane_81 ?_
                        exact zv_lvs [1, 2, 3, 4, 5] rfl (hKJ_237 (0 : Int32) hF)
                      · replace hF := And.right hF c_235
                        refine zv_iconst (pc := 77) (v := 1) C (by decide) dX6_pane_77 ?_
                        refine zv_goto (pc := 78) (tgt := 82) C dX6_pane_78 (by decide) ?_
                        exact zv_lvs [1, 2, 3, 4, 5] rfl (hKJ_237 (1 : Int32) hF)
                · skip
                  refine zv_icmp_gt (pc := 46) (tgt := 53) C dX6_pane_46 (by decide) (fun c_218 => ?_) (fun c_218 => ?_)
                  · replace hF := And.left hF c_218
                    refine zv_iconst (pc := 53) (v := 0) C (by decide) dX6_pane_53 ?_
                    exact zv_lvs [0, 1, 2, 3, 4] rfl (hKJ_220 (0 : Int32) hF)
                  · replace hF := And.right hF c_218
                    refine zv_iconst (pc := 49) (v := 1) C (by decide) dX6_pane_49 ?_
                    refine zv_goto (pc := 50) (tgt := 54) C dX6_pane_50 (by decide) ?_
                    exact zv_lvs [0, 1, 2, 3, 4] rfl (hKJ_220 (1 : Int32) hF)
theorem zf_X6_clear_189 : Cond.fieldLink RX6 189 "GlassStackModel" "panes" "I" ∈ wsX6_clear := (List.mem_of_getElem? (i := 2) rfl)
theorem zf_X6_clear_65 : Cond.fieldLink RX6 65 "GlassStackModel" "thrown" "I" ∈ wsX6_clear := (List.mem_of_getElem? (i := 1) rfl)
theorem zi_X6_clear_X6 : ∀ w ∈ wsX60, w ∈ wsX6_clear := fun w h => List.mem_cons_of_mem _ (List.mem_append_right _ h)
theorem zy_X6_clear : yX6_clear.cls = RX6 ∧ yX6_clear.cls ≠ "java/lang/invoke/MethodHandle" ∧ yX6_clear.cls ≠ "java/lang/invoke/VarHandle" ∧ (parseMethodDescriptor yX6_clear.desc).map (fun d => d.parameters.length) = some 0 := by decide +kernel
set_option maxHeartbeats 4000000 in
set_option maxRecDepth 100000 in
theorem zc_X6_clear (l : Launch) (G : va_G) (cI : ClassId) (adM qM1 qM2 qM3 qM4 qM5 qM6 qM7 qM8 qM12 qM13 qM15 qM16 qM17 qM18 qM19 qM20 qM21 : Nat) (M : zMem) (post : Int32 → zMem → Prop) (hF : zw_X6_clear M post) (sz : Nat) : Met l yX6_clear wsX6_clear rmX6_clear (va_Pc [.ref adM] (zv_in G cI (zd_X6_clear cI adM qM1 qM2 qM3 qM4 qM5 qM6 qM7 qM8 qM12 qM13 qM15 qM16 qM17 qM18 qM19 qM20 qM21 M) sz)) (va_Qi (fun (rz : Int32) (uz : zMem) => post rz uz) (fun (uz : zMem) t => zv_out G cI (va_A (zd_X6_clear cI adM qM1 qM2 qM3 qM4 qM5 qM6 qM7 qM8 qM12 qM13 qM15 qM16 qM17 qM18 qM19 qM20 qM21 M) sz) (zd_X6_clear cI adM qM1 qM2 qM3 qM4 qM5 qM6 qM7 qM8 qM12 qM13 qM15 qM16 qM17 qM18 qM19 qM20 qM21 uz) t) (va_A (zd_X6_clear cI adM qM1 qM2 qM3 qM4 qM5 qM6 qM7 qM8 qM12 qM13 qM15 qM16 qM17 qM18 qM19 qM20 qM21 M) sz)) 0 0 (va_A (zd_X6_clear cI adM qM1 qM2 qM3 qM4 qM5 qM6 qM7 qM8 qM12 qM13 qM15 qM16 qM17 qM18 qM19 qM20 qM21 M) sz) := by
  refine zv_met (cc := cX6_clear) (maxL := 2) (ret := (some .int)) (lv0 := [(0, .ref adM)]) (Qc := fun A => va_Qi (fun (rz : Int32) (uz : zMem) => post rz uz) (fun (uz : zMem) t => zv_out G cI A (zd_X6_clear cI adM qM1 qM2 qM3 qM4 qM5 qM6 qM7 qM8 qM12 qM13 qM15 qM16 qM17 qM18 qM19 qM20 qM21 uz) t) A) (by decide) rfl (Nat.le_of_ble_eq_true rfl) rfl ?_ sz
  intro p e s m below meth c A C hr hlk
  clear sz
  refine zv_aload_n (pc := 0) C rfl 0 rfl dX6_clear_0 ?_
  refine zv_iconst (pc := 1) (v := 0) C (by decide) dX6_clear_1 ?_
  refine zv_put (pc := 2) (CC := RX6) (T := TX6) (N := 22) (ci := 5) (v := .int (0 : Int32)) (ty := .int) (ws' := (zd_X6_clear cI adM qM1 qM2 qM3 qM4 qM5 qM6 qM7 qM8 qM12 qM13 qM15 qM16 qM17 qM18 qM19 qM20 qM21 (zset M 0 (fun _ => (0 : Int32))))) C zi_X6_clear_X6 tyX6 tyX6_ok nmX6 0 rfl 0 (by decide) zf_X6_clear_65 rfl (by decide +kernel) rfl rfl rfl (Nat.le_of_ble_eq_true rfl) rfl dX6_clear_2 ?_
  refine zv_aload_n (pc := 5) C rfl 0 rfl dX6_clear_5 ?_
  refine zv_get (pc := 6) (CC := RX6) (T := TX6) (N := 22) (ci := 5) (v := .int (M 14 0)) C zi_X6_clear_X6 0 rfl 14 (by decide) zf_X6_clear_189 rfl rfl dX6_clear_6 ?_
  refine zv_topi (fun x1_1 ex1_1 => ?_)
  replace hF := hF x1_1 ex1_1
  refine zv_istore_n (pc := 9) (lv' := [(1, .int x1_1), (0, .ref adM)]) C rfl (by decide) rfl dX6_clear_9 ?_
  refine zv_aload_n (pc := 10) C rfl 1 rfl dX6_clear_10 ?_
  refine zv_iconst (pc := 11) (v := 0) C (by decide) dX6_clear_11 ?_
  refine zv_put (pc := 12) (CC := RX6) (T := TX6) (N := 22) (ci := 5) (v := .int (0 : Int32)) (ty := .int) (ws' := (zd_X6_clear cI adM qM1 qM2 qM3 qM4 qM5 qM6 qM7 qM8 qM12 qM13 qM15 qM16 qM17 qM18 qM19 qM20 qM21 (zset (zset M 0 (fun _ => (0 : Int32))) 14 (fun _ => (0 : Int32))))) C zi_X6_clear_X6 tyX6 tyX6_ok nmX6 0 rfl 14 (by decide) zf_X6_clear_189 rfl (by decide +kernel) rfl rfl rfl (Nat.le_of_ble_eq_true rfl) rfl dX6_clear_12 ?_
  refine zv_iload_n (pc := 15) C rfl 0 rfl dX6_clear_15 ?_
  exact zv_iret (pc := 16) C hr hlk x1_1 (zset (zset M 0 (fun _ => (0 : Int32))) 14 (fun _ => (0 : Int32))) hF rfl dX6_clear_16
theorem zf_X6_paneOn_44 : Cond.fieldLink RX6 44 "GlassStackModel" "paneBackUp" "[I" ∈ wsX6_paneOn := (List.mem_of_getElem? (i := 1) rfl)
theorem zf_X6_paneOn_47 : Cond.fieldLink RX6 47 "GlassStackModel" "paneBackLow" "[I" ∈ wsX6_paneOn := (List.mem_of_getElem? (i := 2) rfl)
theorem zf_X6_paneOn_50 : Cond.fieldLink RX6 50 "GlassStackModel" "paneOnUp" "[I" ∈ wsX6_paneOn := (List.mem_of_getElem? (i := 3) rfl)
theorem zf_X6_paneOn_53 : Cond.fieldLink RX6 53 "GlassStackModel" "paneOnLow" "[I" ∈ wsX6_paneOn := (List.mem_of_getElem? (i := 4) rfl)
theorem zf_X6_paneOn_62 : Cond.fieldLink RX6 62 "GlassStackModel" "sign" "[I" ∈ wsX6_paneOn := (List.mem_of_getElem? (i := 5) rfl)
theorem zi_X6_paneOn_X6 : ∀ w ∈ wsX60, w ∈ wsX6_paneOn := fun w h => List.mem_cons_of_mem _ (List.mem_append_right _ h)
theorem zy_X6_paneOn : yX6_paneOn.cls = RX6 ∧ yX6_paneOn.cls ≠ "java/lang/invoke/MethodHandle" ∧ yX6_paneOn.cls ≠ "java/lang/invoke/VarHandle" ∧ (parseMethodDescriptor yX6_paneOn.desc).map (fun d => d.parameters.length) = some 1 := by decide +kernel
set_option maxHeartbeats 4000000 in
set_option maxRecDepth 100000 in
theorem zc_X6_paneOn (l : Launch) (G : va_G) (cI : ClassId) (adM qM1 qM2 qM3 qM4 qM5 qM6 qM7 qM8 qM12 qM13 qM15 qM16 qM17 qM18 qM19 qM20 qM21 : Nat) (M : zMem) (a1 : Int32) (post : zMem → Prop) (hF : zw_X6_paneOn M a1 post) (sz : Nat) : Met l yX6_paneOn wsX6_paneOn rmX6_paneOn (va_Pc [.ref adM, .int a1] (zv_in G cI (zd_X6_paneOn cI adM qM1 qM2 qM3 qM4 qM5 qM6 qM7 qM8 qM12 qM13 qM15 qM16 qM17 qM18 qM19 qM20 qM21 M) sz)) (va_Qv (fun uz : zMem => post uz) (fun (uz : zMem) t => zv_out G cI (va_A (zd_X6_paneOn cI adM qM1 qM2 qM3 qM4 qM5 qM6 qM7 qM8 qM12 qM13 qM15 qM16 qM17 qM18 qM19 qM20 qM21 M) sz) (zd_X6_paneOn cI adM qM1 qM2 qM3 qM4 qM5 qM6 qM7 qM8 qM12 qM13 qM15 qM16 qM17 qM18 qM19 qM20 qM21 uz) t) (va_A (zd_X6_paneOn cI adM qM1 qM2 qM3 qM4 qM5 qM6 qM7 qM8 qM12 qM13 qM15 qM16 qM17 qM18 qM19 qM20 qM21 M) sz)) 0 0 (va_A (zd_X6_paneOn cI adM qM1 qM2 qM3 qM4 qM5 qM6 qM7 qM8 qM12 qM13 qM15 qM16 qM17 qM18 qM19 qM20 qM21 M) sz) := by
  refine zv_met (cc := cX6_paneOn) (maxL := 10) (ret := none) (lv0 := [(0, .ref adM), (1, .int a1)]) (Qc := fun A => va_Qv (fun uz : zMem => post uz) (fun (uz : zMem) t => zv_out G cI A (zd_X6_paneOn cI adM qM1 qM2 qM3 qM4 qM5 qM6 qM7 qM8 qM12 qM13 qM15 qM16 qM17 qM18 qM19 qM20 qM21 uz) t) A) (by decide) rfl (Nat.le_of_ble_eq_true rfl) rfl ?_ sz
  intro p e s m below meth c A C hr hlk
  clear sz
  refine zv_aload_n (pc := 0) C rfl 0 rfl dX6_paneOn_0 ?_
  refine zv_get (pc := 1) (CC := RX6) (T := TX6) (N := 22) (ci := 5) (v := .ref qM15) C zi_X6_paneOn_X6 0 rfl 15 (by decide) zf_X6_paneOn_44 rfl rfl dX6_paneOn_1 ?_
  refine zv_iload_n (pc := 4) C rfl 1 rfl dX6_paneOn_4 ?_
  obtain ⟨h_1, hF⟩ := hF
  refine zv_iald (pc := 5) (n := 8) (f := (M 15)) C 11 h_1 rfl dX6_paneOn_5 ?_
  refine zv_i2l (pc := 6) C  dX6_paneOn_6 ?_
  refine zv_topl (fun x2_2 ex2_2 => ?_)
  replace hF := hF x2_2 ex2_2
  refine zv_lstore_n (pc := 7) (lv' := [(2, .long x2_2), (0, .ref adM), (1, .int a1)]) C rfl (by decide) rfl dX6_paneOn_7 ?_
  refine zv_aload_n (pc := 8) C rfl 1 rfl dX6_paneOn_8 ?_
  refine zv_get (pc := 9) (CC := RX6) (T := TX6) (N := 22) (ci := 5) (v := .ref qM16) C zi_X6_paneOn_X6 0 rfl 16 (by decide) zf_X6_paneOn_47 rfl rfl dX6_paneOn_9 ?_
  refine zv_iload_n (pc := 12) C rfl 2 rfl dX6_paneOn_12 ?_
  obtain ⟨h_3, hF⟩ := hF
  refine zv_iald (pc := 13) (n := 8) (f := (M 16)) C 12 h_3 rfl dX6_paneOn_13 ?_
  refine zv_i2l (pc := 14) C  dX6_paneOn_14 ?_
  refine zv_topl (fun x4_4 ex4_4 => ?_)
  replace hF := hF x4_4 ex4_4
  refine zv_lstore (pc := 15) (lv' := [(4, .long x4_4), (2, .long x2_2), (0, .ref adM), (1, .int a1)]) C (by decide) rfl dX6_paneOn_15 ?_
  refine zv_aload_n (pc := 17) C rfl 2 rfl dX6_paneOn_17 ?_
  refine zv_get (pc := 18) (CC := RX6) (T := TX6) (N := 22) (ci := 5) (v := .ref qM17) C zi_X6_paneOn_X6 0 rfl 17 (by decide) zf_X6_paneOn_50 rfl rfl dX6_paneOn_18 ?_
  refine zv_iload_n (pc := 21) C rfl 3 rfl dX6_paneOn_21 ?_
  obtain ⟨h_5, hF⟩ := hF
  refine zv_iald (pc := 22) (n := 8) (f := (M 17)) C 13 h_5 rfl dX6_paneOn_22 ?_
  refine zv_i2l (pc := 23) C  dX6_paneOn_23 ?_
  refine zv_topl (fun x6_6 ex6_6 => ?_)
  replace hF := hF x6_6 ex6_6
  refine zv_lstore (pc := 24) (lv' := [(6, .long x6_6), (4, .long x4_4), (2, .long x2_2), (0, .ref adM), (1, .int a1)]) C (by decide) rfl dX6_paneOn_24 ?_
  refine zv_aload_n (pc := 26) C rfl 3 rfl dX6_paneOn_26 ?_
  refine zv_get (pc := 27) (CC := RX6) (T := TX6) (N := 22) (ci := 5) (v := .ref qM18) C zi_X6_paneOn_X6 0 rfl 18 (by decide) zf_X6_paneOn_53 rfl rfl dX6_paneOn_27 ?_
  refine zv_iload_n (pc := 30) C rfl 4 rfl dX6_paneOn_30 ?_
  obtain ⟨h_7, hF⟩ := hF
  refine zv_iald (pc := 31) (n := 8) (f := (M 18)) C 14 h_7 rfl dX6_paneOn_31 ?_
  refine zv_i2l (pc := 32) C  dX6_paneOn_32 ?_
  refine zv_topl (fun x8_8 ex8_8 => ?_)
  replace hF := hF x8_8 ex8_8
  refine zv_lstore (pc := 33) (lv' := [(8, .long x8_8), (6, .long x6_6), (4, .long x4_4), (2, .long x2_2), (0, .ref adM), (1, .int a1)]) C (by decide) rfl dX6_paneOn_33 ?_
  refine zv_aload_n (pc := 35) C rfl 4 rfl dX6_paneOn_35 ?_
  refine zv_bipush (pc := 36) (v := 32) C (by decide) dX6_paneOn_36 ?_
  refine zv_bipush (pc := 38) (v := 29) C (by decide) dX6_paneOn_38 ?_
  refine zv_cv0 (pc := 40) (ws' := (fun uz : zMem => (zd_X6_paneOn cI adM qM1 qM2 qM3 qM4 qM5 qM6 qM7 qM8 qM12 qM13 qM15 qM16 qM17 qM18 qM19 qM20 qM21 uz))) C (zv_runV (As := [.int (32 : Int32), .int (29 : Int32)]) (b := adM) (rest := []) (ci := 5) (q0 := 0) C (zc_X6_copy l G cI adM qM1 qM2 qM3 qM4 qM5 qM6 qM7 qM8 qM12 qM13 qM15 qM16 qM17 qM18 qM19 qM20 qM21 M (32 : Int32) (29 : Int32) _ hF) (cwV 2 C.2.2.2.2.1 gX6_paneOn_X6_copy rfl rfl rfl zy_X6_copy ⟨Nat.le_of_ble_eq_true rfl, Nat.le_of_ble_eq_true rfl⟩) rfl rfl rfl rfl rfl (Nat.le_of_ble_eq_true rfl) ⟨Nat.zero_le _, Nat.zero_le _⟩ dX6_paneOn_40) [0, 1, 2, 3, 4, 5, 6, 7, 8, 9, 10, 11, 12, 13, 14, 15, 16, 17] [] rfl rfl rfl rfl rfl (fun _ => rfl) (fun _ => rfl) (fun _ => rfl) (fun uz hF => ?_)
  obtain ⟨T_9, hE⟩ : ∃ z, z = uz := ⟨_, rfl⟩; subst hE
  refine zv_aload_n (pc := 43) C rfl 4 rfl dX6_paneOn_43 ?_
  refine zv_bipush (pc := 44) (v := 32) C (by decide) dX6_paneOn_44 ?_
  refine zv_lload (pc := 46) C 2 rfl dX6_paneOn_46 ?_
  refine zv_cv0 (pc := 48) (ws' := (fun uz : zMem => (zd_X6_paneOn cI adM qM1 qM2 qM3 qM4 qM5 qM6 qM7 qM8 qM12 qM13 qM15 qM16 qM17 qM18 qM19 qM20 qM21 uz))) C (zv_runV (As := [.int (32 : Int32), .long x4_4]) (b := adM) (rest := []) (ci := 5) (q0 := 0) C (zc_X6_by l G cI adM qM1 qM2 qM3 qM4 qM5 qM6 qM7 qM8 qM12 qM13 qM15 qM16 qM17 qM18 qM19 qM20 qM21 T_9 (32 : Int32) x4_4 _ hF) (cwV 2 C.2.2.2.2.1 gX6_paneOn_X6_by rfl rfl rfl zy_X6_by ⟨Nat.le_of_ble_eq_true rfl, Nat.le_of_ble_eq_true rfl⟩) rfl rfl rfl rfl rfl (Nat.le_of_ble_eq_true rfl) ⟨Nat.zero_le _, Nat.zero_le _⟩ dX6_paneOn_48) [0, 1, 2, 3, 4, 5, 6, 7, 8, 9, 10, 11, 12, 13, 14, 15, 16, 17] [] rfl rfl rfl rfl rfl (fun _ => rfl) (fun _ => rfl) (fun _ => rfl) (fun uz hF => ?_)
  obtain ⟨T_10, hE⟩ : ∃ z, z = uz := ⟨_, rfl⟩; subst hE
  refine zv_aload_n (pc := 51) C rfl 4 rfl dX6_paneOn_51 ?_
  refine zv_bipush (pc := 52) (v := 33) C (by decide) dX6_paneOn_52 ?_
  refine zv_bipush (pc := 54) (v := 28) C (by decide) dX6_paneOn_54 ?_
  refine zv_cv0 (pc := 56) (ws' := (fun uz : zMem => (zd_X6_paneOn cI adM qM1 qM2 qM3 qM4 qM5 qM6 qM7 qM8 qM12 qM13 qM15 qM16 qM17 qM18 qM19 qM20 qM21 uz))) C (zv_runV (As := [.int (33 : Int32), .int (28 : Int32)]) (b := adM) (rest := []) (ci := 5) (q0 := 0) C (zc_X6_copy l G cI adM qM1 qM2 qM3 qM4 qM5 qM6 qM7 qM8 qM12 qM13 qM15 qM16 qM17 qM18 qM19 qM20 qM21 T_10 (33 : Int32) (28 : Int32) _ hF) (cwV 2 C.2.2.2.2.1 gX6_paneOn_X6_copy rfl rfl rfl zy_X6_copy ⟨Nat.le_of_ble_eq_true rfl, Nat.le_of_ble_eq_true rfl⟩) rfl rfl rfl rfl rfl (Nat.le_of_ble_eq_true rfl) ⟨Nat.zero_le _, Nat.zero_le _⟩ dX6_paneOn_56) [0, 1, 2, 3, 4, 5, 6, 7, 8, 9, 10, 11, 12, 13, 14, 15, 16, 17] [] rfl rfl rfl rfl rfl (fun _ => rfl) (fun _ => rfl) (fun _ => rfl) (fun uz hF => ?_)
  obtain ⟨T_11, hE⟩ : ∃ z, z = uz := ⟨_, rfl⟩; subst hE
  refine zv_aload_n (pc := 59) C rfl 4 rfl dX6_paneOn_59 ?_
  refine zv_bipush (pc := 60) (v := 33) C (by decide) dX6_paneOn_60 ?_
  refine zv_lload_n (pc := 62) C rfl 3 rfl dX6_paneOn_62 ?_
  refine zv_cv0 (pc := 63) (ws' := (fun uz : zMem => (zd_X6_paneOn cI adM qM1 qM2 qM3 qM4 qM5 qM6 qM7 qM8 qM12 qM13 qM15 qM16 qM17 qM18 qM19 qM20 qM21 uz))) C (zv_runV (As := [.int (33 : Int32), .long x2_2]) (b := adM) (rest := []) (ci := 5) (q0 := 0) C (zc_X6_by l G cI adM qM1 qM2 qM3 qM4 qM5 qM6 qM7 qM8 qM12 qM13 qM15 qM16 qM17 qM18 qM19 qM20 qM21 T_11 (33 : Int32) x2_2 _ hF) (cwV 2 C.2.2.2.2.1 gX6_paneOn_X6_by rfl rfl rfl zy_X6_by ⟨Nat.le_of_ble_eq_true rfl, Nat.le_of_ble_eq_true rfl⟩) rfl rfl rfl rfl rfl (Nat.le_of_ble_eq_true rfl) ⟨Nat.zero_le _, Nat.zero_le _⟩ dX6_paneOn_63) [0, 1, 2, 3, 4, 5, 6, 7, 8, 9, 10, 11, 12, 13, 14, 15, 16, 17] [] rfl rfl rfl rfl rfl (fun _ => rfl) (fun _ => rfl) (fun _ => rfl) (fun uz hF => ?_)
  obtain ⟨T_12, hE⟩ : ∃ z, z = uz := ⟨_, rfl⟩; subst hE
  refine zv_aload_n (pc := 66) C rfl 4 rfl dX6_paneOn_66 ?_
  refine zv_bipush (pc := 67) (v := 32) C (by decide) dX6_paneOn_67 ?_
  refine zv_bipush (pc := 69) (v := 32) C (by decide) dX6_paneOn_69 ?_
  refine zv_bipush (pc := 71) (v := 33) C (by decide) dX6_paneOn_71 ?_
  refine zv_cv0 (pc := 73) (ws' := (fun uz : zMem => (zd_X6_paneOn cI adM qM1 qM2 qM3 qM4 qM5 qM6 qM7 qM8 qM12 qM13 qM15 qM16 qM17 qM18 qM19 qM20 qM21 uz))) C (zv_runV (As := [.int (32 : Int32), .int (32 : Int32), .int (33 : Int32)]) (b := adM) (rest := []) (ci := 5) (q0 := 0) C (zc_X6_minus l G cI adM qM1 qM2 qM3 qM4 qM5 qM6 qM7 qM8 qM12 qM13 qM15 qM16 qM17 qM18 qM19 qM20 qM21 T_12 (32 : Int32) (32 : Int32) (33 : Int32) _ hF) (cwV 3 C.2.2.2.2.1 gX6_paneOn_X6_minus rfl rfl rfl zy_X6_minus ⟨Nat.le_of_ble_eq_true rfl, Nat.le_of_ble_eq_true rfl⟩) rfl rfl rfl rfl rfl (Nat.le_of_ble_eq_true rfl) ⟨Nat.zero_le _, Nat.zero_le _⟩ dX6_paneOn_73) [0, 1, 2, 3, 4, 5, 6, 7, 8, 9, 10, 11, 12, 13, 14, 15, 16, 17] [] rfl rfl rfl rfl rfl (fun _ => rfl) (fun _ => rfl) (fun _ => rfl) (fun uz hF => ?_)
  obtain ⟨T_13, hE⟩ : ∃ z, z = uz := ⟨_, rfl⟩; subst hE
  refine zv_aload_n (pc := 76) C rfl 4 rfl dX6_paneOn_76 ?_
  refine zv_get (pc := 77) (CC := RX6) (T := TX6) (N := 22) (ci := 5) (v := .ref qM21) C zi_X6_paneOn_X6 0 rfl 21 (by decide) zf_X6_paneOn_62 rfl rfl dX6_paneOn_77 ?_
  refine zv_bipush (pc := 80) (v := 32) C (by decide) dX6_paneOn_80 ?_
  obtain ⟨h_14, hF⟩ := hF
  refine zv_iald (pc := 82) (n := 60) (f := (T_13 21)) C 17 h_14 rfl dX6_paneOn_82 ?_
  refine zv_if_ne (pc := 83) (tgt := 116) C dX6_paneOn_83 (by decide) (fun c_15 => ?_) (fun c_15 => ?_)
  · replace hF := And.left hF c_15
    refine zv_aload_n (pc := 116) C rfl 4 rfl dX6_paneOn_116 ?_
    refine zv_bipush (pc := 117) (v := 10) C (by decide) dX6_paneOn_117 ?_
    refine zv_bipush (pc := 119) (v := 30) C (by decide) dX6_paneOn_119 ?_
    refine zv_bipush (pc := 121) (v := 30) C (by decide) dX6_paneOn_121 ?_
    refine zv_cv0 (pc := 123) (ws' := (fun uz : zMem => (zd_X6_paneOn cI adM qM1 qM2 qM3 qM4 qM5 qM6 qM7 qM8 qM12 qM13 qM15 qM16 qM17 qM18 qM19 qM20 qM21 uz))) C (zv_runV (As := [.int (10 : Int32), .int (30 : Int32), .int (30 : Int32)]) (b := adM) (rest := []) (ci := 5) (q0 := 0) C (zc_X6_times l G cI adM qM1 qM2 qM3 qM4 qM5 qM6 qM7 qM8 qM12 qM13 qM15 qM16 qM17 qM18 qM19 qM20 qM21 T_13 (10 : Int32) (30 : Int32) (30 : Int32) _ hF) (cwV 3 C.2.2.2.2.1 gX6_paneOn_X6_times rfl rfl rfl zy_X6_times ⟨Nat.le_of_ble_eq_true rfl, Nat.le_of_ble_eq_true rfl⟩) rfl rfl rfl rfl rfl (Nat.le_of_ble_eq_true rfl) ⟨Nat.zero_le _, Nat.zero_le _⟩ dX6_paneOn_123) [0, 1, 2, 3, 4, 5, 6, 7, 8, 9, 10, 11, 12, 13, 14, 15, 16, 17] [] rfl rfl rfl rfl rfl (fun _ => rfl) (fun _ => rfl) (fun _ => rfl) (fun uz hF => ?_)
    obtain ⟨T_16, hE⟩ : ∃ z, z = uz := ⟨_, rfl⟩; subst hE
    refine zv_aload_n (pc := 126) C rfl 4 rfl dX6_paneOn_126 ?_
    refine zv_bipush (pc := 127) (v := 10) C (by decide) dX6_paneOn_127 ?_
    refine zv_lload_n (pc := 129) C rfl 3 rfl dX6_paneOn_129 ?_
    refine zv_cv0 (pc := 130) (ws' := (fun uz : zMem => (zd_X6_paneOn cI adM qM1 qM2 qM3 qM4 qM5 qM6 qM7 qM8 qM12 qM13 qM15 qM16 qM17 qM18 qM19 qM20 qM21 uz))) C (zv_runV (As := [.int (10 : Int32), .long x2_2]) (b := adM) (rest := []) (ci := 5) (q0 := 0) C (zc_X6_by l G cI adM qM1 qM2 qM3 qM4 qM5 qM6 qM7 qM8 qM12 qM13 qM15 qM16 qM17 qM18 qM19 qM20 qM21 T_16 (10 : Int32) x2_2 _ hF) (cwV 2 C.2.2.2.2.1 gX6_paneOn_X6_by rfl rfl rfl zy_X6_by ⟨Nat.le_of_ble_eq_true rfl, Nat.le_of_ble_eq_true rfl⟩) rfl rfl rfl rfl rfl (Nat.le_of_ble_eq_true rfl) ⟨Nat.zero_le _, Nat.zero_le _⟩ dX6_paneOn_130) [0, 1, 2, 3, 4, 5, 6, 7, 8, 9, 10, 11, 12, 13, 14, 15, 16, 17] [] rfl rfl rfl rfl rfl (fun _ => rfl) (fun _ => rfl) (fun _ => rfl) (fun uz hF => ?_)
    obtain ⟨T_17, hE⟩ : ∃ z, z = uz := ⟨_, rfl⟩; subst hE
    refine zv_aload_n (pc := 133) C rfl 4 rfl dX6_paneOn_133 ?_
    refine zv_bipush (pc := 134) (v := 11) C (by decide) dX6_paneOn_134 ?_
    refine zv_bipush (pc := 136) (v := 10) C (by decide) dX6_paneOn_136 ?_
    refine zv_bipush (pc := 138) (v := 29) C (by decide) dX6_paneOn_138 ?_
    refine zv_cv0 (pc := 140) (ws' := (fun uz : zMem => (zd_X6_paneOn cI adM qM1 qM2 qM3 qM4 qM5 qM6 qM7 qM8 qM12 qM13 qM15 qM16 qM17 qM18 qM19 qM20 qM21 uz))) C (zv_runV (As := [.int (11 : Int32), .int (10 : Int32), .int (29 : Int32)]) (b := adM) (rest := []) (ci := 5) (q0 := 0) C (zc_X6_times l G cI adM qM1 qM2 qM3 qM4 qM5 qM6 qM7 qM8 qM12 qM13 qM15 qM16 qM17 qM18 qM19 qM20 qM21 T_17 (11 : Int32) (10 : Int32) (29 : Int32) _ hF) (cwV 3 C.2.2.2.2.1 gX6_paneOn_X6_times rfl rfl rfl zy_X6_times ⟨Nat.le_of_ble_eq_true rfl, Nat.le_of_ble_eq_true rfl⟩) rfl rfl rfl rfl rfl (Nat.le_of_ble_eq_true rfl) ⟨Nat.zero_le _, Nat.zero_le _⟩ dX6_paneOn_140) [0, 1, 2, 3, 4, 5, 6, 7, 8, 9, 10, 11, 12, 13, 14, 15, 16, 17] [] rfl rfl rfl rfl rfl (fun _ => rfl) (fun _ => rfl) (fun _ => rfl) (fun uz hF => ?_)
    obtain ⟨T_18, hE⟩ : ∃ z, z = uz := ⟨_, rfl⟩; subst hE
    refine zv_aload_n (pc := 143) C rfl 4 rfl dX6_paneOn_143 ?_
    refine zv_bipush (pc := 144) (v := 10) C (by decide) dX6_paneOn_144 ?_
    refine zv_bipush (pc := 146) (v := 31) C (by decide) dX6_paneOn_146 ?_
    refine zv_bipush (pc := 148) (v := 31) C (by decide) dX6_paneOn_148 ?_
    refine zv_cv0 (pc := 150) (ws' := (fun uz : zMem => (zd_X6_paneOn cI adM qM1 qM2 qM3 qM4 qM5 qM6 qM7 qM8 qM12 qM13 qM15 qM16 qM17 qM18 qM19 qM20 qM21 uz))) C (zv_runV (As := [.int (10 : Int32), .int (31 : Int32), .int (31 : Int32)]) (b := adM) (rest := []) (ci := 5) (q0 := 0) C (zc_X6_times l G cI adM qM1 qM2 qM3 qM4 qM5 qM6 qM7 qM8 qM12 qM13 qM15 qM16 qM17 qM18 qM19 qM20 qM21 T_18 (10 : Int32) (31 : Int32) (31 : Int32) _ hF) (cwV 3 C.2.2.2.2.1 gX6_paneOn_X6_times rfl rfl rfl zy_X6_times ⟨Nat.le_of_ble_eq_true rfl, Nat.le_of_ble_eq_true rfl⟩) rfl rfl rfl rfl rfl (Nat.le_of_ble_eq_true rfl) ⟨Nat.zero_le _, Nat.zero_le _⟩ dX6_paneOn_150) [0, 1, 2, 3, 4, 5, 6, 7, 8, 9, 10, 11, 12, 13, 14, 15, 16, 17] [] rfl rfl rfl rfl rfl (fun _ => rfl) (fun _ => rfl) (fun _ => rfl) (fun uz hF => ?_)
    obtain ⟨T_19, hE⟩ : ∃ z, z = uz := ⟨_, rfl⟩; subst hE
    refine zv_aload_n (pc := 153) C rfl 4 rfl dX6_paneOn_153 ?_
    refine zv_bipush (pc := 154) (v := 12) C (by decide) dX6_paneOn_154 ?_
    refine zv_bipush (pc := 156) (v := 10) C (by decide) dX6_paneOn_156 ?_
    refine zv_bipush (pc := 158) (v := 32) C (by decide) dX6_paneOn_158 ?_
    refine zv_cv0 (pc := 160) (ws' := (fun uz : zMem => (zd_X6_paneOn cI adM qM1 qM2 qM3 qM4 qM5 qM6 qM7 qM8 qM12 qM13 qM15 qM16 qM17 qM18 qM19 qM20 qM21 uz))) C (zv_runV (As := [.int (12 : Int32), .int (10 : Int32), .int (32 : Int32)]) (b := adM) (rest := []) (ci := 5) (q0 := 0) C (zc_X6_times l G cI adM qM1 qM2 qM3 qM4 qM5 qM6 qM7 qM8 qM12 qM13 qM15 qM16 qM17 qM18 qM19 qM20 qM21 T_19 (12 : Int32) (10 : Int32) (32 : Int32) _ hF) (cwV 3 C.2.2.2.2.1 gX6_paneOn_X6_times rfl rfl rfl zy_X6_times ⟨Nat.le_of_ble_eq_true rfl, Nat.le_of_ble_eq_true rfl⟩) rfl rfl rfl rfl rfl (Nat.le_of_ble_eq_true rfl) ⟨Nat.zero_le _, Nat.zero_le _⟩ dX6_paneOn_160) [0, 1, 2, 3, 4, 5, 6, 7, 8, 9, 10, 11, 12, 13, 14, 15, 16, 17] [] rfl rfl rfl rfl rfl (fun _ => rfl) (fun _ => rfl) (fun _ => rfl) (fun uz hF => ?_)
    obtain ⟨T_20, hE⟩ : ∃ z, z = uz := ⟨_, rfl⟩; subst hE
    refine zv_aload_n (pc := 163) C rfl 4 rfl dX6_paneOn_163 ?_
    refine zv_bipush (pc := 164) (v := 10) C (by decide) dX6_paneOn_164 ?_
    refine zv_bipush (pc := 166) (v := 26) C (by decide) dX6_paneOn_166 ?_
    refine zv_bipush (pc := 168) (v := 12) C (by decide) dX6_paneOn_168 ?_
    refine zv_cv0 (pc := 170) (ws' := (fun uz : zMem => (zd_X6_paneOn cI adM qM1 qM2 qM3 qM4 qM5 qM6 qM7 qM8 qM12 qM13 qM15 qM16 qM17 qM18 qM19 qM20 qM21 uz))) C (zv_runV (As := [.int (10 : Int32), .int (26 : Int32), .int (12 : Int32)]) (b := adM) (rest := []) (ci := 5) (q0 := 0) C (zc_X6_times l G cI adM qM1 qM2 qM3 qM4 qM5 qM6 qM7 qM8 qM12 qM13 qM15 qM16 qM17 qM18 qM19 qM20 qM21 T_20 (10 : Int32) (26 : Int32) (12 : Int32) _ hF) (cwV 3 C.2.2.2.2.1 gX6_paneOn_X6_times rfl rfl rfl zy_X6_times ⟨Nat.le_of_ble_eq_true rfl, Nat.le_of_ble_eq_true rfl⟩) rfl rfl rfl rfl rfl (Nat.le_of_ble_eq_true rfl) ⟨Nat.zero_le _, Nat.zero_le _⟩ dX6_paneOn_170) [0, 1, 2, 3, 4, 5, 6, 7, 8, 9, 10, 11, 12, 13, 14, 15, 16, 17] [] rfl rfl rfl rfl rfl (fun _ => rfl) (fun _ => rfl) (fun _ => rfl) (fun uz hF => ?_)
    obtain ⟨T_21, hE⟩ : ∃ z, z = uz := ⟨_, rfl⟩; subst hE
    refine zv_aload_n (pc := 173) C rfl 4 rfl dX6_paneOn_173 ?_
    refine zv_bipush (pc := 174) (v := 13) C (by decide) dX6_paneOn_174 ?_
    refine zv_bipush (pc := 176) (v := 11) C (by decide) dX6_paneOn_176 ?_
    refine zv_bipush (pc := 178) (v := 27) C (by decide) dX6_paneOn_178 ?_
    refine zv_cv0 (pc := 180) (ws' := (fun uz : zMem => (zd_X6_paneOn cI adM qM1 qM2 qM3 qM4 qM5 qM6 qM7 qM8 qM12 qM13 qM15 qM16 qM17 qM18 qM19 qM20 qM21 uz))) C (zv_runV (As := [.int (13 : Int32), .int (11 : Int32), .int (27 : Int32)]) (b := adM) (rest := []) (ci := 5) (q0 := 0) C (zc_X6_times l G cI adM qM1 qM2 qM3 qM4 qM5 qM6 qM7 qM8 qM12 qM13 qM15 qM16 qM17 qM18 qM19 qM20 qM21 T_21 (13 : Int32) (11 : Int32) (27 : Int32) _ hF) (cwV 3 C.2.2.2.2.1 gX6_paneOn_X6_times rfl rfl rfl zy_X6_times ⟨Nat.le_of_ble_eq_true rfl, Nat.le_of_ble_eq_true rfl⟩) rfl rfl rfl rfl rfl (Nat.le_of_ble_eq_true rfl) ⟨Nat.zero_le _, Nat.zero_le _⟩ dX6_paneOn_180) [0, 1, 2, 3, 4, 5, 6, 7, 8, 9, 10, 11, 12, 13, 14, 15, 16, 17] [] rfl rfl rfl rfl rfl (fun _ => rfl) (fun _ => rfl) (fun _ => rfl) (fun uz hF => ?_)
    obtain ⟨T_22, hE⟩ : ∃ z, z = uz := ⟨_, rfl⟩; subst hE
    refine zv_aload_n (pc := 183) C rfl 4 rfl dX6_paneOn_183 ?_
    refine zv_bipush (pc := 184) (v := 35) C (by decide) dX6_paneOn_184 ?_
    refine zv_bipush (pc := 186) (v := 10) C (by decide) dX6_paneOn_186 ?_
    refine zv_bipush (pc := 188) (v := 13) C (by decide) dX6_paneOn_188 ?_
    refine zv_cv0 (pc := 190) (ws' := (fun uz : zMem => (zd_X6_paneOn cI adM qM1 qM2 qM3 qM4 qM5 qM6 qM7 qM8 qM12 qM13 qM15 qM16 qM17 qM18 qM19 qM20 qM21 uz))) C (zv_runV (As := [.int (35 : Int32), .int (10 : Int32), .int (13 : Int32)]) (b := adM) (rest := []) (ci := 5) (q0 := 0) C (zc_X6_plus l G cI adM qM1 qM2 qM3 qM4 qM5 qM6 qM7 qM8 qM12 qM13 qM15 qM16 qM17 qM18 qM19 qM20 qM21 T_22 (35 : Int32) (10 : Int32) (13 : Int32) _ hF) (cwV 3 C.2.2.2.2.1 gX6_paneOn_X6_plus rfl rfl rfl zy_X6_plus ⟨Nat.le_of_ble_eq_true rfl, Nat.le_of_ble_eq_true rfl⟩) rfl rfl rfl rfl rfl (Nat.le_of_ble_eq_true rfl) ⟨Nat.zero_le _, Nat.zero_le _⟩ dX6_paneOn_190) [0, 1, 2, 3, 4, 5, 6, 7, 8, 9, 10, 11, 12, 13, 14, 15, 16, 17] [] rfl rfl rfl rfl rfl (fun _ => rfl) (fun _ => rfl) (fun _ => rfl) (fun uz hF => ?_)
    obtain ⟨T_23, hE⟩ : ∃ z, z = uz := ⟨_, rfl⟩; subst hE
    refine zv_aload_n (pc := 193) C rfl 4 rfl dX6_paneOn_193 ?_
    refine zv_bipush (pc := 194) (v := 36) C (by decide) dX6_paneOn_194 ?_
    refine zv_bipush (pc := 196) (v := 27) C (by decide) dX6_paneOn_196 ?_
    refine zv_bipush (pc := 198) (v := 12) C (by decide) dX6_paneOn_198 ?_
    refine zv_cv0 (pc := 200) (ws' := (fun uz : zMem => (zd_X6_paneOn cI adM qM1 qM2 qM3 qM4 qM5 qM6 qM7 qM8 qM12 qM13 qM15 qM16 qM17 qM18 qM19 qM20 qM21 uz))) C (zv_runV (As := [.int (36 : Int32), .int (27 : Int32), .int (12 : Int32)]) (b := adM) (rest := []) (ci := 5) (q0 := 0) C (zc_X6_times l G cI adM qM1 qM2 qM3 qM4 qM5 qM6 qM7 qM8 qM12 qM13 qM15 qM16 qM17 qM18 qM19 qM20 qM21 T_23 (36 : Int32) (27 : Int32) (12 : Int32) _ hF) (cwV 3 C.2.2.2.2.1 gX6_paneOn_X6_times rfl rfl rfl zy_X6_times ⟨Nat.le_of_ble_eq_true rfl, Nat.le_of_ble_eq_true rfl⟩) rfl rfl rfl rfl rfl (Nat.le_of_ble_eq_true rfl) ⟨Nat.zero_le _, Nat.zero_le _⟩ dX6_paneOn_200) [0, 1, 2, 3, 4, 5, 6, 7, 8, 9, 10, 11, 12, 13, 14, 15, 16, 17] [] rfl rfl rfl rfl rfl (fun _ => rfl) (fun _ => rfl) (fun _ => rfl) (fun uz hF => ?_)
    obtain ⟨T_24, hE⟩ : ∃ z, z = uz := ⟨_, rfl⟩; subst hE
    refine zv_aload_n (pc := 203) C rfl 4 rfl dX6_paneOn_203 ?_
    refine zv_bipush (pc := 204) (v := 26) C (by decide) dX6_paneOn_204 ?_
    refine zv_bipush (pc := 206) (v := 35) C (by decide) dX6_paneOn_206 ?_
    refine zv_cv0 (pc := 208) (ws' := (fun uz : zMem => (zd_X6_paneOn cI adM qM1 qM2 qM3 qM4 qM5 qM6 qM7 qM8 qM12 qM13 qM15 qM16 qM17 qM18 qM19 qM20 qM21 uz))) C (zv_runV (As := [.int (26 : Int32), .int (35 : Int32)]) (b := adM) (rest := []) (ci := 5) (q0 := 0) C (zc_X6_copy l G cI adM qM1 qM2 qM3 qM4 qM5 qM6 qM7 qM8 qM12 qM13 qM15 qM16 qM17 qM18 qM19 qM20 qM21 T_24 (26 : Int32) (35 : Int32) _ hF) (cwV 2 C.2.2.2.2.1 gX6_paneOn_X6_copy rfl rfl rfl zy_X6_copy ⟨Nat.le_of_ble_eq_true rfl, Nat.le_of_ble_eq_true rfl⟩) rfl rfl rfl rfl rfl (Nat.le_of_ble_eq_true rfl) ⟨Nat.zero_le _, Nat.zero_le _⟩ dX6_paneOn_208) [0, 1, 2, 3, 4, 5, 6, 7, 8, 9, 10, 11, 12, 13, 14, 15, 16, 17] [] rfl rfl rfl rfl rfl (fun _ => rfl) (fun _ => rfl) (fun _ => rfl) (fun uz hF => ?_)
    obtain ⟨T_25, hE⟩ : ∃ z, z = uz := ⟨_, rfl⟩; subst hE
    refine zv_aload_n (pc := 211) C rfl 4 rfl dX6_paneOn_211 ?_
    refine zv_bipush (pc := 212) (v := 27) C (by decide) dX6_paneOn_212 ?_
    refine zv_bipush (pc := 214) (v := 36) C (by decide) dX6_paneOn_214 ?_
    refine zv_cv0 (pc := 216) (ws' := (fun uz : zMem => (zd_X6_paneOn cI adM qM1 qM2 qM3 qM4 qM5 qM6 qM7 qM8 qM12 qM13 qM15 qM16 qM17 qM18 qM19 qM20 qM21 uz))) C (zv_runV (As := [.int (27 : Int32), .int (36 : Int32)]) (b := adM) (rest := []) (ci := 5) (q0 := 0) C (zc_X6_copy l G cI adM qM1 qM2 qM3 qM4 qM5 qM6 qM7 qM8 qM12 qM13 qM15 qM16 qM17 qM18 qM19 qM20 qM21 T_25 (27 : Int32) (36 : Int32) _ hF) (cwV 2 C.2.2.2.2.1 gX6_paneOn_X6_copy rfl rfl rfl zy_X6_copy ⟨Nat.le_of_ble_eq_true rfl, Nat.le_of_ble_eq_true rfl⟩) rfl rfl rfl rfl rfl (Nat.le_of_ble_eq_true rfl) ⟨Nat.zero_le _, Nat.zero_le _⟩ dX6_paneOn_216) [0, 1, 2, 3, 4, 5, 6, 7, 8, 9, 10, 11, 12, 13, 14, 15, 16, 17] [] rfl rfl rfl rfl rfl (fun _ => rfl) (fun _ => rfl) (fun _ => rfl) (fun uz hF => ?_)
    obtain ⟨T_26, hE⟩ : ∃ z, z = uz := ⟨_, rfl⟩; subst hE
    refine zv_aload_n (pc := 219) C rfl 4 rfl dX6_paneOn_219 ?_
    refine zv_bipush (pc := 220) (v := 26) C (by decide) dX6_paneOn_220 ?_
    refine zv_bipush (pc := 222) (v := 27) C (by decide) dX6_paneOn_222 ?_
    refine zv_cv0 (pc := 224) (ws' := (fun uz : zMem => (zd_X6_paneOn cI adM qM1 qM2 qM3 qM4 qM5 qM6 qM7 qM8 qM12 qM13 qM15 qM16 qM17 qM18 qM19 qM20 qM21 uz))) C (zv_runV (As := [.int (26 : Int32), .int (27 : Int32)]) (b := adM) (rest := []) (ci := 5) (q0 := 0) C (zc_X6_shorten l G cI adM qM1 qM2 qM3 qM4 qM5 qM6 qM7 qM8 qM12 qM13 qM15 qM16 qM17 qM18 qM19 qM20 qM21 T_26 (26 : Int32) (27 : Int32) _ hF) (cwV 2 C.2.2.2.2.1 gX6_paneOn_X6_shorten rfl rfl rfl zy_X6_shorten ⟨Nat.le_of_ble_eq_true rfl, Nat.le_of_ble_eq_true rfl⟩) rfl rfl rfl rfl rfl (Nat.le_of_ble_eq_true rfl) ⟨Nat.zero_le _, Nat.zero_le _⟩ dX6_paneOn_224) [0, 1, 2, 3, 4, 5, 6, 7, 8, 9, 10, 11, 12, 13, 14, 15, 16, 17] [] rfl rfl rfl rfl rfl (fun _ => rfl) (fun _ => rfl) (fun _ => rfl) (fun uz hF => ?_)
    obtain ⟨T_27, hE⟩ : ∃ z, z = uz := ⟨_, rfl⟩; subst hE
    refine zv_aload_n (pc := 227) C rfl 4 rfl dX6_paneOn_227 ?_
    refine zv_bipush (pc := 228) (v := 10) C (by decide) dX6_paneOn_228 ?_
    refine zv_bipush (pc := 230) (v := 30) C (by decide) dX6_paneOn_230 ?_
    refine zv_bipush (pc := 232) (v := 29) C (by decide) dX6_paneOn_232 ?_
    refine zv_cv0 (pc := 234) (ws' := (fun uz : zMem => (zd_X6_paneOn cI adM qM1 qM2 qM3 qM4 qM5 qM6 qM7 qM8 qM12 qM13 qM15 qM16 qM17 qM18 qM19 qM20 qM21 uz))) C (zv_runV (As := [.int (10 : Int32), .int (30 : Int32), .int (29 : Int32)]) (b := adM) (rest := []) (ci := 5) (q0 := 0) C (zc_X6_times l G cI adM qM1 qM2 qM3 qM4 qM5 qM6 qM7 qM8 qM12 qM13 qM15 qM16 qM17 qM18 qM19 qM20 qM21 T_27 (10 : Int32) (30 : Int32) (29 : Int32) _ hF) (cwV 3 C.2.2.2.2.1 gX6_paneOn_X6_times rfl rfl rfl zy_X6_times ⟨Nat.le_of_ble_eq_true rfl, Nat.le_of_ble_eq_true rfl⟩) rfl rfl rfl rfl rfl (Nat.le_of_ble_eq_true rfl) ⟨Nat.zero_le _, Nat.zero_le _⟩ dX6_paneOn_234) [0, 1, 2, 3, 4, 5, 6, 7, 8, 9, 10, 11, 12, 13, 14, 15, 16, 17] [] rfl rfl rfl rfl rfl (fun _ => rfl) (fun _ => rfl) (fun _ => rfl) (fun uz hF => ?_)
    obtain ⟨T_28, hE⟩ : ∃ z, z = uz := ⟨_, rfl⟩; subst hE
    refine zv_aload_n (pc := 237) C rfl 4 rfl dX6_paneOn_237 ?_
    refine zv_bipush (pc := 238) (v := 10) C (by decide) dX6_paneOn_238 ?_
    refine zv_lload (pc := 240) C 1 rfl dX6_paneOn_240 ?_
    refine zv_lload (pc := 242) C 2 rfl dX6_paneOn_242 ?_
    refine zv_lmul (pc := 244) C  dX6_paneOn_244 ?_
    refine zv_cv0 (pc := 245) (ws' := (fun uz : zMem => (zd_X6_paneOn cI adM qM1 qM2 qM3 qM4 qM5 qM6 qM7 qM8 qM12 qM13 qM15 qM16 qM17 qM18 qM19 qM20 qM21 uz))) C (zv_runV (As := [.int (10 : Int32), .long (x6_6 * x4_4)]) (b := adM) (rest := []) (ci := 5) (q0 := 0) C (zc_X6_by l G cI adM qM1 qM2 qM3 qM4 qM5 qM6 qM7 qM8 qM12 qM13 qM15 qM16 qM17 qM18 qM19 qM20 qM21 T_28 (10 : Int32) (x6_6 * x4_4) _ hF) (cwV 2 C.2.2.2.2.1 gX6_paneOn_X6_by rfl rfl rfl zy_X6_by ⟨Nat.le_of_ble_eq_true rfl, Nat.le_of_ble_eq_true rfl⟩) rfl rfl rfl rfl rfl (Nat.le_of_ble_eq_true rfl) ⟨Nat.zero_le _, Nat.zero_le _⟩ dX6_paneOn_245) [0, 1, 2, 3, 4, 5, 6, 7, 8, 9, 10, 11, 12, 13, 14, 15, 16, 17] [] rfl rfl rfl rfl rfl (fun _ => rfl) (fun _ => rfl) (fun _ => rfl) (fun uz hF => ?_)
    obtain ⟨T_29, hE⟩ : ∃ z, z = uz := ⟨_, rfl⟩; subst hE
    refine zv_aload_n (pc := 248) C rfl 4 rfl dX6_paneOn_248 ?_
    refine zv_bipush (pc := 249) (v := 11) C (by decide) dX6_paneOn_249 ?_
    refine zv_bipush (pc := 251) (v := 31) C (by decide) dX6_paneOn_251 ?_
    refine zv_bipush (pc := 253) (v := 32) C (by decide) dX6_paneOn_253 ?_
    refine zv_cv0 (pc := 255) (ws' := (fun uz : zMem => (zd_X6_paneOn cI adM qM1 qM2 qM3 qM4 qM5 qM6 qM7 qM8 qM12 qM13 qM15 qM16 qM17 qM18 qM19 qM20 qM21 uz))) C (zv_runV (As := [.int (11 : Int32), .int (31 : Int32), .int (32 : Int32)]) (b := adM) (rest := []) (ci := 5) (q0 := 0) C (zc_X6_times l G cI adM qM1 qM2 qM3 qM4 qM5 qM6 qM7 qM8 qM12 qM13 qM15 qM16 qM17 qM18 qM19 qM20 qM21 T_29 (11 : Int32) (31 : Int32) (32 : Int32) _ hF) (cwV 3 C.2.2.2.2.1 gX6_paneOn_X6_times rfl rfl rfl zy_X6_times ⟨Nat.le_of_ble_eq_true rfl, Nat.le_of_ble_eq_true rfl⟩) rfl rfl rfl rfl rfl (Nat.le_of_ble_eq_true rfl) ⟨Nat.zero_le _, Nat.zero_le _⟩ dX6_paneOn_255) [0, 1, 2, 3, 4, 5, 6, 7, 8, 9, 10, 11, 12, 13, 14, 15, 16, 17] [] rfl rfl rfl rfl rfl (fun _ => rfl) (fun _ => rfl) (fun _ => rfl) (fun uz hF => ?_)
    obtain ⟨T_30, hE⟩ : ∃ z, z = uz := ⟨_, rfl⟩; subst hE
    refine zv_aload_n (pc := 258) C rfl 4 rfl dX6_paneOn_258 ?_
    refine zv_bipush (pc := 259) (v := 11) C (by decide) dX6_paneOn_259 ?_
    refine zv_lload (pc := 261) C 0 rfl dX6_paneOn_261 ?_
    refine zv_cv0 (pc := 263) (ws' := (fun uz : zMem => (zd_X6_paneOn cI adM qM1 qM2 qM3 qM4 qM5 qM6 qM7 qM8 qM12 qM13 qM15 qM16 qM17 qM18 qM19 qM20 qM21 uz))) C (zv_runV (As := [.int (11 : Int32), .long x8_8]) (b := adM) (rest := []) (ci := 5) (q0 := 0) C (zc_X6_by l G cI adM qM1 qM2 qM3 qM4 qM5 qM6 qM7 qM8 qM12 qM13 qM15 qM16 qM17 qM18 qM19 qM20 qM21 T_30 (11 : Int32) x8_8 _ hF) (cwV 2 C.2.2.2.2.1 gX6_paneOn_X6_by rfl rfl rfl zy_X6_by ⟨Nat.le_of_ble_eq_true rfl, Nat.le_of_ble_eq_true rfl⟩) rfl rfl rfl rfl rfl (Nat.le_of_ble_eq_true rfl) ⟨Nat.zero_le _, Nat.zero_le _⟩ dX6_paneOn_263) [0, 1, 2, 3, 4, 5, 6, 7, 8, 9, 10, 11, 12, 13, 14, 15, 16, 17] [] rfl rfl rfl rfl rfl (fun _ => rfl) (fun _ => rfl) (fun _ => rfl) (fun uz hF => ?_)
    obtain ⟨T_31, hE⟩ : ∃ z, z = uz := ⟨_, rfl⟩; subst hE
    refine zv_aload_n (pc := 266) C rfl 4 rfl dX6_paneOn_266 ?_
    refine zv_bipush (pc := 267) (v := 30) C (by decide) dX6_paneOn_267 ?_
    refine zv_bipush (pc := 269) (v := 10) C (by decide) dX6_paneOn_269 ?_
    refine zv_cv0 (pc := 271) (ws' := (fun uz : zMem => (zd_X6_paneOn cI adM qM1 qM2 qM3 qM4 qM5 qM6 qM7 qM8 qM12 qM13 qM15 qM16 qM17 qM18 qM19 qM20 qM21 uz))) C (zv_runV (As := [.int (30 : Int32), .int (10 : Int32)]) (b := adM) (rest := []) (ci := 5) (q0 := 0) C (zc_X6_copy l G cI adM qM1 qM2 qM3 qM4 qM5 qM6 qM7 qM8 qM12 qM13 qM15 qM16 qM17 qM18 qM19 qM20 qM21 T_31 (30 : Int32) (10 : Int32) _ hF) (cwV 2 C.2.2.2.2.1 gX6_paneOn_X6_copy rfl rfl rfl zy_X6_copy ⟨Nat.le_of_ble_eq_true rfl, Nat.le_of_ble_eq_true rfl⟩) rfl rfl rfl rfl rfl (Nat.le_of_ble_eq_true rfl) ⟨Nat.zero_le _, Nat.zero_le _⟩ dX6_paneOn_271) [0, 1, 2, 3, 4, 5, 6, 7, 8, 9, 10, 11, 12, 13, 14, 15, 16, 17] [] rfl rfl rfl rfl rfl (fun _ => rfl) (fun _ => rfl) (fun _ => rfl) (fun uz hF => ?_)
    obtain ⟨T_32, hE⟩ : ∃ z, z = uz := ⟨_, rfl⟩; subst hE
    refine zv_aload_n (pc := 274) C rfl 4 rfl dX6_paneOn_274 ?_
    refine zv_bipush (pc := 275) (v := 31) C (by decide) dX6_paneOn_275 ?_
    refine zv_bipush (pc := 277) (v := 11) C (by decide) dX6_paneOn_277 ?_
    refine zv_cv0 (pc := 279) (ws' := (fun uz : zMem => (zd_X6_paneOn cI adM qM1 qM2 qM3 qM4 qM5 qM6 qM7 qM8 qM12 qM13 qM15 qM16 qM17 qM18 qM19 qM20 qM21 uz))) C (zv_runV (As := [.int (31 : Int32), .int (11 : Int32)]) (b := adM) (rest := []) (ci := 5) (q0 := 0) C (zc_X6_copy l G cI adM qM1 qM2 qM3 qM4 qM5 qM6 qM7 qM8 qM12 qM13 qM15 qM16 qM17 qM18 qM19 qM20 qM21 T_32 (31 : Int32) (11 : Int32) _ hF) (cwV 2 C.2.2.2.2.1 gX6_paneOn_X6_copy rfl rfl rfl zy_X6_copy ⟨Nat.le_of_ble_eq_true rfl, Nat.le_of_ble_eq_true rfl⟩) rfl rfl rfl rfl rfl (Nat.le_of_ble_eq_true rfl) ⟨Nat.zero_le _, Nat.zero_le _⟩ dX6_paneOn_279) [0, 1, 2, 3, 4, 5, 6, 7, 8, 9, 10, 11, 12, 13, 14, 15, 16, 17] [] rfl rfl rfl rfl rfl (fun _ => rfl) (fun _ => rfl) (fun _ => rfl) (fun uz hF => ?_)
    obtain ⟨T_33, hE⟩ : ∃ z, z = uz := ⟨_, rfl⟩; subst hE
    refine zv_aload_n (pc := 282) C rfl 4 rfl dX6_paneOn_282 ?_
    refine zv_bipush (pc := 283) (v := 30) C (by decide) dX6_paneOn_283 ?_
    refine zv_bipush (pc := 285) (v := 31) C (by decide) dX6_paneOn_285 ?_
    refine zv_cv0 (pc := 287) (ws' := (fun uz : zMem => (zd_X6_paneOn cI adM qM1 qM2 qM3 qM4 qM5 qM6 qM7 qM8 qM12 qM13 qM15 qM16 qM17 qM18 qM19 qM20 qM21 uz))) C (zv_runV (As := [.int (30 : Int32), .int (31 : Int32)]) (b := adM) (rest := []) (ci := 5) (q0 := 0) C (zc_X6_shorten l G cI adM qM1 qM2 qM3 qM4 qM5 qM6 qM7 qM8 qM12 qM13 qM15 qM16 qM17 qM18 qM19 qM20 qM21 T_33 (30 : Int32) (31 : Int32) _ hF) (cwV 2 C.2.2.2.2.1 gX6_paneOn_X6_shorten rfl rfl rfl zy_X6_shorten ⟨Nat.le_of_ble_eq_true rfl, Nat.le_of_ble_eq_true rfl⟩) rfl rfl rfl rfl rfl (Nat.le_of_ble_eq_true rfl) ⟨Nat.zero_le _, Nat.zero_le _⟩ dX6_paneOn_287) [0, 1, 2, 3, 4, 5, 6, 7, 8, 9, 10, 11, 12, 13, 14, 15, 16, 17] [] rfl rfl rfl rfl rfl (fun _ => rfl) (fun _ => rfl) (fun _ => rfl) (fun uz hF => ?_)
    obtain ⟨T_34, hE⟩ : ∃ z, z = uz := ⟨_, rfl⟩; subst hE
    refine zv_aload_n (pc := 290) C rfl 4 rfl dX6_paneOn_290 ?_
    refine zv_bipush (pc := 291) (v := 10) C (by decide) dX6_paneOn_291 ?_
    refine zv_bipush (pc := 293) (v := 28) C (by decide) dX6_paneOn_293 ?_
    refine zv_cv0 (pc := 295) (ws' := (fun uz : zMem => (zd_X6_paneOn cI adM qM1 qM2 qM3 qM4 qM5 qM6 qM7 qM8 qM12 qM13 qM15 qM16 qM17 qM18 qM19 qM20 qM21 uz))) C (zv_runV (As := [.int (10 : Int32), .int (28 : Int32)]) (b := adM) (rest := []) (ci := 5) (q0 := 0) C (zc_X6_copy l G cI adM qM1 qM2 qM3 qM4 qM5 qM6 qM7 qM8 qM12 qM13 qM15 qM16 qM17 qM18 qM19 qM20 qM21 T_34 (10 : Int32) (28 : Int32) _ hF) (cwV 2 C.2.2.2.2.1 gX6_paneOn_X6_copy rfl rfl rfl zy_X6_copy ⟨Nat.le_of_ble_eq_true rfl, Nat.le_of_ble_eq_true rfl⟩) rfl rfl rfl rfl rfl (Nat.le_of_ble_eq_true rfl) ⟨Nat.zero_le _, Nat.zero_le _⟩ dX6_paneOn_295) [0, 1, 2, 3, 4, 5, 6, 7, 8, 9, 10, 11, 12, 13, 14, 15, 16, 17] [] rfl rfl rfl rfl rfl (fun _ => rfl) (fun _ => rfl) (fun _ => rfl) (fun uz hF => ?_)
    obtain ⟨T_35, hE⟩ : ∃ z, z = uz := ⟨_, rfl⟩; subst hE
    refine zv_aload_n (pc := 298) C rfl 4 rfl dX6_paneOn_298 ?_
    refine zv_bipush (pc := 299) (v := 10) C (by decide) dX6_paneOn_299 ?_
    refine zv_lload (pc := 301) C 1 rfl dX6_paneOn_301 ?_
    refine zv_lload (pc := 303) C 1 rfl dX6_paneOn_303 ?_
    refine zv_lmul (pc := 305) C  dX6_paneOn_305 ?_
    refine zv_lload (pc := 306) C 2 rfl dX6_paneOn_306 ?_
    refine zv_lmul (pc := 308) C  dX6_paneOn_308 ?_
    refine zv_lload (pc := 309) C 2 rfl dX6_paneOn_309 ?_
    refine zv_lmul (pc := 311) C  dX6_paneOn_311 ?_
    refine zv_cv0 (pc := 312) (ws' := (fun uz : zMem => (zd_X6_paneOn cI adM qM1 qM2 qM3 qM4 qM5 qM6 qM7 qM8 qM12 qM13 qM15 qM16 qM17 qM18 qM19 qM20 qM21 uz))) C (zv_runV (As := [.int (10 : Int32), .long (((x6_6 * x6_6) * x4_4) * x4_4)]) (b := adM) (rest := []) (ci := 5) (q0 := 0) C (zc_X6_by l G cI adM qM1 qM2 qM3 qM4 qM5 qM6 qM7 qM8 qM12 qM13 qM15 qM16 qM17 qM18 qM19 qM20 qM21 T_35 (10 : Int32) (((x6_6 * x6_6) * x4_4) * x4_4) _ hF) (cwV 2 C.2.2.2.2.1 gX6_paneOn_X6_by rfl rfl rfl zy_X6_by ⟨Nat.le_of_ble_eq_true rfl, Nat.le_of_ble_eq_true rfl⟩) rfl rfl rfl rfl rfl (Nat.le_of_ble_eq_true rfl) ⟨Nat.zero_le _, Nat.zero_le _⟩ dX6_paneOn_312) [0, 1, 2, 3, 4, 5, 6, 7, 8, 9, 10, 11, 12, 13, 14, 15, 16, 17] [] rfl rfl rfl rfl rfl (fun _ => rfl) (fun _ => rfl) (fun _ => rfl) (fun uz hF => ?_)
    obtain ⟨T_36, hE⟩ : ∃ z, z = uz := ⟨_, rfl⟩; subst hE
    refine zv_aload_n (pc := 315) C rfl 4 rfl dX6_paneOn_315 ?_
    refine zv_bipush (pc := 316) (v := 11) C (by decide) dX6_paneOn_316 ?_
    refine zv_bipush (pc := 318) (v := 32) C (by decide) dX6_paneOn_318 ?_
    refine zv_cv0 (pc := 320) (ws' := (fun uz : zMem => (zd_X6_paneOn cI adM qM1 qM2 qM3 qM4 qM5 qM6 qM7 qM8 qM12 qM13 qM15 qM16 qM17 qM18 qM19 qM20 qM21 uz))) C (zv_runV (As := [.int (11 : Int32), .int (32 : Int32)]) (b := adM) (rest := []) (ci := 5) (q0 := 0) C (zc_X6_copy l G cI adM qM1 qM2 qM3 qM4 qM5 qM6 qM7 qM8 qM12 qM13 qM15 qM16 qM17 qM18 qM19 qM20 qM21 T_36 (11 : Int32) (32 : Int32) _ hF) (cwV 2 C.2.2.2.2.1 gX6_paneOn_X6_copy rfl rfl rfl zy_X6_copy ⟨Nat.le_of_ble_eq_true rfl, Nat.le_of_ble_eq_true rfl⟩) rfl rfl rfl rfl rfl (Nat.le_of_ble_eq_true rfl) ⟨Nat.zero_le _, Nat.zero_le _⟩ dX6_paneOn_320) [0, 1, 2, 3, 4, 5, 6, 7, 8, 9, 10, 11, 12, 13, 14, 15, 16, 17] [] rfl rfl rfl rfl rfl (fun _ => rfl) (fun _ => rfl) (fun _ => rfl) (fun uz hF => ?_)
    obtain ⟨T_37, hE⟩ : ∃ z, z = uz := ⟨_, rfl⟩; subst hE
    refine zv_aload_n (pc := 323) C rfl 4 rfl dX6_paneOn_323 ?_
    refine zv_bipush (pc := 324) (v := 11) C (by decide) dX6_paneOn_324 ?_
    refine zv_lload_n (pc := 326) C rfl 3 rfl dX6_paneOn_326 ?_
    refine zv_lload (pc := 327) C 0 rfl dX6_paneOn_327 ?_
    refine zv_lmul (pc := 329) C  dX6_paneOn_329 ?_
    refine zv_lload (pc := 330) C 0 rfl dX6_paneOn_330 ?_
    refine zv_lmul (pc := 332) C  dX6_paneOn_332 ?_
    refine zv_cv0 (pc := 333) (ws' := (fun uz : zMem => (zd_X6_paneOn cI adM qM1 qM2 qM3 qM4 qM5 qM6 qM7 qM8 qM12 qM13 qM15 qM16 qM17 qM18 qM19 qM20 qM21 uz))) C (zv_runV (As := [.int (11 : Int32), .long ((x2_2 * x8_8) * x8_8)]) (b := adM) (rest := []) (ci := 5) (q0 := 0) C (zc_X6_by l G cI adM qM1 qM2 qM3 qM4 qM5 qM6 qM7 qM8 qM12 qM13 qM15 qM16 qM17 qM18 qM19 qM20 qM21 T_37 (11 : Int32) ((x2_2 * x8_8) * x8_8) _ hF) (cwV 2 C.2.2.2.2.1 gX6_paneOn_X6_by rfl rfl rfl zy_X6_by ⟨Nat.le_of_ble_eq_true rfl, Nat.le_of_ble_eq_true rfl⟩) rfl rfl rfl rfl rfl (Nat.le_of_ble_eq_true rfl) ⟨Nat.zero_le _, Nat.zero_le _⟩ dX6_paneOn_333) [0, 1, 2, 3, 4, 5, 6, 7, 8, 9, 10, 11, 12, 13, 14, 15, 16, 17] [] rfl rfl rfl rfl rfl (fun _ => rfl) (fun _ => rfl) (fun _ => rfl) (fun uz hF => ?_)
    obtain ⟨T_38, hE⟩ : ∃ z, z = uz := ⟨_, rfl⟩; subst hE
    refine zv_aload_n (pc := 336) C rfl 4 rfl dX6_paneOn_336 ?_
    refine zv_bipush (pc := 337) (v := 28) C (by decide) dX6_paneOn_337 ?_
    refine zv_bipush (pc := 339) (v := 10) C (by decide) dX6_paneOn_339 ?_
    refine zv_bipush (pc := 341) (v := 11) C (by decide) dX6_paneOn_341 ?_
    refine zv_cv0 (pc := 343) (ws' := (fun uz : zMem => (zd_X6_paneOn cI adM qM1 qM2 qM3 qM4 qM5 qM6 qM7 qM8 qM12 qM13 qM15 qM16 qM17 qM18 qM19 qM20 qM21 uz))) C (zv_runV (As := [.int (28 : Int32), .int (10 : Int32), .int (11 : Int32)]) (b := adM) (rest := []) (ci := 5) (q0 := 0) C (zc_X6_plus l G cI adM qM1 qM2 qM3 qM4 qM5 qM6 qM7 qM8 qM12 qM13 qM15 qM16 qM17 qM18 qM19 qM20 qM21 T_38 (28 : Int32) (10 : Int32) (11 : Int32) _ hF) (cwV 3 C.2.2.2.2.1 gX6_paneOn_X6_plus rfl rfl rfl zy_X6_plus ⟨Nat.le_of_ble_eq_true rfl, Nat.le_of_ble_eq_true rfl⟩) rfl rfl rfl rfl rfl (Nat.le_of_ble_eq_true rfl) ⟨Nat.zero_le _, Nat.zero_le _⟩ dX6_paneOn_343) [0, 1, 2, 3, 4, 5, 6, 7, 8, 9, 10, 11, 12, 13, 14, 15, 16, 17] [] rfl rfl rfl rfl rfl (fun _ => rfl) (fun _ => rfl) (fun _ => rfl) (fun uz hF => ?_)
    obtain ⟨T_39, hE⟩ : ∃ z, z = uz := ⟨_, rfl⟩; subst hE
    refine zv_aload_n (pc := 346) C rfl 4 rfl dX6_paneOn_346 ?_
    refine zv_bipush (pc := 347) (v := 29) C (by decide) dX6_paneOn_347 ?_
    refine zv_bipush (pc := 349) (v := 32) C (by decide) dX6_paneOn_349 ?_
    refine zv_cv0 (pc := 351) (ws' := (fun uz : zMem => (zd_X6_paneOn cI adM qM1 qM2 qM3 qM4 qM5 qM6 qM7 qM8 qM12 qM13 qM15 qM16 qM17 qM18 qM19 qM20 qM21 uz))) C (zv_runV (As := [.int (29 : Int32), .int (32 : Int32)]) (b := adM) (rest := []) (ci := 5) (q0 := 0) C (zc_X6_copy l G cI adM qM1 qM2 qM3 qM4 qM5 qM6 qM7 qM8 qM12 qM13 qM15 qM16 qM17 qM18 qM19 qM20 qM21 T_39 (29 : Int32) (32 : Int32) _ hF) (cwV 2 C.2.2.2.2.1 gX6_paneOn_X6_copy rfl rfl rfl zy_X6_copy ⟨Nat.le_of_ble_eq_true rfl, Nat.le_of_ble_eq_true rfl⟩) rfl rfl rfl rfl rfl (Nat.le_of_ble_eq_true rfl) ⟨Nat.zero_le _, Nat.zero_le _⟩ dX6_paneOn_351) [0, 1, 2, 3, 4, 5, 6, 7, 8, 9, 10, 11, 12, 13, 14, 15, 16, 17] [] rfl rfl rfl rfl rfl (fun _ => rfl) (fun _ => rfl) (fun _ => rfl) (fun uz hF => ?_)
    obtain ⟨T_40, hE⟩ : ∃ z, z = uz := ⟨_, rfl⟩; subst hE
    refine zv_aload_n (pc := 354) C rfl 4 rfl dX6_paneOn_354 ?_
    refine zv_bipush (pc := 355) (v := 29) C (by decide) dX6_paneOn_355 ?_
    refine zv_lload (pc := 357) C 2 rfl dX6_paneOn_357 ?_
    refine zv_lload (pc := 359) C 0 rfl dX6_paneOn_359 ?_
    refine zv_lmul (pc := 361) C  dX6_paneOn_361 ?_
    refine zv_lload (pc := 362) C 0 rfl dX6_paneOn_362 ?_
    refine zv_lmul (pc := 364) C  dX6_paneOn_364 ?_
    refine zv_cv0 (pc := 365) (ws' := (fun uz : zMem => (zd_X6_paneOn cI adM qM1 qM2 qM3 qM4 qM5 qM6 qM7 qM8 qM12 qM13 qM15 qM16 qM17 qM18 qM19 qM20 qM21 uz))) C (zv_runV (As := [.int (29 : Int32), .long ((x4_4 * x8_8) * x8_8)]) (b := adM) (rest := []) (ci := 5) (q0 := 0) C (zc_X6_by l G cI adM qM1 qM2 qM3 qM4 qM5 qM6 qM7 qM8 qM12 qM13 qM15 qM16 qM17 qM18 qM19 qM20 qM21 T_40 (29 : Int32) ((x4_4 * x8_8) * x8_8) _ hF) (cwV 2 C.2.2.2.2.1 gX6_paneOn_X6_by rfl rfl rfl zy_X6_by ⟨Nat.le_of_ble_eq_true rfl, Nat.le_of_ble_eq_true rfl⟩) rfl rfl rfl rfl rfl (Nat.le_of_ble_eq_true rfl) ⟨Nat.zero_le _, Nat.zero_le _⟩ dX6_paneOn_365) [0, 1, 2, 3, 4, 5, 6, 7, 8, 9, 10, 11, 12, 13, 14, 15, 16, 17] [] rfl rfl rfl rfl rfl (fun _ => rfl) (fun _ => rfl) (fun _ => rfl) (fun uz hF => ?_)
    obtain ⟨T_41, hE⟩ : ∃ z, z = uz := ⟨_, rfl⟩; subst hE
    refine zv_aload_n (pc := 368) C rfl 4 rfl dX6_paneOn_368 ?_
    refine zv_bipush (pc := 369) (v := 28) C (by decide) dX6_paneOn_369 ?_
    refine zv_bipush (pc := 371) (v := 29) C (by decide) dX6_paneOn_371 ?_
    refine zv_cv0 (pc := 373) (ws' := (fun uz : zMem => (zd_X6_paneOn cI adM qM1 qM2 qM3 qM4 qM5 qM6 qM7 qM8 qM12 qM13 qM15 qM16 qM17 qM18 qM19 qM20 qM21 uz))) C (zv_runV (As := [.int (28 : Int32), .int (29 : Int32)]) (b := adM) (rest := []) (ci := 5) (q0 := 0) C (zc_X6_shorten l G cI adM qM1 qM2 qM3 qM4 qM5 qM6 qM7 qM8 qM12 qM13 qM15 qM16 qM17 qM18 qM19 qM20 qM21 T_41 (28 : Int32) (29 : Int32) _ hF) (cwV 2 C.2.2.2.2.1 gX6_paneOn_X6_shorten rfl rfl rfl zy_X6_shorten ⟨Nat.le_of_ble_eq_true rfl, Nat.le_of_ble_eq_true rfl⟩) rfl rfl rfl rfl rfl (Nat.le_of_ble_eq_true rfl) ⟨Nat.zero_le _, Nat.zero_le _⟩ dX6_paneOn_373) [0, 1, 2, 3, 4, 5, 6, 7, 8, 9, 10, 11, 12, 13, 14, 15, 16, 17] [] rfl rfl rfl rfl rfl (fun _ => rfl) (fun _ => rfl) (fun _ => rfl) (fun uz hF => ?_)
    obtain ⟨T_42, hE⟩ : ∃ z, z = uz := ⟨_, rfl⟩; subst hE
    exact zv_vret (pc := 376) C hr hlk T_42 hF rfl dX6_paneOn_376
  · replace hF := And.right hF c_15
    refine zv_aload_n (pc := 86) C rfl 4 rfl dX6_paneOn_86 ?_
    refine zv_bipush (pc := 87) (v := 28) C (by decide) dX6_paneOn_87 ?_
    refine zv_lload_n (pc := 89) C rfl 3 rfl dX6_paneOn_89 ?_
    refine zv_cv0 (pc := 90) (ws' := (fun uz : zMem => (zd_X6_paneOn cI adM qM1 qM2 qM3 qM4 qM5 qM6 qM7 qM8 qM12 qM13 qM15 qM16 qM17 qM18 qM19 qM20 qM21 uz))) C (zv_runV (As := [.int (28 : Int32), .long x2_2]) (b := adM) (rest := []) (ci := 5) (q0 := 0) C (zc_X6_set l G cI adM qM1 qM2 qM3 qM4 qM5 qM6 qM7 qM8 qM12 qM13 qM15 qM16 qM17 qM18 qM19 qM20 qM21 T_13 (28 : Int32) x2_2 _ hF) (cwV 2 C.2.2.2.2.1 gX6_paneOn_X6_set rfl rfl rfl zy_X6_set ⟨Nat.le_of_ble_eq_true rfl, Nat.le_of_ble_eq_true rfl⟩) rfl rfl rfl rfl rfl (Nat.le_of_ble_eq_true rfl) ⟨Nat.zero_le _, Nat.zero_le _⟩ dX6_paneOn_90) [0, 1, 2, 3, 4, 5, 6, 7, 8, 9, 10, 11, 12, 13, 14, 15, 16, 17] [] rfl rfl rfl rfl rfl (fun _ => rfl) (fun _ => rfl) (fun _ => rfl) (fun uz hF => ?_)
    obtain ⟨T_43, hE⟩ : ∃ z, z = uz := ⟨_, rfl⟩; subst hE
    refine zv_aload_n (pc := 93) C rfl 4 rfl dX6_paneOn_93 ?_
    refine zv_bipush (pc := 94) (v := 29) C (by decide) dX6_paneOn_94 ?_
    refine zv_lload (pc := 96) C 2 rfl dX6_paneOn_96 ?_
    refine zv_cv0 (pc := 98) (ws' := (fun uz : zMem => (zd_X6_paneOn cI adM qM1 qM2 qM3 qM4 qM5 qM6 qM7 qM8 qM12 qM13 qM15 qM16 qM17 qM18 qM19 qM20 qM21 uz))) C (zv_runV (As := [.int (29 : Int32), .long x4_4]) (b := adM) (rest := []) (ci := 5) (q0 := 0) C (zc_X6_set l G cI adM qM1 qM2 qM3 qM4 qM5 qM6 qM7 qM8 qM12 qM13 qM15 qM16 qM17 qM18 qM19 qM20 qM21 T_43 (29 : Int32) x4_4 _ hF) (cwV 2 C.2.2.2.2.1 gX6_paneOn_X6_set rfl rfl rfl zy_X6_set ⟨Nat.le_of_ble_eq_true rfl, Nat.le_of_ble_eq_true rfl⟩) rfl rfl rfl rfl rfl (Nat.le_of_ble_eq_true rfl) ⟨Nat.zero_le _, Nat.zero_le _⟩ dX6_paneOn_98) [0, 1, 2, 3, 4, 5, 6, 7, 8, 9, 10, 11, 12, 13, 14, 15, 16, 17] [] rfl rfl rfl rfl rfl (fun _ => rfl) (fun _ => rfl) (fun _ => rfl) (fun uz hF => ?_)
    obtain ⟨T_44, hE⟩ : ∃ z, z = uz := ⟨_, rfl⟩; subst hE
    refine zv_aload_n (pc := 101) C rfl 4 rfl dX6_paneOn_101 ?_
    refine zv_bipush (pc := 102) (v := 30) C (by decide) dX6_paneOn_102 ?_
    refine zv_lconst (pc := 104) (v := 0) C (by decide) dX6_paneOn_104 ?_
    refine zv_cv0 (pc := 105) (ws' := (fun uz : zMem => (zd_X6_paneOn cI adM qM1 qM2 qM3 qM4 qM5 qM6 qM7 qM8 qM12 qM13 qM15 qM16 qM17 qM18 qM19 qM20 qM21 uz))) C (zv_runV (As := [.int (30 : Int32), .long (0 : Int64)]) (b := adM) (rest := []) (ci := 5) (q0 := 0) C (zc_X6_set l G cI adM qM1 qM2 qM3 qM4 qM5 qM6 qM7 qM8 qM12 qM13 qM15 qM16 qM17 qM18 qM19 qM20 qM21 T_44 (30 : Int32) (0 : Int64) _ hF) (cwV 2 C.2.2.2.2.1 gX6_paneOn_X6_set rfl rfl rfl zy_X6_set ⟨Nat.le_of_ble_eq_true rfl, Nat.le_of_ble_eq_true rfl⟩) rfl rfl rfl rfl rfl (Nat.le_of_ble_eq_true rfl) ⟨Nat.zero_le _, Nat.zero_le _⟩ dX6_paneOn_105) [0, 1, 2, 3, 4, 5, 6, 7, 8, 9, 10, 11, 12, 13, 14, 15, 16, 17] [] rfl rfl rfl rfl rfl (fun _ => rfl) (fun _ => rfl) (fun _ => rfl) (fun uz hF => ?_)
    obtain ⟨T_45, hE⟩ : ∃ z, z = uz := ⟨_, rfl⟩; subst hE
    refine zv_aload_n (pc := 108) C rfl 4 rfl dX6_paneOn_108 ?_
    refine zv_bipush (pc := 109) (v := 31) C (by decide) dX6_paneOn_109 ?_
    refine zv_lconst (pc := 111) (v := 1) C (by decide) dX6_paneOn_111 ?_
    refine zv_cv0 (pc := 112) (ws' := (fun uz : zMem => (zd_X6_paneOn cI adM qM1 qM2 qM3 qM4 qM5 qM6 qM7 qM8 qM12 qM13 qM15 qM16 qM17 qM18 qM19 qM20 qM21 uz))) C (zv_runV (As := [.int (31 : Int32), .long (1 : Int64)]) (b := adM) (rest := []) (ci := 5) (q0 := 0) C (zc_X6_set l G cI adM qM1 qM2 qM3 qM4 qM5 qM6 qM7 qM8 qM12 qM13 qM15 qM16 qM17 qM18 qM19 qM20 qM21 T_45 (31 : Int32) (1 : Int64) _ hF) (cwV 2 C.2.2.2.2.1 gX6_paneOn_X6_set rfl rfl rfl zy_X6_set ⟨Nat.le_of_ble_eq_true rfl, Nat.le_of_ble_eq_true rfl⟩) rfl rfl rfl rfl rfl (Nat.le_of_ble_eq_true rfl) ⟨Nat.zero_le _, Nat.zero_le _⟩ dX6_paneOn_112) [0, 1, 2, 3, 4, 5, 6, 7, 8, 9, 10, 11, 12, 13, 14, 15, 16, 17] [] rfl rfl rfl rfl rfl (fun _ => rfl) (fun _ => rfl) (fun _ => rfl) (fun uz hF => ?_)
    obtain ⟨T_46, hE⟩ : ∃ z, z = uz := ⟨_, rfl⟩; subst hE
    exact zv_vret (pc := 115) C hr hlk T_46 hF rfl dX6_paneOn_115
theorem zf_X6_shares_189 : Cond.fieldLink RX6 189 "GlassStackModel" "panes" "I" ∈ wsX6_shares := (List.mem_of_getElem? (i := 1) rfl)
theorem zi_X6_shares_X6 : ∀ w ∈ wsX60, w ∈ wsX6_shares := fun w h => List.mem_cons_of_mem _ (List.mem_append_right _ h)
theorem zy_X6_shares : yX6_shares.cls = RX6 ∧ yX6_shares.cls ≠ "java/lang/invoke/MethodHandle" ∧ yX6_shares.cls ≠ "java/lang/invoke/VarHandle" ∧ (parseMethodDescriptor yX6_shares.desc).map (fun d => d.parameters.length) = some 0 := by decide +kernel
set_option maxHeartbeats 4000000 in
set_option maxRecDepth 100000 in
theorem zl_X6_shares_44 {p : Program} {l : Launch} {e : Env} {s : State} {m : MethodId} {args : Array Value} {below : List Frame} {meth : Method} {c : Code} {G : va_G} {cI : ClassId} {A : Nat → Prop} {Q : State → Prop} (adM qM1 qM2 qM3 qM4 qM5 qM6 qM7 qM8 qM12 qM13 qM15 qM16 qM17 qM18 qM19 qM20 qM21 : Nat) (K63 : zMem → Prop) (C : zv_C p s m args c cX6_shares 2 RX6 wsX6_shares G cI A) (hK63 : ∀ (M : zMem), K63 M → zv_V p l e (headSpec wsX6_shares rmX6_shares).room s m args below meth c Q G A 2 0 0 (zd_X6_shares cI adM qM1 qM2 qM3 qM4 qM5 qM6 qM7 qM8 qM12 qM13 qM15 qM16 qM17 qM18 qM19 qM20 qM21 M) 63 [] []) : ∀ (k : Nat) (p1 : Int32) (M : zMem), zw_X6_shares_44 K63 k p1 M → zv_V p l e (headSpec wsX6_shares rmX6_shares).room s m args below meth c Q G A 2 0 0 (zd_X6_shares cI adM qM1 qM2 qM3 qM4 qM5 qM6 qM7 qM8 qM12 qM13 qM15 qM16 qM17 qM18 qM19 qM20 qM21 M) 44 [(0, .ref adM), (1, .int p1)] [] := by
  intro k
  induction k with
  | zero => intro p1 M hF; exact (show False from hF).elim
  | succ k ih =>
    intro p1 M hF
    refine zv_iload_n (pc := 44) C rfl 1 rfl dX6_shares_44 ?_
    refine zv_aload_n (pc := 45) C rfl 0 rfl dX6_shares_45 ?_
    refine zv_get (pc := 46) (CC := RX6) (T := TX6) (N := 22) (ci := 5) (v := .int (M 14 0)) C zi_X6_shares_X6 0 rfl 14 (by decide) zf_X6_shares_189 rfl rfl dX6_shares_46 ?_
    refine zv_icmp_ge (pc := 49) (tgt := 63) C dX6_shares_49 (by decide) (fun c_7 => ?_) (fun c_7 => ?_)
    · replace hF := And.left hF c_7
      exact zv_lvs [] rfl (hK63 M hF)
    · replace hF := And.right hF c_7
      refine zv_aload_n (pc := 52) C rfl 0 rfl dX6_shares_52 ?_
      refine zv_iload_n (pc := 53) C rfl 1 rfl dX6_shares_53 ?_
      refine zv_cv0 (pc := 54) (ws' := (fun uz : zMem => (zd_X6_shares cI adM qM1 qM2 qM3 qM4 qM5 qM6 qM7 qM8 qM12 qM13 qM15 qM16 qM17 qM18 qM19 qM20 qM21 uz))) C (zv_runV (As := [.int p1]) (b := adM) (rest := []) (ci := 5) (q0 := 0) C (zc_X6_paneOn l G cI adM qM1 qM2 qM3 qM4 qM5 qM6 qM7 qM8 qM12 qM13 qM15 qM16 qM17 qM18 qM19 qM20 qM21 M p1 _ hF) (cwV 1 C.2.2.2.2.1 gX6_shares_X6_paneOn rfl rfl rfl zy_X6_paneOn ⟨Nat.le_of_ble_eq_true rfl, Nat.le_of_ble_eq_true rfl⟩) rfl rfl rfl rfl rfl (Nat.le_of_ble_eq_true rfl) ⟨Nat.zero_le _, Nat.zero_le _⟩ dX6_shares_54) [0, 1, 2, 3, 4, 5, 6, 7, 8, 9, 10, 11, 12, 13, 14, 15, 16, 17] [] rfl rfl rfl rfl rfl (fun _ => rfl) (fun _ => rfl) (fun _ => rfl) (fun uz hF => ?_)
      obtain ⟨T_8, hE⟩ : ∃ z, z = uz := ⟨_, rfl⟩; subst hE
      obtain ⟨x1_9, ex1_9⟩ : ∃ y : Int32, y = p1 + (1 : Int32) := ⟨_, rfl⟩
      replace hF := hF x1_9 ex1_9
      refine zv_iinc (pc := 57) (v := x1_9) (lv' := [(1, .int x1_9), (0, .ref adM)]) C 1 rfl (by rw [ex1_9]; rfl) (by decide) rfl dX6_shares_57 ?_
      refine zv_goto (pc := 60) (tgt := 44) C dX6_shares_60 (by decide) ?_
      exact zv_lvs [1, 0] rfl (ih x1_9 T_8 hF)
set_option maxHeartbeats 4000000 in
set_option maxRecDepth 100000 in
theorem zc_X6_shares (l : Launch) (G : va_G) (cI : ClassId) (adM qM1 qM2 qM3 qM4 qM5 qM6 qM7 qM8 qM12 qM13 qM15 qM16 qM17 qM18 qM19 qM20 qM21 : Nat) (M : zMem) (post : zMem → Prop) (hF : zw_X6_shares M post) (sz : Nat) : Met l yX6_shares wsX6_shares rmX6_shares (va_Pc [.ref adM] (zv_in G cI (zd_X6_shares cI adM qM1 qM2 qM3 qM4 qM5 qM6 qM7 qM8 qM12 qM13 qM15 qM16 qM17 qM18 qM19 qM20 qM21 M) sz)) (va_Qv (fun uz : zMem => post uz) (fun (uz : zMem) t => zv_out G cI (va_A (zd_X6_shares cI adM qM1 qM2 qM3 qM4 qM5 qM6 qM7 qM8 qM12 qM13 qM15 qM16 qM17 qM18 qM19 qM20 qM21 M) sz) (zd_X6_shares cI adM qM1 qM2 qM3 qM4 qM5 qM6 qM7 qM8 qM12 qM13 qM15 qM16 qM17 qM18 qM19 qM20 qM21 uz) t) (va_A (zd_X6_shares cI adM qM1 qM2 qM3 qM4 qM5 qM6 qM7 qM8 qM12 qM13 qM15 qM16 qM17 qM18 qM19 qM20 qM21 M) sz)) 0 0 (va_A (zd_X6_shares cI adM qM1 qM2 qM3 qM4 qM5 qM6 qM7 qM8 qM12 qM13 qM15 qM16 qM17 qM18 qM19 qM20 qM21 M) sz) := by
  refine zv_met (cc := cX6_shares) (maxL := 2) (ret := none) (lv0 := [(0, .ref adM)]) (Qc := fun A => va_Qv (fun uz : zMem => post uz) (fun (uz : zMem) t => zv_out G cI A (zd_X6_shares cI adM qM1 qM2 qM3 qM4 qM5 qM6 qM7 qM8 qM12 qM13 qM15 qM16 qM17 qM18 qM19 qM20 qM21 uz) t) A) (by decide) rfl (Nat.le_of_ble_eq_true rfl) rfl ?_ sz
  intro p e s m below meth c A C hr hlk
  clear sz
  refine zv_aload_n (pc := 0) C rfl 0 rfl dX6_shares_0 ?_
  refine zv_bipush (pc := 1) (v := 26) C (by decide) dX6_shares_1 ?_
  refine zv_lconst (pc := 3) (v := 0) C (by decide) dX6_shares_3 ?_
  refine zv_cv0 (pc := 4) (ws' := (fun uz : zMem => (zd_X6_shares cI adM qM1 qM2 qM3 qM4 qM5 qM6 qM7 qM8 qM12 qM13 qM15 qM16 qM17 qM18 qM19 qM20 qM21 uz))) C (zv_runV (As := [.int (26 : Int32), .long (0 : Int64)]) (b := adM) (rest := []) (ci := 5) (q0 := 0) C (zc_X6_set l G cI adM qM1 qM2 qM3 qM4 qM5 qM6 qM7 qM8 qM12 qM13 qM15 qM16 qM17 qM18 qM19 qM20 qM21 M (26 : Int32) (0 : Int64) _ hF) (cwV 2 C.2.2.2.2.1 gX6_shares_X6_set rfl rfl rfl zy_X6_set ⟨Nat.le_of_ble_eq_true rfl, Nat.le_of_ble_eq_true rfl⟩) rfl rfl rfl rfl rfl (Nat.le_of_ble_eq_true rfl) ⟨Nat.zero_le _, Nat.zero_le _⟩ dX6_shares_4) [0, 1, 2, 3, 4, 5, 6, 7, 8, 9, 10, 11, 12, 13, 14, 15, 16, 17] [] rfl rfl rfl rfl rfl (fun _ => rfl) (fun _ => rfl) (fun _ => rfl) (fun uz hF => ?_)
  obtain ⟨T_1, hE⟩ : ∃ z, z = uz := ⟨_, rfl⟩; subst hE
  refine zv_aload_n (pc := 7) C rfl 0 rfl dX6_shares_7 ?_
  refine zv_bipush (pc := 8) (v := 27) C (by decide) dX6_shares_8 ?_
  refine zv_lconst (pc := 10) (v := 1) C (by decide) dX6_shares_10 ?_
  refine zv_cv0 (pc := 11) (ws' := (fun uz : zMem => (zd_X6_shares cI adM qM1 qM2 qM3 qM4 qM5 qM6 qM7 qM8 qM12 qM13 qM15 qM16 qM17 qM18 qM19 qM20 qM21 uz))) C (zv_runV (As := [.int (27 : Int32), .long (1 : Int64)]) (b := adM) (rest := []) (ci := 5) (q0 := 0) C (zc_X6_set l G cI adM qM1 qM2 qM3 qM4 qM5 qM6 qM7 qM8 qM12 qM13 qM15 qM16 qM17 qM18 qM19 qM20 qM21 T_1 (27 : Int32) (1 : Int64) _ hF) (cwV 2 C.2.2.2.2.1 gX6_shares_X6_set rfl rfl rfl zy_X6_set ⟨Nat.le_of_ble_eq_true rfl, Nat.le_of_ble_eq_true rfl⟩) rfl rfl rfl rfl rfl (Nat.le_of_ble_eq_true rfl) ⟨Nat.zero_le _, Nat.zero_le _⟩ dX6_shares_11) [0, 1, 2, 3, 4, 5, 6, 7, 8, 9, 10, 11, 12, 13, 14, 15, 16, 17] [] rfl rfl rfl rfl rfl (fun _ => rfl) (fun _ => rfl) (fun _ => rfl) (fun uz hF => ?_)
  obtain ⟨T_2, hE⟩ : ∃ z, z = uz := ⟨_, rfl⟩; subst hE
  refine zv_aload_n (pc := 14) C rfl 0 rfl dX6_shares_14 ?_
  refine zv_bipush (pc := 15) (v := 28) C (by decide) dX6_shares_15 ?_
  refine zv_lconst (pc := 17) (v := 0) C (by decide) dX6_shares_17 ?_
  refine zv_cv0 (pc := 18) (ws' := (fun uz : zMem => (zd_X6_shares cI adM qM1 qM2 qM3 qM4 qM5 qM6 qM7 qM8 qM12 qM13 qM15 qM16 qM17 qM18 qM19 qM20 qM21 uz))) C (zv_runV (As := [.int (28 : Int32), .long (0 : Int64)]) (b := adM) (rest := []) (ci := 5) (q0 := 0) C (zc_X6_set l G cI adM qM1 qM2 qM3 qM4 qM5 qM6 qM7 qM8 qM12 qM13 qM15 qM16 qM17 qM18 qM19 qM20 qM21 T_2 (28 : Int32) (0 : Int64) _ hF) (cwV 2 C.2.2.2.2.1 gX6_shares_X6_set rfl rfl rfl zy_X6_set ⟨Nat.le_of_ble_eq_true rfl, Nat.le_of_ble_eq_true rfl⟩) rfl rfl rfl rfl rfl (Nat.le_of_ble_eq_true rfl) ⟨Nat.zero_le _, Nat.zero_le _⟩ dX6_shares_18) [0, 1, 2, 3, 4, 5, 6, 7, 8, 9, 10, 11, 12, 13, 14, 15, 16, 17] [] rfl rfl rfl rfl rfl (fun _ => rfl) (fun _ => rfl) (fun _ => rfl) (fun uz hF => ?_)
  obtain ⟨T_3, hE⟩ : ∃ z, z = uz := ⟨_, rfl⟩; subst hE
  refine zv_aload_n (pc := 21) C rfl 0 rfl dX6_shares_21 ?_
  refine zv_bipush (pc := 22) (v := 29) C (by decide) dX6_shares_22 ?_
  refine zv_lconst (pc := 24) (v := 1) C (by decide) dX6_shares_24 ?_
  refine zv_cv0 (pc := 25) (ws' := (fun uz : zMem => (zd_X6_shares cI adM qM1 qM2 qM3 qM4 qM5 qM6 qM7 qM8 qM12 qM13 qM15 qM16 qM17 qM18 qM19 qM20 qM21 uz))) C (zv_runV (As := [.int (29 : Int32), .long (1 : Int64)]) (b := adM) (rest := []) (ci := 5) (q0 := 0) C (zc_X6_set l G cI adM qM1 qM2 qM3 qM4 qM5 qM6 qM7 qM8 qM12 qM13 qM15 qM16 qM17 qM18 qM19 qM20 qM21 T_3 (29 : Int32) (1 : Int64) _ hF) (cwV 2 C.2.2.2.2.1 gX6_shares_X6_set rfl rfl rfl zy_X6_set ⟨Nat.le_of_ble_eq_true rfl, Nat.le_of_ble_eq_true rfl⟩) rfl rfl rfl rfl rfl (Nat.le_of_ble_eq_true rfl) ⟨Nat.zero_le _, Nat.zero_le _⟩ dX6_shares_25) [0, 1, 2, 3, 4, 5, 6, 7, 8, 9, 10, 11, 12, 13, 14, 15, 16, 17] [] rfl rfl rfl rfl rfl (fun _ => rfl) (fun _ => rfl) (fun _ => rfl) (fun uz hF => ?_)
  obtain ⟨T_4, hE⟩ : ∃ z, z = uz := ⟨_, rfl⟩; subst hE
  refine zv_aload_n (pc := 28) C rfl 0 rfl dX6_shares_28 ?_
  refine zv_bipush (pc := 29) (v := 30) C (by decide) dX6_shares_29 ?_
  refine zv_lconst (pc := 31) (v := 1) C (by decide) dX6_shares_31 ?_
  refine zv_cv0 (pc := 32) (ws' := (fun uz : zMem => (zd_X6_shares cI adM qM1 qM2 qM3 qM4 qM5 qM6 qM7 qM8 qM12 qM13 qM15 qM16 qM17 qM18 qM19 qM20 qM21 uz))) C (zv_runV (As := [.int (30 : Int32), .long (1 : Int64)]) (b := adM) (rest := []) (ci := 5) (q0 := 0) C (zc_X6_set l G cI adM qM1 qM2 qM3 qM4 qM5 qM6 qM7 qM8 qM12 qM13 qM15 qM16 qM17 qM18 qM19 qM20 qM21 T_4 (30 : Int32) (1 : Int64) _ hF) (cwV 2 C.2.2.2.2.1 gX6_shares_X6_set rfl rfl rfl zy_X6_set ⟨Nat.le_of_ble_eq_true rfl, Nat.le_of_ble_eq_true rfl⟩) rfl rfl rfl rfl rfl (Nat.le_of_ble_eq_true rfl) ⟨Nat.zero_le _, Nat.zero_le _⟩ dX6_shares_32) [0, 1, 2, 3, 4, 5, 6, 7, 8, 9, 10, 11, 12, 13, 14, 15, 16, 17] [] rfl rfl rfl rfl rfl (fun _ => rfl) (fun _ => rfl) (fun _ => rfl) (fun uz hF => ?_)
  obtain ⟨T_5, hE⟩ : ∃ z, z = uz := ⟨_, rfl⟩; subst hE
  refine zv_aload_n (pc := 35) C rfl 0 rfl dX6_shares_35 ?_
  refine zv_bipush (pc := 36) (v := 31) C (by decide) dX6_shares_36 ?_
  refine zv_lconst (pc := 38) (v := 1) C (by decide) dX6_shares_38 ?_
  refine zv_cv0 (pc := 39) (ws' := (fun uz : zMem => (zd_X6_shares cI adM qM1 qM2 qM3 qM4 qM5 qM6 qM7 qM8 qM12 qM13 qM15 qM16 qM17 qM18 qM19 qM20 qM21 uz))) C (zv_runV (As := [.int (31 : Int32), .long (1 : Int64)]) (b := adM) (rest := []) (ci := 5) (q0 := 0) C (zc_X6_set l G cI adM qM1 qM2 qM3 qM4 qM5 qM6 qM7 qM8 qM12 qM13 qM15 qM16 qM17 qM18 qM19 qM20 qM21 T_5 (31 : Int32) (1 : Int64) _ hF) (cwV 2 C.2.2.2.2.1 gX6_shares_X6_set rfl rfl rfl zy_X6_set ⟨Nat.le_of_ble_eq_true rfl, Nat.le_of_ble_eq_true rfl⟩) rfl rfl rfl rfl rfl (Nat.le_of_ble_eq_true rfl) ⟨Nat.zero_le _, Nat.zero_le _⟩ dX6_shares_39) [0, 1, 2, 3, 4, 5, 6, 7, 8, 9, 10, 11, 12, 13, 14, 15, 16, 17] [] rfl rfl rfl rfl rfl (fun _ => rfl) (fun _ => rfl) (fun _ => rfl) (fun uz hF => ?_)
  obtain ⟨T_6, hE⟩ : ∃ z, z = uz := ⟨_, rfl⟩; subst hE
  refine zv_iconst (pc := 42) (v := 0) C (by decide) dX6_shares_42 ?_
  refine zv_istore_n (pc := 43) (lv' := [(1, .int (0 : Int32)), (0, .ref adM)]) C rfl (by decide) rfl dX6_shares_43 ?_
  obtain ⟨kf, hF⟩ := hF
  refine zv_lvs [1, 0] rfl (zl_X6_shares_44 adM qM1 qM2 qM3 qM4 qM5 qM6 qM7 qM8 qM12 qM13 qM15 qM16 qM17 qM18 qM19 qM20 qM21 _ C ?_ kf (0 : Int32) T_6 hF)
  · intro T_10 hF
    exact zv_vret (pc := 63) C hr hlk T_10 hF rfl dX6_shares_63
theorem zf_X6_share_65 : Cond.fieldLink RX6 65 "GlassStackModel" "thrown" "I" ∈ wsX6_share := (List.mem_of_getElem? (i := 1) rfl)
theorem zi_X6_share_X6 : ∀ w ∈ wsX60, w ∈ wsX6_share := fun w h => List.mem_cons_of_mem _ (List.mem_append_right _ h)
theorem zy_X6_share : yX6_share.cls = RX6 ∧ yX6_share.cls ≠ "java/lang/invoke/MethodHandle" ∧ yX6_share.cls ≠ "java/lang/invoke/VarHandle" ∧ (parseMethodDescriptor yX6_share.desc).map (fun d => d.parameters.length) = some 3 := by decide +kernel
set_option maxHeartbeats 4000000 in
set_option maxRecDepth 100000 in
theorem zc_X6_share (l : Launch) (G : va_G) (cI : ClassId) (adM qM1 qM2 qM3 qM4 qM5 qM6 qM7 qM8 qM12 qM13 qM15 qM16 qM17 qM18 qM19 qM20 qM21 : Nat) (M : zMem) (a1 : Int32) (a2 : Int32) (a3 : Int32) (post : Int32 → zMem → Prop) (hF : zw_X6_share M a1 a2 a3 post) (sz : Nat) : Met l yX6_share wsX6_share rmX6_share (va_Pc [.ref adM, .int a1, .int a2, .int a3] (zv_in G cI (zd_X6_share cI adM qM1 qM2 qM3 qM4 qM5 qM6 qM7 qM8 qM12 qM13 qM15 qM16 qM17 qM18 qM19 qM20 qM21 M) sz)) (va_Qi (fun (rz : Int32) (uz : zMem) => post rz uz) (fun (uz : zMem) t => zv_out G cI (va_A (zd_X6_share cI adM qM1 qM2 qM3 qM4 qM5 qM6 qM7 qM8 qM12 qM13 qM15 qM16 qM17 qM18 qM19 qM20 qM21 M) sz) (zd_X6_share cI adM qM1 qM2 qM3 qM4 qM5 qM6 qM7 qM8 qM12 qM13 qM15 qM16 qM17 qM18 qM19 qM20 qM21 uz) t) (va_A (zd_X6_share cI adM qM1 qM2 qM3 qM4 qM5 qM6 qM7 qM8 qM12 qM13 qM15 qM16 qM17 qM18 qM19 qM20 qM21 M) sz)) 0 0 (va_A (zd_X6_share cI adM qM1 qM2 qM3 qM4 qM5 qM6 qM7 qM8 qM12 qM13 qM15 qM16 qM17 qM18 qM19 qM20 qM21 M) sz) := by
  refine zv_met (cc := cX6_share) (maxL := 4) (ret := (some .int)) (lv0 := [(0, .ref adM), (1, .int a1), (2, .int a2), (3, .int a3)]) (Qc := fun A => va_Qi (fun (rz : Int32) (uz : zMem) => post rz uz) (fun (uz : zMem) t => zv_out G cI A (zd_X6_share cI adM qM1 qM2 qM3 qM4 qM5 qM6 qM7 qM8 qM12 qM13 qM15 qM16 qM17 qM18 qM19 qM20 qM21 uz) t) A) (by decide) rfl (Nat.le_of_ble_eq_true rfl) rfl ?_ sz
  intro p e s m below meth c A C hr hlk
  clear sz
  refine zv_aload_n (pc := 0) C rfl 0 rfl dX6_share_0 ?_
  refine zv_iconst (pc := 1) (v := 0) C (by decide) dX6_share_1 ?_
  refine zv_put (pc := 2) (CC := RX6) (T := TX6) (N := 22) (ci := 5) (v := .int (0 : Int32)) (ty := .int) (ws' := (zd_X6_share cI adM qM1 qM2 qM3 qM4 qM5 qM6 qM7 qM8 qM12 qM13 qM15 qM16 qM17 qM18 qM19 qM20 qM21 (zset M 0 (fun _ => (0 : Int32))))) C zi_X6_share_X6 tyX6 tyX6_ok nmX6 0 rfl 0 (by decide) zf_X6_share_65 rfl (by decide +kernel) rfl rfl rfl (Nat.le_of_ble_eq_true rfl) rfl dX6_share_2 ?_
  refine zv_aload_n (pc := 5) C rfl 0 rfl dX6_share_5 ?_
  refine zv_iload_n (pc := 6) C rfl 1 rfl dX6_share_6 ?_
  refine zv_if_lt (pc := 7) (tgt := 26) C dX6_share_7 (by decide) (fun c_1 => ?_) (fun c_1 => ?_)
  · replace hF := And.left hF c_1
    refine zv_iconst (pc := 26) (v := 0) C (by decide) dX6_share_26 ?_
    refine zv_iconst (pc := 27) (v := 1) C (by decide) dX6_share_27 ?_
    refine zv_ci0 (pc := 28) (ws' := (fun uz : zMem => (zd_X6_share cI adM qM1 qM2 qM3 qM4 qM5 qM6 qM7 qM8 qM12 qM13 qM15 qM16 qM17 qM18 qM19 qM20 qM21 uz))) C (zv_runV (As := [.int (0 : Int32), .int (1 : Int32)]) (b := adM) (rest := []) (ci := 5) (q0 := 0) C (zc_X6_right l G cI adM qM1 qM2 qM3 qM4 qM5 qM6 qM7 qM8 qM12 qM13 qM15 qM16 qM17 qM18 qM19 qM20 qM21 (zset M 0 (fun _ => (0 : Int32))) (0 : Int32) (1 : Int32) _ hF) (cwV 2 C.2.2.2.2.1 gX6_share_X6_right rfl rfl rfl zy_X6_right ⟨Nat.le_of_ble_eq_true rfl, Nat.le_of_ble_eq_true rfl⟩) rfl rfl rfl rfl rfl (Nat.le_of_ble_eq_true rfl) ⟨Nat.zero_le _, Nat.zero_le _⟩ dX6_share_28) [0, 1, 2, 3, 4, 5, 6, 7, 8, 9, 10, 11, 12, 13, 14, 15, 16, 17] [] rfl rfl rfl rfl rfl (fun _ => rfl) (fun _ => rfl) (fun _ => rfl) (fun v_3 uz hF => ?_)
    obtain ⟨T_2, hE⟩ : ∃ z, z = uz := ⟨_, rfl⟩; subst hE
    refine zv_if_ne (pc := 31) (tgt := 36) C dX6_share_31 (by decide) (fun c_4 => ?_) (fun c_4 => ?_)
    · replace hF := And.left hF c_4
      refine zv_aload_n (pc := 36) C rfl 0 rfl dX6_share_36 ?_
      refine zv_cv0 (pc := 37) (ws' := (fun uz : zMem => (zd_X6_share cI adM qM1 qM2 qM3 qM4 qM5 qM6 qM7 qM8 qM12 qM13 qM15 qM16 qM17 qM18 qM19 qM20 qM21 uz))) C (zv_runV (As := []) (b := adM) (rest := []) (ci := 5) (q0 := 0) C (zc_X6_shares l G cI adM qM1 qM2 qM3 qM4 qM5 qM6 qM7 qM8 qM12 qM13 qM15 qM16 qM17 qM18 qM19 qM20 qM21 T_2 _ hF) (cwV 0 C.2.2.2.2.1 gX6_share_X6_shares rfl rfl rfl zy_X6_shares ⟨Nat.le_of_ble_eq_true rfl, Nat.le_of_ble_eq_true rfl⟩) rfl rfl rfl rfl rfl (Nat.le_of_ble_eq_true rfl) ⟨Nat.zero_le _, Nat.zero_le _⟩ dX6_share_37) [0, 1, 2, 3, 4, 5, 6, 7, 8, 9, 10, 11, 12, 13, 14, 15, 16, 17] [] rfl rfl rfl rfl rfl (fun _ => rfl) (fun _ => rfl) (fun _ => rfl) (fun uz hF => ?_)
      obtain ⟨T_5, hE⟩ : ∃ z, z = uz := ⟨_, rfl⟩; subst hE
      refine zv_iload_n (pc := 40) C rfl 1 rfl dX6_share_40 ?_
      refine zv_if_ne (pc := 41) (tgt := 55) C dX6_share_41 (by decide) (fun c_6 => ?_) (fun c_6 => ?_)
      · replace hF := And.left hF c_6
        refine zv_iload_n (pc := 55) C rfl 1 rfl dX6_share_55 ?_
        refine zv_iconst (pc := 56) (v := 1) C (by decide) dX6_share_56 ?_
        refine zv_icmp_ne (pc := 57) (tgt := 71) C dX6_share_57 (by decide) (fun c_7 => ?_) (fun c_7 => ?_)
        · replace hF := And.left hF c_7
          refine zv_iload_n (pc := 71) C rfl 1 rfl dX6_share_71 ?_
          refine zv_iconst (pc := 72) (v := 2) C (by decide) dX6_share_72 ?_
          refine zv_icmp_ne (pc := 73) (tgt := 87) C dX6_share_73 (by decide) (fun c_8 => ?_) (fun c_8 => ?_)
          · replace hF := And.left hF c_8
            refine zv_aload_n (pc := 87) C rfl 0 rfl dX6_share_87 ?_
            refine zv_bipush (pc := 88) (v := 36) C (by decide) dX6_share_88 ?_
            refine zv_bipush (pc := 90) (v := 27) C (by decide) dX6_share_90 ?_
            refine zv_bipush (pc := 92) (v := 31) C (by decide) dX6_share_92 ?_
            refine zv_cv0 (pc := 94) (ws' := (fun uz : zMem => (zd_X6_share cI adM qM1 qM2 qM3 qM4 qM5 qM6 qM7 qM8 qM12 qM13 qM15 qM16 qM17 qM18 qM19 qM20 qM21 uz))) C (zv_runV (As := [.int (36 : Int32), .int (27 : Int32), .int (31 : Int32)]) (b := adM) (rest := []) (ci := 5) (q0 := 0) C (zc_X6_times l G cI adM qM1 qM2 qM3 qM4 qM5 qM6 qM7 qM8 qM12 qM13 qM15 qM16 qM17 qM18 qM19 qM20 qM21 T_5 (36 : Int32) (27 : Int32) (31 : Int32) _ hF) (cwV 3 C.2.2.2.2.1 gX6_share_X6_times rfl rfl rfl zy_X6_times ⟨Nat.le_of_ble_eq_true rfl, Nat.le_of_ble_eq_true rfl⟩) rfl rfl rfl rfl rfl (Nat.le_of_ble_eq_true rfl) ⟨Nat.zero_le _, Nat.zero_le _⟩ dX6_share_94) [0, 1, 2, 3, 4, 5, 6, 7, 8, 9, 10, 11, 12, 13, 14, 15, 16, 17] [] rfl rfl rfl rfl rfl (fun _ => rfl) (fun _ => rfl) (fun _ => rfl) (fun uz hF => ?_)
            obtain ⟨T_9, hE⟩ : ∃ z, z = uz := ⟨_, rfl⟩; subst hE
            refine zv_aload_n (pc := 97) C rfl 0 rfl dX6_share_97 ?_
            refine zv_bipush (pc := 98) (v := 10) C (by decide) dX6_share_98 ?_
            refine zv_bipush (pc := 100) (v := 26) C (by decide) dX6_share_100 ?_
            refine zv_bipush (pc := 102) (v := 31) C (by decide) dX6_share_102 ?_
            refine zv_cv0 (pc := 104) (ws' := (fun uz : zMem => (zd_X6_share cI adM qM1 qM2 qM3 qM4 qM5 qM6 qM7 qM8 qM12 qM13 qM15 qM16 qM17 qM18 qM19 qM20 qM21 uz))) C (zv_runV (As := [.int (10 : Int32), .int (26 : Int32), .int (31 : Int32)]) (b := adM) (rest := []) (ci := 5) (q0 := 0) C (zc_X6_times l G cI adM qM1 qM2 qM3 qM4 qM5 qM6 qM7 qM8 qM12 qM13 qM15 qM16 qM17 qM18 qM19 qM20 qM21 T_9 (10 : Int32) (26 : Int32) (31 : Int32) _ hF) (cwV 3 C.2.2.2.2.1 gX6_share_X6_times rfl rfl rfl zy_X6_times ⟨Nat.le_of_ble_eq_true rfl, Nat.le_of_ble_eq_true rfl⟩) rfl rfl rfl rfl rfl (Nat.le_of_ble_eq_true rfl) ⟨Nat.zero_le _, Nat.zero_le _⟩ dX6_share_104) [0, 1, 2, 3, 4, 5, 6, 7, 8, 9, 10, 11, 12, 13, 14, 15, 16, 17] [] rfl rfl rfl rfl rfl (fun _ => rfl) (fun _ => rfl) (fun _ => rfl) (fun uz hF => ?_)
            obtain ⟨T_10, hE⟩ : ∃ z, z = uz := ⟨_, rfl⟩; subst hE
            refine zv_aload_n (pc := 107) C rfl 0 rfl dX6_share_107 ?_
            refine zv_bipush (pc := 108) (v := 35) C (by decide) dX6_share_108 ?_
            refine zv_bipush (pc := 110) (v := 36) C (by decide) dX6_share_110 ?_
            refine zv_bipush (pc := 112) (v := 10) C (by decide) dX6_share_112 ?_
            refine zv_cv0 (pc := 114) (ws' := (fun uz : zMem => (zd_X6_share cI adM qM1 qM2 qM3 qM4 qM5 qM6 qM7 qM8 qM12 qM13 qM15 qM16 qM17 qM18 qM19 qM20 qM21 uz))) C (zv_runV (As := [.int (35 : Int32), .int (36 : Int32), .int (10 : Int32)]) (b := adM) (rest := []) (ci := 5) (q0 := 0) C (zc_X6_minus l G cI adM qM1 qM2 qM3 qM4 qM5 qM6 qM7 qM8 qM12 qM13 qM15 qM16 qM17 qM18 qM19 qM20 qM21 T_10 (35 : Int32) (36 : Int32) (10 : Int32) _ hF) (cwV 3 C.2.2.2.2.1 gX6_share_X6_minus rfl rfl rfl zy_X6_minus ⟨Nat.le_of_ble_eq_true rfl, Nat.le_of_ble_eq_true rfl⟩) rfl rfl rfl rfl rfl (Nat.le_of_ble_eq_true rfl) ⟨Nat.zero_le _, Nat.zero_le _⟩ dX6_share_114) [0, 1, 2, 3, 4, 5, 6, 7, 8, 9, 10, 11, 12, 13, 14, 15, 16, 17] [] rfl rfl rfl rfl rfl (fun _ => rfl) (fun _ => rfl) (fun _ => rfl) (fun uz hF => ?_)
            obtain ⟨T_11, hE⟩ : ∃ z, z = uz := ⟨_, rfl⟩; subst hE
            refine zv_aload_n (pc := 117) C rfl 0 rfl dX6_share_117 ?_
            refine zv_bipush (pc := 118) (v := 10) C (by decide) dX6_share_118 ?_
            refine zv_bipush (pc := 120) (v := 30) C (by decide) dX6_share_120 ?_
            refine zv_bipush (pc := 122) (v := 27) C (by decide) dX6_share_122 ?_
            refine zv_cv0 (pc := 124) (ws' := (fun uz : zMem => (zd_X6_share cI adM qM1 qM2 qM3 qM4 qM5 qM6 qM7 qM8 qM12 qM13 qM15 qM16 qM17 qM18 qM19 qM20 qM21 uz))) C (zv_runV (As := [.int (10 : Int32), .int (30 : Int32), .int (27 : Int32)]) (b := adM) (rest := []) (ci := 5) (q0 := 0) C (zc_X6_times l G cI adM qM1 qM2 qM3 qM4 qM5 qM6 qM7 qM8 qM12 qM13 qM15 qM16 qM17 qM18 qM19 qM20 qM21 T_11 (10 : Int32) (30 : Int32) (27 : Int32) _ hF) (cwV 3 C.2.2.2.2.1 gX6_share_X6_times rfl rfl rfl zy_X6_times ⟨Nat.le_of_ble_eq_true rfl, Nat.le_of_ble_eq_true rfl⟩) rfl rfl rfl rfl rfl (Nat.le_of_ble_eq_true rfl) ⟨Nat.zero_le _, Nat.zero_le _⟩ dX6_share_124) [0, 1, 2, 3, 4, 5, 6, 7, 8, 9, 10, 11, 12, 13, 14, 15, 16, 17] [] rfl rfl rfl rfl rfl (fun _ => rfl) (fun _ => rfl) (fun _ => rfl) (fun uz hF => ?_)
            obtain ⟨T_12, hE⟩ : ∃ z, z = uz := ⟨_, rfl⟩; subst hE
            refine zv_aload_n (pc := 127) C rfl 0 rfl dX6_share_127 ?_
            refine zv_bipush (pc := 128) (v := 35) C (by decide) dX6_share_128 ?_
            refine zv_bipush (pc := 130) (v := 35) C (by decide) dX6_share_130 ?_
            refine zv_bipush (pc := 132) (v := 10) C (by decide) dX6_share_132 ?_
            refine zv_cv0 (pc := 134) (ws' := (fun uz : zMem => (zd_X6_share cI adM qM1 qM2 qM3 qM4 qM5 qM6 qM7 qM8 qM12 qM13 qM15 qM16 qM17 qM18 qM19 qM20 qM21 uz))) C (zv_runV (As := [.int (35 : Int32), .int (35 : Int32), .int (10 : Int32)]) (b := adM) (rest := []) (ci := 5) (q0 := 0) C (zc_X6_minus l G cI adM qM1 qM2 qM3 qM4 qM5 qM6 qM7 qM8 qM12 qM13 qM15 qM16 qM17 qM18 qM19 qM20 qM21 T_12 (35 : Int32) (35 : Int32) (10 : Int32) _ hF) (cwV 3 C.2.2.2.2.1 gX6_share_X6_minus rfl rfl rfl zy_X6_minus ⟨Nat.le_of_ble_eq_true rfl, Nat.le_of_ble_eq_true rfl⟩) rfl rfl rfl rfl rfl (Nat.le_of_ble_eq_true rfl) ⟨Nat.zero_le _, Nat.zero_le _⟩ dX6_share_134) [0, 1, 2, 3, 4, 5, 6, 7, 8, 9, 10, 11, 12, 13, 14, 15, 16, 17] [] rfl rfl rfl rfl rfl (fun _ => rfl) (fun _ => rfl) (fun _ => rfl) (fun uz hF => ?_)
            obtain ⟨T_13, hE⟩ : ∃ z, z = uz := ⟨_, rfl⟩; subst hE
            refine zv_aload_n (pc := 137) C rfl 0 rfl dX6_share_137 ?_
            refine zv_bipush (pc := 138) (v := 35) C (by decide) dX6_share_138 ?_
            refine zv_bipush (pc := 140) (v := 36) C (by decide) dX6_share_140 ?_
            refine zv_iload_n (pc := 142) C rfl 2 rfl dX6_share_142 ?_
            refine zv_iload_n (pc := 143) C rfl 3 rfl dX6_share_143 ?_
            refine zv_ci0 (pc := 144) (ws' := (fun uz : zMem => (zd_X6_share cI adM qM1 qM2 qM3 qM4 qM5 qM6 qM7 qM8 qM12 qM13 qM15 qM16 qM17 qM18 qM19 qM20 qM21 uz))) C (zv_runV (As := [.int (35 : Int32), .int (36 : Int32), .int a2, .int a3]) (b := adM) (rest := []) (ci := 5) (q0 := 0) C (zc_X6_toldPart l G cI adM qM1 qM2 qM3 qM4 qM5 qM6 qM7 qM8 qM12 qM13 qM15 qM16 qM17 qM18 qM19 qM20 qM21 T_13 (35 : Int32) (36 : Int32) a2 a3 _ hF) (cwV 4 C.2.2.2.2.1 gX6_share_X6_toldPart rfl rfl rfl zy_X6_toldPart ⟨Nat.le_of_ble_eq_true rfl, Nat.le_of_ble_eq_true rfl⟩) rfl rfl rfl rfl rfl (Nat.le_of_ble_eq_true rfl) ⟨Nat.zero_le _, Nat.zero_le _⟩ dX6_share_144) [0, 1, 2, 3, 4, 5, 6, 7, 8, 9, 10, 11, 12, 13, 14, 15, 16, 17] [] rfl rfl rfl rfl rfl (fun _ => rfl) (fun _ => rfl) (fun _ => rfl) (fun v_15 uz hF => ?_)
            obtain ⟨T_14, hE⟩ : ∃ z, z = uz := ⟨_, rfl⟩; subst hE
            exact zv_iret (pc := 147) C hr hlk v_15 T_14 hF rfl dX6_share_147
          · replace hF := And.right hF c_8
            refine zv_aload_n (pc := 76) C rfl 0 rfl dX6_share_76 ?_
            refine zv_bipush (pc := 77) (v := 30) C (by decide) dX6_share_77 ?_
            refine zv_bipush (pc := 79) (v := 31) C (by decide) dX6_share_79 ?_
            refine zv_iload_n (pc := 81) C rfl 2 rfl dX6_share_81 ?_
            refine zv_iload_n (pc := 82) C rfl 3 rfl dX6_share_82 ?_
            refine zv_ci0 (pc := 83) (ws' := (fun uz : zMem => (zd_X6_share cI adM qM1 qM2 qM3 qM4 qM5 qM6 qM7 qM8 qM12 qM13 qM15 qM16 qM17 qM18 qM19 qM20 qM21 uz))) C (zv_runV (As := [.int (30 : Int32), .int (31 : Int32), .int a2, .int a3]) (b := adM) (rest := []) (ci := 5) (q0 := 0) C (zc_X6_toldPart l G cI adM qM1 qM2 qM3 qM4 qM5 qM6 qM7 qM8 qM12 qM13 qM15 qM16 qM17 qM18 qM19 qM20 qM21 T_5 (30 : Int32) (31 : Int32) a2 a3 _ hF) (cwV 4 C.2.2.2.2.1 gX6_share_X6_toldPart rfl rfl rfl zy_X6_toldPart ⟨Nat.le_of_ble_eq_true rfl, Nat.le_of_ble_eq_true rfl⟩) rfl rfl rfl rfl rfl (Nat.le_of_ble_eq_true rfl) ⟨Nat.zero_le _, Nat.zero_le _⟩ dX6_share_83) [0, 1, 2, 3, 4, 5, 6, 7, 8, 9, 10, 11, 12, 13, 14, 15, 16, 17] [] rfl rfl rfl rfl rfl (fun _ => rfl) (fun _ => rfl) (fun _ => rfl) (fun v_17 uz hF => ?_)
            obtain ⟨T_16, hE⟩ : ∃ z, z = uz := ⟨_, rfl⟩; subst hE
            exact zv_iret (pc := 86) C hr hlk v_17 T_16 hF rfl dX6_share_86
        · replace hF := And.right hF c_7
          refine zv_aload_n (pc := 60) C rfl 0 rfl dX6_share_60 ?_
          refine zv_bipush (pc := 61) (v := 28) C (by decide) dX6_share_61 ?_
          refine zv_bipush (pc := 63) (v := 29) C (by decide) dX6_share_63 ?_
          refine zv_iload_n (pc := 65) C rfl 2 rfl dX6_share_65 ?_
          refine zv_iload_n (pc := 66) C rfl 3 rfl dX6_share_66 ?_
          refine zv_ci0 (pc := 67) (ws' := (fun uz : zMem => (zd_X6_share cI adM qM1 qM2 qM3 qM4 qM5 qM6 qM7 qM8 qM12 qM13 qM15 qM16 qM17 qM18 qM19 qM20 qM21 uz))) C (zv_runV (As := [.int (28 : Int32), .int (29 : Int32), .int a2, .int a3]) (b := adM) (rest := []) (ci := 5) (q0 := 0) C (zc_X6_toldPart l G cI adM qM1 qM2 qM3 qM4 qM5 qM6 qM7 qM8 qM12 qM13 qM15 qM16 qM17 qM18 qM19 qM20 qM21 T_5 (28 : Int32) (29 : Int32) a2 a3 _ hF) (cwV 4 C.2.2.2.2.1 gX6_share_X6_toldPart rfl rfl rfl zy_X6_toldPart ⟨Nat.le_of_ble_eq_true rfl, Nat.le_of_ble_eq_true rfl⟩) rfl rfl rfl rfl rfl (Nat.le_of_ble_eq_true rfl) ⟨Nat.zero_le _, Nat.zero_le _⟩ dX6_share_67) [0, 1, 2, 3, 4, 5, 6, 7, 8, 9, 10, 11, 12, 13, 14, 15, 16, 17] [] rfl rfl rfl rfl rfl (fun _ => rfl) (fun _ => rfl) (fun _ => rfl) (fun v_19 uz hF => ?_)
          obtain ⟨T_18, hE⟩ : ∃ z, z = uz := ⟨_, rfl⟩; subst hE
          exact zv_iret (pc := 70) C hr hlk v_19 T_18 hF rfl dX6_share_70
      · replace hF := And.right hF c_6
        refine zv_aload_n (pc := 44) C rfl 0 rfl dX6_share_44 ?_
        refine zv_bipush (pc := 45) (v := 26) C (by decide) dX6_share_45 ?_
        refine zv_bipush (pc := 47) (v := 27) C (by decide) dX6_share_47 ?_
        refine zv_iload_n (pc := 49) C rfl 2 rfl dX6_share_49 ?_
        refine zv_iload_n (pc := 50) C rfl 3 rfl dX6_share_50 ?_
        refine zv_ci0 (pc := 51) (ws' := (fun uz : zMem => (zd_X6_share cI adM qM1 qM2 qM3 qM4 qM5 qM6 qM7 qM8 qM12 qM13 qM15 qM16 qM17 qM18 qM19 qM20 qM21 uz))) C (zv_runV (As := [.int (26 : Int32), .int (27 : Int32), .int a2, .int a3]) (b := adM) (rest := []) (ci := 5) (q0 := 0) C (zc_X6_toldPart l G cI adM qM1 qM2 qM3 qM4 qM5 qM6 qM7 qM8 qM12 qM13 qM15 qM16 qM17 qM18 qM19 qM20 qM21 T_5 (26 : Int32) (27 : Int32) a2 a3 _ hF) (cwV 4 C.2.2.2.2.1 gX6_share_X6_toldPart rfl rfl rfl zy_X6_toldPart ⟨Nat.le_of_ble_eq_true rfl, Nat.le_of_ble_eq_true rfl⟩) rfl rfl rfl rfl rfl (Nat.le_of_ble_eq_true rfl) ⟨Nat.zero_le _, Nat.zero_le _⟩ dX6_share_51) [0, 1, 2, 3, 4, 5, 6, 7, 8, 9, 10, 11, 12, 13, 14, 15, 16, 17] [] rfl rfl rfl rfl rfl (fun _ => rfl) (fun _ => rfl) (fun _ => rfl) (fun v_21 uz hF => ?_)
        obtain ⟨T_20, hE⟩ : ∃ z, z = uz := ⟨_, rfl⟩; subst hE
        exact zv_iret (pc := 54) C hr hlk v_21 T_20 hF rfl dX6_share_54
    · replace hF := And.right hF c_4
      refine zv_iconst (pc := 34) (v := 0) C (by decide) dX6_share_34 ?_
      exact zv_iret (pc := 35) C hr hlk (0 : Int32) T_2 hF rfl dX6_share_35
  · replace hF := And.right hF c_1
    refine zv_iload_n (pc := 10) C rfl 1 rfl dX6_share_10 ?_
    refine zv_iconst (pc := 11) (v := 3) C (by decide) dX6_share_11 ?_
    refine zv_icmp_gt (pc := 12) (tgt := 26) C dX6_share_12 (by decide) (fun c_22 => ?_) (fun c_22 => ?_)
    · replace hF := And.left hF c_22
      refine zv_iconst (pc := 26) (v := 0) C (by decide) dX6_share_26 ?_
      refine zv_iconst (pc := 27) (v := 1) C (by decide) dX6_share_27 ?_
      refine zv_ci0 (pc := 28) (ws' := (fun uz : zMem => (zd_X6_share cI adM qM1 qM2 qM3 qM4 qM5 qM6 qM7 qM8 qM12 qM13 qM15 qM16 qM17 qM18 qM19 qM20 qM21 uz))) C (zv_runV (As := [.int (0 : Int32), .int (1 : Int32)]) (b := adM) (rest := []) (ci := 5) (q0 := 0) C (zc_X6_right l G cI adM qM1 qM2 qM3 qM4 qM5 qM6 qM7 qM8 qM12 qM13 qM15 qM16 qM17 qM18 qM19 qM20 qM21 (zset M 0 (fun _ => (0 : Int32))) (0 : Int32) (1 : Int32) _ hF) (cwV 2 C.2.2.2.2.1 gX6_share_X6_right rfl rfl rfl zy_X6_right ⟨Nat.le_of_ble_eq_true rfl, Nat.le_of_ble_eq_true rfl⟩) rfl rfl rfl rfl rfl (Nat.le_of_ble_eq_true rfl) ⟨Nat.zero_le _, Nat.zero_le _⟩ dX6_share_28) [0, 1, 2, 3, 4, 5, 6, 7, 8, 9, 10, 11, 12, 13, 14, 15, 16, 17] [] rfl rfl rfl rfl rfl (fun _ => rfl) (fun _ => rfl) (fun _ => rfl) (fun v_24 uz hF => ?_)
      obtain ⟨T_23, hE⟩ : ∃ z, z = uz := ⟨_, rfl⟩; subst hE
      refine zv_if_ne (pc := 31) (tgt := 36) C dX6_share_31 (by decide) (fun c_25 => ?_) (fun c_25 => ?_)
      · replace hF := And.left hF c_25
        refine zv_aload_n (pc := 36) C rfl 0 rfl dX6_share_36 ?_
        refine zv_cv0 (pc := 37) (ws' := (fun uz : zMem => (zd_X6_share cI adM qM1 qM2 qM3 qM4 qM5 qM6 qM7 qM8 qM12 qM13 qM15 qM16 qM17 qM18 qM19 qM20 qM21 uz))) C (zv_runV (As := []) (b := adM) (rest := []) (ci := 5) (q0 := 0) C (zc_X6_shares l G cI adM qM1 qM2 qM3 qM4 qM5 qM6 qM7 qM8 qM12 qM13 qM15 qM16 qM17 qM18 qM19 qM20 qM21 T_23 _ hF) (cwV 0 C.2.2.2.2.1 gX6_share_X6_shares rfl rfl rfl zy_X6_shares ⟨Nat.le_of_ble_eq_true rfl, Nat.le_of_ble_eq_true rfl⟩) rfl rfl rfl rfl rfl (Nat.le_of_ble_eq_true rfl) ⟨Nat.zero_le _, Nat.zero_le _⟩ dX6_share_37) [0, 1, 2, 3, 4, 5, 6, 7, 8, 9, 10, 11, 12, 13, 14, 15, 16, 17] [] rfl rfl rfl rfl rfl (fun _ => rfl) (fun _ => rfl) (fun _ => rfl) (fun uz hF => ?_)
        obtain ⟨T_26, hE⟩ : ∃ z, z = uz := ⟨_, rfl⟩; subst hE
        refine zv_iload_n (pc := 40) C rfl 1 rfl dX6_share_40 ?_
        refine zv_if_ne (pc := 41) (tgt := 55) C dX6_share_41 (by decide) (fun c_27 => ?_) (fun c_27 => ?_)
        · replace hF := And.left hF c_27
          refine zv_iload_n (pc := 55) C rfl 1 rfl dX6_share_55 ?_
          refine zv_iconst (pc := 56) (v := 1) C (by decide) dX6_share_56 ?_
          refine zv_icmp_ne (pc := 57) (tgt := 71) C dX6_share_57 (by decide) (fun c_28 => ?_) (fun c_28 => ?_)
          · replace hF := And.left hF c_28
            refine zv_iload_n (pc := 71) C rfl 1 rfl dX6_share_71 ?_
            refine zv_iconst (pc := 72) (v := 2) C (by decide) dX6_share_72 ?_
            refine zv_icmp_ne (pc := 73) (tgt := 87) C dX6_share_73 (by decide) (fun c_29 => ?_) (fun c_29 => ?_)
            · replace hF := And.left hF c_29
              refine zv_aload_n (pc := 87) C rfl 0 rfl dX6_share_87 ?_
              refine zv_bipush (pc := 88) (v := 36) C (by decide) dX6_share_88 ?_
              refine zv_bipush (pc := 90) (v := 27) C (by decide) dX6_share_90 ?_
              refine zv_bipush (pc := 92) (v := 31) C (by decide) dX6_share_92 ?_
              refine zv_cv0 (pc := 94) (ws' := (fun uz : zMem => (zd_X6_share cI adM qM1 qM2 qM3 qM4 qM5 qM6 qM7 qM8 qM12 qM13 qM15 qM16 qM17 qM18 qM19 qM20 qM21 uz))) C (zv_runV (As := [.int (36 : Int32), .int (27 : Int32), .int (31 : Int32)]) (b := adM) (rest := []) (ci := 5) (q0 := 0) C (zc_X6_times l G cI adM qM1 qM2 qM3 qM4 qM5 qM6 qM7 qM8 qM12 qM13 qM15 qM16 qM17 qM18 qM19 qM20 qM21 T_26 (36 : Int32) (27 : Int32) (31 : Int32) _ hF) (cwV 3 C.2.2.2.2.1 gX6_share_X6_times rfl rfl rfl zy_X6_times ⟨Nat.le_of_ble_eq_true rfl, Nat.le_of_ble_eq_true rfl⟩) rfl rfl rfl rfl rfl (Nat.le_of_ble_eq_true rfl) ⟨Nat.zero_le _, Nat.zero_le _⟩ dX6_share_94) [0, 1, 2, 3, 4, 5, 6, 7, 8, 9, 10, 11, 12, 13, 14, 15, 16, 17] [] rfl rfl rfl rfl rfl (fun _ => rfl) (fun _ => rfl) (fun _ => rfl) (fun uz hF => ?_)
              obtain ⟨T_30, hE⟩ : ∃ z, z = uz := ⟨_, rfl⟩; subst hE
              refine zv_aload_n (pc := 97) C rfl 0 rfl dX6_share_97 ?_
              refine zv_bipush (pc := 98) (v := 10) C (by decide) dX6_share_98 ?_
              refine zv_bipush (pc := 100) (v := 26) C (by decide) dX6_share_100 ?_
              refine zv_bipush (pc := 102) (v := 31) C (by decide) dX6_share_102 ?_
              refine zv_cv0 (pc := 104) (ws' := (fun uz : zMem => (zd_X6_share cI adM qM1 qM2 qM3 qM4 qM5 qM6 qM7 qM8 qM12 qM13 qM15 qM16 qM17 qM18 qM19 qM20 qM21 uz))) C (zv_runV (As := [.int (10 : Int32), .int (26 : Int32), .int (31 : Int32)]) (b := adM) (rest := []) (ci := 5) (q0 := 0) C (zc_X6_times l G cI adM qM1 qM2 qM3 qM4 qM5 qM6 qM7 qM8 qM12 qM13 qM15 qM16 qM17 qM18 qM19 qM20 qM21 T_30 (10 : Int32) (26 : Int32) (31 : Int32) _ hF) (cwV 3 C.2.2.2.2.1 gX6_share_X6_times rfl rfl rfl zy_X6_times ⟨Nat.le_of_ble_eq_true rfl, Nat.le_of_ble_eq_true rfl⟩) rfl rfl rfl rfl rfl (Nat.le_of_ble_eq_true rfl) ⟨Nat.zero_le _, Nat.zero_le _⟩ dX6_share_104) [0, 1, 2, 3, 4, 5, 6, 7, 8, 9, 10, 11, 12, 13, 14, 15, 16, 17] [] rfl rfl rfl rfl rfl (fun _ => rfl) (fun _ => rfl) (fun _ => rfl) (fun uz hF => ?_)
              obtain ⟨T_31, hE⟩ : ∃ z, z = uz := ⟨_, rfl⟩; subst hE
              refine zv_aload_n (pc := 107) C rfl 0 rfl dX6_share_107 ?_
              refine zv_bipush (pc := 108) (v := 35) C (by decide) dX6_share_108 ?_
              refine zv_bipush (pc := 110) (v := 36) C (by decide) dX6_share_110 ?_
              refine zv_bipush (pc := 112) (v := 10) C (by decide) dX6_share_112 ?_
              refine zv_cv0 (pc := 114) (ws' := (fun uz : zMem => (zd_X6_share cI adM qM1 qM2 qM3 qM4 qM5 qM6 qM7 qM8 qM12 qM13 qM15 qM16 qM17 qM18 qM19 qM20 qM21 uz))) C (zv_runV (As := [.int (35 : Int32), .int (36 : Int32), .int (10 : Int32)]) (b := adM) (rest := []) (ci := 5) (q0 := 0) C (zc_X6_minus l G cI adM qM1 qM2 qM3 qM4 qM5 qM6 qM7 qM8 qM12 qM13 qM15 qM16 qM17 qM18 qM19 qM20 qM21 T_31 (35 : Int32) (36 : Int32) (10 : Int32) _ hF) (cwV 3 C.2.2.2.2.1 gX6_share_X6_minus rfl rfl rfl zy_X6_minus ⟨Nat.le_of_ble_eq_true rfl, Nat.le_of_ble_eq_true rfl⟩) rfl rfl rfl rfl rfl (Nat.le_of_ble_eq_true rfl) ⟨Nat.zero_le _, Nat.zero_le _⟩ dX6_share_114) [0, 1, 2, 3, 4, 5, 6, 7, 8, 9, 10, 11, 12, 13, 14, 15, 16, 17] [] rfl rfl rfl rfl rfl (fun _ => rfl) (fun _ => rfl) (fun _ => rfl) (fun uz hF => ?_)
              obtain ⟨T_32, hE⟩ : ∃ z, z = uz := ⟨_, rfl⟩; subst hE
              refine zv_aload_n (pc := 117) C rfl 0 rfl dX6_share_117 ?_
              refine zv_bipush (pc := 118) (v := 10) C (by decide) dX6_share_118 ?_
              refine zv_bipush (pc := 120) (v := 30) C (by decide) dX6_share_120 ?_
              refine zv_bipush (pc := 122) (v := 27) C (by decide) dX6_share_122 ?_
              refine zv_cv0 (pc := 124) (ws' := (fun uz : zMem => (zd_X6_share cI adM qM1 qM2 qM3 qM4 qM5 qM6 qM7 qM8 qM12 qM13 qM15 qM16 qM17 qM18 qM19 qM20 qM21 uz))) C (zv_runV (As := [.int (10 : Int32), .int (30 : Int32), .int (27 : Int32)]) (b := adM) (rest := []) (ci := 5) (q0 := 0) C (zc_X6_times l G cI adM qM1 qM2 qM3 qM4 qM5 qM6 qM7 qM8 qM12 qM13 qM15 qM16 qM17 qM18 qM19 qM20 qM21 T_32 (10 : Int32) (30 : Int32) (27 : Int32) _ hF) (cwV 3 C.2.2.2.2.1 gX6_share_X6_times rfl rfl rfl zy_X6_times ⟨Nat.le_of_ble_eq_true rfl, Nat.le_of_ble_eq_true rfl⟩) rfl rfl rfl rfl rfl (Nat.le_of_ble_eq_true rfl) ⟨Nat.zero_le _, Nat.zero_le _⟩ dX6_share_124) [0, 1, 2, 3, 4, 5, 6, 7, 8, 9, 10, 11, 12, 13, 14, 15, 16, 17] [] rfl rfl rfl rfl rfl (fun _ => rfl) (fun _ => rfl) (fun _ => rfl) (fun uz hF => ?_)
              obtain ⟨T_33, hE⟩ : ∃ z, z = uz := ⟨_, rfl⟩; subst hE
              refine zv_aload_n (pc := 127) C rfl 0 rfl dX6_share_127 ?_
              refine zv_bipush (pc := 128) (v := 35) C (by decide) dX6_share_128 ?_
              refine zv_bipush (pc := 130) (v := 35) C (by decide) dX6_share_130 ?_
              refine zv_bipush (pc := 132) (v := 10) C (by decide) dX6_share_132 ?_
              refine zv_cv0 (pc := 134) (ws' := (fun uz : zMem => (zd_X6_share cI adM qM1 qM2 qM3 qM4 qM5 qM6 qM7 qM8 qM12 qM13 qM15 qM16 qM17 qM18 qM19 qM20 qM21 uz))) C (zv_runV (As := [.int (35 : Int32), .int (35 : Int32), .int (10 : Int32)]) (b := adM) (rest := []) (ci := 5) (q0 := 0) C (zc_X6_minus l G cI adM qM1 qM2 qM3 qM4 qM5 qM6 qM7 qM8 qM12 qM13 qM15 qM16 qM17 qM18 qM19 qM20 qM21 T_33 (35 : Int32) (35 : Int32) (10 : Int32) _ hF) (cwV 3 C.2.2.2.2.1 gX6_share_X6_minus rfl rfl rfl zy_X6_minus ⟨Nat.le_of_ble_eq_true rfl, Nat.le_of_ble_eq_true rfl⟩) rfl rfl rfl rfl rfl (Nat.le_of_ble_eq_true rfl) ⟨Nat.zero_le _, Nat.zero_le _⟩ dX6_share_134) [0, 1, 2, 3, 4, 5, 6, 7, 8, 9, 10, 11, 12, 13, 14, 15, 16, 17] [] rfl rfl rfl rfl rfl (fun _ => rfl) (fun _ => rfl) (fun _ => rfl) (fun uz hF => ?_)
              obtain ⟨T_34, hE⟩ : ∃ z, z = uz := ⟨_, rfl⟩; subst hE
              refine zv_aload_n (pc := 137) C rfl 0 rfl dX6_share_137 ?_
              refine zv_bipush (pc := 138) (v := 35) C (by decide) dX6_share_138 ?_
              refine zv_bipush (pc := 140) (v := 36) C (by decide) dX6_share_140 ?_
              refine zv_iload_n (pc := 142) C rfl 2 rfl dX6_share_142 ?_
              refine zv_iload_n (pc := 143) C rfl 3 rfl dX6_share_143 ?_
              refine zv_ci0 (pc := 144) (ws' := (fun uz : zMem => (zd_X6_share cI adM qM1 qM2 qM3 qM4 qM5 qM6 qM7 qM8 qM12 qM13 qM15 qM16 qM17 qM18 qM19 qM20 qM21 uz))) C (zv_runV (As := [.int (35 : Int32), .int (36 : Int32), .int a2, .int a3]) (b := adM) (rest := []) (ci := 5) (q0 := 0) C (zc_X6_toldPart l G cI adM qM1 qM2 qM3 qM4 qM5 qM6 qM7 qM8 qM12 qM13 qM15 qM16 qM17 qM18 qM19 qM20 qM21 T_34 (35 : Int32) (36 : Int32) a2 a3 _ hF) (cwV 4 C.2.2.2.2.1 gX6_share_X6_toldPart rfl rfl rfl zy_X6_toldPart ⟨Nat.le_of_ble_eq_true rfl, Nat.le_of_ble_eq_true rfl⟩) rfl rfl rfl rfl rfl (Nat.le_of_ble_eq_true rfl) ⟨Nat.zero_le _, Nat.zero_le _⟩ dX6_share_144) [0, 1, 2, 3, 4, 5, 6, 7, 8, 9, 10, 11, 12, 13, 14, 15, 16, 17] [] rfl rfl rfl rfl rfl (fun _ => rfl) (fun _ => rfl) (fun _ => rfl) (fun v_36 uz hF => ?_)
              obtain ⟨T_35, hE⟩ : ∃ z, z = uz := ⟨_, rfl⟩; subst hE
              exact zv_iret (pc := 147) C hr hlk v_36 T_35 hF rfl dX6_share_147
            · replace hF := And.right hF c_29
              refine zv_aload_n (pc := 76) C rfl 0 rfl dX6_share_76 ?_
              refine zv_bipush (pc := 77) (v := 30) C (by decide) dX6_share_77 ?_
              refine zv_bipush (pc := 79) (v := 31) C (by decide) dX6_share_79 ?_
              refine zv_iload_n (pc := 81) C rfl 2 rfl dX6_share_81 ?_
              refine zv_iload_n (pc := 82) C rfl 3 rfl dX6_share_82 ?_
              refine zv_ci0 (pc := 83) (ws' := (fun uz : zMem => (zd_X6_share cI adM qM1 qM2 qM3 qM4 qM5 qM6 qM7 qM8 qM12 qM13 qM15 qM16 qM17 qM18 qM19 qM20 qM21 uz))) C (zv_runV (As := [.int (30 : Int32), .int (31 : Int32), .int a2, .int a3]) (b := adM) (rest := []) (ci := 5) (q0 := 0) C (zc_X6_toldPart l G cI adM qM1 qM2 qM3 qM4 qM5 qM6 qM7 qM8 qM12 qM13 qM15 qM16 qM17 qM18 qM19 qM20 qM21 T_26 (30 : Int32) (31 : Int32) a2 a3 _ hF) (cwV 4 C.2.2.2.2.1 gX6_share_X6_toldPart rfl rfl rfl zy_X6_toldPart ⟨Nat.le_of_ble_eq_true rfl, Nat.le_of_ble_eq_true rfl⟩) rfl rfl rfl rfl rfl (Nat.le_of_ble_eq_true rfl) ⟨Nat.zero_le _, Nat.zero_le _⟩ dX6_share_83) [0, 1, 2, 3, 4, 5, 6, 7, 8, 9, 10, 11, 12, 13, 14, 15, 16, 17] [] rfl rfl rfl rfl rfl (fun _ => rfl) (fun _ => rfl) (fun _ => rfl) (fun v_38 uz hF => ?_)
              obtain ⟨T_37, hE⟩ : ∃ z, z = uz := ⟨_, rfl⟩; subst hE
              exact zv_iret (pc := 86) C hr hlk v_38 T_37 hF rfl dX6_share_86
          · replace hF := And.right hF c_28
            refine zv_aload_n (pc := 60) C rfl 0 rfl dX6_share_60 ?_
            refine zv_bipush (pc := 61) (v := 28) C (by decide) dX6_share_61 ?_
            refine zv_bipush (pc := 63) (v := 29) C (by decide) dX6_share_63 ?_
            refine zv_iload_n (pc := 65) C rfl 2 rfl dX6_share_65 ?_
            refine zv_iload_n (pc := 66) C rfl 3 rfl dX6_share_66 ?_
            refine zv_ci0 (pc := 67) (ws' := (fun uz : zMem => (zd_X6_share cI adM qM1 qM2 qM3 qM4 qM5 qM6 qM7 qM8 qM12 qM13 qM15 qM16 qM17 qM18 qM19 qM20 qM21 uz))) C (zv_runV (As := [.int (28 : Int32), .int (29 : Int32), .int a2, .int a3]) (b := adM) (rest := []) (ci := 5) (q0 := 0) C (zc_X6_toldPart l G cI adM qM1 qM2 qM3 qM4 qM5 qM6 qM7 qM8 qM12 qM13 qM15 qM16 qM17 qM18 qM19 qM20 qM21 T_26 (28 : Int32) (29 : Int32) a2 a3 _ hF) (cwV 4 C.2.2.2.2.1 gX6_share_X6_toldPart rfl rfl rfl zy_X6_toldPart ⟨Nat.le_of_ble_eq_true rfl, Nat.le_of_ble_eq_true rfl⟩) rfl rfl rfl rfl rfl (Nat.le_of_ble_eq_true rfl) ⟨Nat.zero_le _, Nat.zero_le _⟩ dX6_share_67) [0, 1, 2, 3, 4, 5, 6, 7, 8, 9, 10, 11, 12, 13, 14, 15, 16, 17] [] rfl rfl rfl rfl rfl (fun _ => rfl) (fun _ => rfl) (fun _ => rfl) (fun v_40 uz hF => ?_)
            obtain ⟨T_39, hE⟩ : ∃ z, z = uz := ⟨_, rfl⟩; subst hE
            exact zv_iret (pc := 70) C hr hlk v_40 T_39 hF rfl dX6_share_70
        · replace hF := And.right hF c_27
          refine zv_aload_n (pc := 44) C rfl 0 rfl dX6_share_44 ?_
          refine zv_bipush (pc := 45) (v := 26) C (by decide) dX6_share_45 ?_
          refine zv_bipush (pc := 47) (v := 27) C (by decide) dX6_share_47 ?_
          refine zv_iload_n (pc := 49) C rfl 2 rfl dX6_share_49 ?_
          refine zv_iload_n (pc := 50) C rfl 3 rfl dX6_share_50 ?_
          refine zv_ci0 (pc := 51) (ws' := (fun uz : zMem => (zd_X6_share cI adM qM1 qM2 qM3 qM4 qM5 qM6 qM7 qM8 qM12 qM13 qM15 qM16 qM17 qM18 qM19 qM20 qM21 uz))) C (zv_runV (As := [.int (26 : Int32), .int (27 : Int32), .int a2, .int a3]) (b := adM) (rest := []) (ci := 5) (q0 := 0) C (zc_X6_toldPart l G cI adM qM1 qM2 qM3 qM4 qM5 qM6 qM7 qM8 qM12 qM13 qM15 qM16 qM17 qM18 qM19 qM20 qM21 T_26 (26 : Int32) (27 : Int32) a2 a3 _ hF) (cwV 4 C.2.2.2.2.1 gX6_share_X6_toldPart rfl rfl rfl zy_X6_toldPart ⟨Nat.le_of_ble_eq_true rfl, Nat.le_of_ble_eq_true rfl⟩) rfl rfl rfl rfl rfl (Nat.le_of_ble_eq_true rfl) ⟨Nat.zero_le _, Nat.zero_le _⟩ dX6_share_51) [0, 1, 2, 3, 4, 5, 6, 7, 8, 9, 10, 11, 12, 13, 14, 15, 16, 17] [] rfl rfl rfl rfl rfl (fun _ => rfl) (fun _ => rfl) (fun _ => rfl) (fun v_42 uz hF => ?_)
          obtain ⟨T_41, hE⟩ : ∃ z, z = uz := ⟨_, rfl⟩; subst hE
          exact zv_iret (pc := 54) C hr hlk v_42 T_41 hF rfl dX6_share_54
      · replace hF := And.right hF c_25
        refine zv_iconst (pc := 34) (v := 0) C (by decide) dX6_share_34 ?_
        exact zv_iret (pc := 35) C hr hlk (0 : Int32) T_23 hF rfl dX6_share_35
    · replace hF := And.right hF c_22
      refine zv_iload_n (pc := 15) C rfl 3 rfl dX6_share_15 ?_
      refine zv_ci0 (pc := 16) (ws' := (fun uz : Unit => (zd_X6_share cI adM qM1 qM2 qM3 qM4 qM5 qM6 qM7 qM8 qM12 qM13 qM15 qM16 qM17 qM18 qM19 qM20 qM21 (zset M 0 (fun _ => (0 : Int32)))))) C (zv_runS (As := [.int a3]) (rest := [.ref adM]) C (zc_X6_isPart l G cI a3 _ hF) (va_cwS 1 C.2.2.2.2.1 gX6_share_X6_isPart rfl rfl rfl zy_X6_isPart ⟨Nat.le_of_ble_eq_true rfl, Nat.le_of_ble_eq_true rfl⟩) rfl rfl (Nat.le_of_ble_eq_true rfl) ⟨Nat.zero_le _, Nat.zero_le _⟩ dX6_share_16) [] [0, 1, 2, 3, 4, 5, 6, 7, 8, 9, 10, 11, 12, 13, 14, 15, 16, 17] rfl rfl rfl rfl rfl (fun _ => rfl) (fun _ => rfl) (fun _ => rfl) (fun v_43 uz hF => ?_)
      obtain ⟨KJ_46, h0KJ_46, hF⟩ := hF
      refine zv_join (α := Int32) (KK := fun uz => KJ_46 uz) (wsJ := fun uz => (zd_X6_share cI adM qM1 qM2 qM3 qM4 qM5 qM6 qM7 qM8 qM12 qM13 qM15 qM16 qM17 qM18 qM19 qM20 qM21 (zset M 0 (fun _ => (0 : Int32))))) (pcJ := 27) (lvJ := fun uz => [(0, .ref adM), (1, .int a1), (2, .int a2), (3, .int a3)]) (stJ := fun uz => [.int uz, .ref adM]) ?_ (fun hKJ_46 => ?_)
      · rintro v_45 hF
        replace hF := h0KJ_46 v_45 hF
        refine zv_iconst (pc := 27) (v := 1) C (by decide) dX6_share_27 ?_
        refine zv_ci0 (pc := 28) (ws' := (fun uz : zMem => (zd_X6_share cI adM qM1 qM2 qM3 qM4 qM5 qM6 qM7 qM8 qM12 qM13 qM15 qM16 qM17 qM18 qM19 qM20 qM21 uz))) C (zv_runV (As := [.int v_45, .int (1 : Int32)]) (b := adM) (rest := []) (ci := 5) (q0 := 0) C (zc_X6_right l G cI adM qM1 qM2 qM3 qM4 qM5 qM6 qM7 qM8 qM12 qM13 qM15 qM16 qM17 qM18 qM19 qM20 qM21 (zset M 0 (fun _ => (0 : Int32))) v_45 (1 : Int32) _ hF) (cwV 2 C.2.2.2.2.1 gX6_share_X6_right rfl rfl rfl zy_X6_right ⟨Nat.le_of_ble_eq_true rfl, Nat.le_of_ble_eq_true rfl⟩) rfl rfl rfl rfl rfl (Nat.le_of_ble_eq_true rfl) ⟨Nat.zero_le _, Nat.zero_le _⟩ dX6_share_28) [0, 1, 2, 3, 4, 5, 6, 7, 8, 9, 10, 11, 12, 13, 14, 15, 16, 17] [] rfl rfl rfl rfl rfl (fun _ => rfl) (fun _ => rfl) (fun _ => rfl) (fun v_48 uz hF => ?_)
        obtain ⟨T_47, hE⟩ : ∃ z, z = uz := ⟨_, rfl⟩; subst hE
        refine zv_if_ne (pc := 31) (tgt := 36) C dX6_share_31 (by decide) (fun c_49 => ?_) (fun c_49 => ?_)
        · replace hF := And.left hF c_49
          refine zv_aload_n (pc := 36) C rfl 0 rfl dX6_share_36 ?_
          refine zv_cv0 (pc := 37) (ws' := (fun uz : zMem => (zd_X6_share cI adM qM1 qM2 qM3 qM4 qM5 qM6 qM7 qM8 qM12 qM13 qM15 qM16 qM17 qM18 qM19 qM20 qM21 uz))) C (zv_runV (As := []) (b := adM) (rest := []) (ci := 5) (q0 := 0) C (zc_X6_shares l G cI adM qM1 qM2 qM3 qM4 qM5 qM6 qM7 qM8 qM12 qM13 qM15 qM16 qM17 qM18 qM19 qM20 qM21 T_47 _ hF) (cwV 0 C.2.2.2.2.1 gX6_share_X6_shares rfl rfl rfl zy_X6_shares ⟨Nat.le_of_ble_eq_true rfl, Nat.le_of_ble_eq_true rfl⟩) rfl rfl rfl rfl rfl (Nat.le_of_ble_eq_true rfl) ⟨Nat.zero_le _, Nat.zero_le _⟩ dX6_share_37) [0, 1, 2, 3, 4, 5, 6, 7, 8, 9, 10, 11, 12, 13, 14, 15, 16, 17] [] rfl rfl rfl rfl rfl (fun _ => rfl) (fun _ => rfl) (fun _ => rfl) (fun uz hF => ?_)
          obtain ⟨T_50, hE⟩ : ∃ z, z = uz := ⟨_, rfl⟩; subst hE
          refine zv_iload_n (pc := 40) C rfl 1 rfl dX6_share_40 ?_
          refine zv_if_ne (pc := 41) (tgt := 55) C dX6_share_41 (by decide) (fun c_51 => ?_) (fun c_51 => ?_)
          · replace hF := And.left hF c_51
            refine zv_iload_n (pc := 55) C rfl 1 rfl dX6_share_55 ?_
            refine zv_iconst (pc := 56) (v := 1) C (by decide) dX6_share_56 ?_
            refine zv_icmp_ne (pc := 57) (tgt := 71) C dX6_share_57 (by decide) (fun c_52 => ?_) (fun c_52 => ?_)
            · replace hF := And.left hF c_52
              refine zv_iload_n (pc := 71) C rfl 1 rfl dX6_share_71 ?_
              refine zv_iconst (pc := 72) (v := 2) C (by decide) dX6_share_72 ?_
              refine zv_icmp_ne (pc := 73) (tgt := 87) C dX6_share_73 (by decide) (fun c_53 => ?_) (fun c_53 => ?_)
              · replace hF := And.left hF c_53
                refine zv_aload_n (pc := 87) C rfl 0 rfl dX6_share_87 ?_
                refine zv_bipush (pc := 88) (v := 36) C (by decide) dX6_share_88 ?_
                refine zv_bipush (pc := 90) (v := 27) C (by decide) dX6_share_90 ?_
                refine zv_bipush (pc := 92) (v := 31) C (by decide) dX6_share_92 ?_
                refine zv_cv0 (pc := 94) (ws' := (fun uz : zMem => (zd_X6_share cI adM qM1 qM2 qM3 qM4 qM5 qM6 qM7 qM8 qM12 qM13 qM15 qM16 qM17 qM18 qM19 qM20 qM21 uz))) C (zv_runV (As := [.int (36 : Int32), .int (27 : Int32), .int (31 : Int32)]) (b := adM) (rest := []) (ci := 5) (q0 := 0) C (zc_X6_times l G cI adM qM1 qM2 qM3 qM4 qM5 qM6 qM7 qM8 qM12 qM13 qM15 qM16 qM17 qM18 qM19 qM20 qM21 T_50 (36 : Int32) (27 : Int32) (31 : Int32) _ hF) (cwV 3 C.2.2.2.2.1 gX6_share_X6_times rfl rfl rfl zy_X6_times ⟨Nat.le_of_ble_eq_true rfl, Nat.le_of_ble_eq_true rfl⟩) rfl rfl rfl rfl rfl (Nat.le_of_ble_eq_true rfl) ⟨Nat.zero_le _, Nat.zero_le _⟩ dX6_share_94) [0, 1, 2, 3, 4, 5, 6, 7, 8, 9, 10, 11, 12, 13, 14, 15, 16, 17] [] rfl rfl rfl rfl rfl (fun _ => rfl) (fun _ => rfl) (fun _ => rfl) (fun uz hF => ?_)
                obtain ⟨T_54, hE⟩ : ∃ z, z = uz := ⟨_, rfl⟩; subst hE
                refine zv_aload_n (pc := 97) C rfl 0 rfl dX6_share_97 ?_
                refine zv_bipush (pc := 98) (v := 10) C (by decide) dX6_share_98 ?_
                refine zv_bipush (pc := 100) (v := 26) C (by decide) dX6_share_100 ?_
                refine zv_bipush (pc := 102) (v := 31) C (by decide) dX6_share_102 ?_
                refine zv_cv0 (pc := 104) (ws' := (fun uz : zMem => (zd_X6_share cI adM qM1 qM2 qM3 qM4 qM5 qM6 qM7 qM8 qM12 qM13 qM15 qM16 qM17 qM18 qM19 qM20 qM21 uz))) C (zv_runV (As := [.int (10 : Int32), .int (26 : Int32), .int (31 : Int32)]) (b := adM) (rest := []) (ci := 5) (q0 := 0) C (zc_X6_times l G cI adM qM1 qM2 qM3 qM4 qM5 qM6 qM7 qM8 qM12 qM13 qM15 qM16 qM17 qM18 qM19 qM20 qM21 T_54 (10 : Int32) (26 : Int32) (31 : Int32) _ hF) (cwV 3 C.2.2.2.2.1 gX6_share_X6_times rfl rfl rfl zy_X6_times ⟨Nat.le_of_ble_eq_true rfl, Nat.le_of_ble_eq_true rfl⟩) rfl rfl rfl rfl rfl (Nat.le_of_ble_eq_true rfl) ⟨Nat.zero_le _, Nat.zero_le _⟩ dX6_share_104) [0, 1, 2, 3, 4, 5, 6, 7, 8, 9, 10, 11, 12, 13, 14, 15, 16, 17] [] rfl rfl rfl rfl rfl (fun _ => rfl) (fun _ => rfl) (fun _ => rfl) (fun uz hF => ?_)
                obtain ⟨T_55, hE⟩ : ∃ z, z = uz := ⟨_, rfl⟩; subst hE
                refine zv_aload_n (pc := 107) C rfl 0 rfl dX6_share_107 ?_
                refine zv_bipush (pc := 108) (v := 35) C (by decide) dX6_share_108 ?_
                refine zv_bipush (pc := 110) (v := 36) C (by decide) dX6_share_110 ?_
                refine zv_bipush (pc := 112) (v := 10) C (by decide) dX6_share_112 ?_
                refine zv_cv0 (pc := 114) (ws' := (fun uz : zMem => (zd_X6_share cI adM qM1 qM2 qM3 qM4 qM5 qM6 qM7 qM8 qM12 qM13 qM15 qM16 qM17 qM18 qM19 qM20 qM21 uz))) C (zv_runV (As := [.int (35 : Int32), .int (36 : Int32), .int (10 : Int32)]) (b := adM) (rest := []) (ci := 5) (q0 := 0) C (zc_X6_minus l G cI adM qM1 qM2 qM3 qM4 qM5 qM6 qM7 qM8 qM12 qM13 qM15 qM16 qM17 qM18 qM19 qM20 qM21 T_55 (35 : Int32) (36 : Int32) (10 : Int32) _ hF) (cwV 3 C.2.2.2.2.1 gX6_share_X6_minus rfl rfl rfl zy_X6_minus ⟨Nat.le_of_ble_eq_true rfl, Nat.le_of_ble_eq_true rfl⟩) rfl rfl rfl rfl rfl (Nat.le_of_ble_eq_true rfl) ⟨Nat.zero_le _, Nat.zero_le _⟩ dX6_share_114) [0, 1, 2, 3, 4, 5, 6, 7, 8, 9, 10, 11, 12, 13, 14, 15, 16, 17] [] rfl rfl rfl rfl rfl (fun _ => rfl) (fun _ => rfl) (fun _ => rfl) (fun uz hF => ?_)
                obtain ⟨T_56, hE⟩ : ∃ z, z = uz := ⟨_, rfl⟩; subst hE
                refine zv_aload_n (pc := 117) C rfl 0 rfl dX6_share_117 ?_
                refine zv_bipush (pc := 118) (v := 10) C (by decide) dX6_share_118 ?_
                refine zv_bipush (pc := 120) (v := 30) C (by decide) dX6_share_120 ?_
                refine zv_bipush (pc := 122) (v := 27) C (by decide) dX6_share_122 ?_
                refine zv_cv0 (pc := 124) (ws' := (fun uz : zMem => (zd_X6_share cI adM qM1 qM2 qM3 qM4 qM5 qM6 qM7 qM8 qM12 qM13 qM15 qM16 qM17 qM18 qM19 qM20 qM21 uz))) C (zv_runV (As := [.int (10 : Int32), .int (30 : Int32), .int (27 : Int32)]) (b := adM) (rest := []) (ci := 5) (q0 := 0) C (zc_X6_times l G cI adM qM1 qM2 qM3 qM4 qM5 qM6 qM7 qM8 qM12 qM13 qM15 qM16 qM17 qM18 qM19 qM20 qM21 T_56 (10 : Int32) (30 : Int32) (27 : Int32) _ hF) (cwV 3 C.2.2.2.2.1 gX6_share_X6_times rfl rfl rfl zy_X6_times ⟨Nat.le_of_ble_eq_true rfl, Nat.le_of_ble_eq_true rfl⟩) rfl rfl rfl rfl rfl (Nat.le_of_ble_eq_true rfl) ⟨Nat.zero_le _, Nat.zero_le _⟩ dX6_share_124) [0, 1, 2, 3, 4, 5, 6, 7, 8, 9, 10, 11, 12, 13, 14, 15, 16, 17] [] rfl rfl rfl rfl rfl (fun _ => rfl) (fun _ => rfl) (fun _ => rfl) (fun uz hF => ?_)
                obtain ⟨T_57, hE⟩ : ∃ z, z = uz := ⟨_, rfl⟩; subst hE
                refine zv_aload_n (pc := 127) C rfl 0 rfl dX6_share_127 ?_
                refine zv_bipush (pc := 128) (v := 35) C (by decide) dX6_share_128 ?_
                refine zv_bipush (pc := 130) (v := 35) C (by decide) dX6_share_130 ?_
                refine zv_bipush (pc := 132) (v := 10) C (by decide) dX6_share_132 ?_
                refine zv_cv0 (pc := 134) (ws' := (fun uz : zMem => (zd_X6_share cI adM qM1 qM2 qM3 qM4 qM5 qM6 qM7 qM8 qM12 qM13 qM15 qM16 qM17 qM18 qM19 qM20 qM21 uz))) C (zv_runV (As := [.int (35 : Int32), .int (35 : Int32), .int (10 : Int32)]) (b := adM) (rest := []) (ci := 5) (q0 := 0) C (zc_X6_minus l G cI adM qM1 qM2 qM3 qM4 qM5 qM6 qM7 qM8 qM12 qM13 qM15 qM16 qM17 qM18 qM19 qM20 qM21 T_57 (35 : Int32) (35 : Int32) (10 : Int32) _ hF) (cwV 3 C.2.2.2.2.1 gX6_share_X6_minus rfl rfl rfl zy_X6_minus ⟨Nat.le_of_ble_eq_true rfl, Nat.le_of_ble_eq_true rfl⟩) rfl rfl rfl rfl rfl (Nat.le_of_ble_eq_true rfl) ⟨Nat.zero_le _, Nat.zero_le _⟩ dX6_share_134) [0, 1, 2, 3, 4, 5, 6, 7, 8, 9, 10, 11, 12, 13, 14, 15, 16, 17] [] rfl rfl rfl rfl rfl (fun _ => rfl) (fun _ => rfl) (fun _ => rfl) (fun uz hF => ?_)
                obtain ⟨T_58, hE⟩ : ∃ z, z = uz := ⟨_, rfl⟩; subst hE
                refine zv_aload_n (pc := 137) C rfl 0 rfl dX6_share_137 ?_
                refine zv_bipush (pc := 138) (v := 35) C (by decide) dX6_share_138 ?_
                refine zv_bipush (pc := 140) (v := 36) C (by decide) dX6_share_140 ?_
                refine zv_iload_n (pc := 142) C rfl 2 rfl dX6_share_142 ?_
                refine zv_iload_n (pc := 143) C rfl 3 rfl dX6_share_143 ?_
                refine zv_ci0 (pc := 144) (ws' := (fun uz : zMem => (zd_X6_share cI adM qM1 qM2 qM3 qM4 qM5 qM6 qM7 qM8 qM12 qM13 qM15 qM16 qM17 qM18 qM19 qM20 qM21 uz))) C (zv_runV (As := [.int (35 : Int32), .int (36 : Int32), .int a2, .int a3]) (b := adM) (rest := []) (ci := 5) (q0 := 0) C (zc_X6_toldPart l G cI adM qM1 qM2 qM3 qM4 qM5 qM6 qM7 qM8 qM12 qM13 qM15 qM16 qM17 qM18 qM19 qM20 qM21 T_58 (35 : Int32) (36 : Int32) a2 a3 _ hF) (cwV 4 C.2.2.2.2.1 gX6_share_X6_toldPart rfl rfl rfl zy_X6_toldPart ⟨Nat.le_of_ble_eq_true rfl, Nat.le_of_ble_eq_true rfl⟩) rfl rfl rfl rfl rfl (Nat.le_of_ble_eq_true rfl) ⟨Nat.zero_le _, Nat.zero_le _⟩ dX6_share_144) [0, 1, 2, 3, 4, 5, 6, 7, 8, 9, 10, 11, 12, 13, 14, 15, 16, 17] [] rfl rfl rfl rfl rfl (fun _ => rfl) (fun _ => rfl) (fun _ => rfl) (fun v_60 uz hF => ?_)
                obtain ⟨T_59, hE⟩ : ∃ z, z = uz := ⟨_, rfl⟩; subst hE
                exact zv_iret (pc := 147) C hr hlk v_60 T_59 hF rfl dX6_share_147
              · replace hF := And.right hF c_53
                refine zv_aload_n (pc := 76) C rfl 0 rfl dX6_share_76 ?_
                refine zv_bipush (pc := 77) (v := 30) C (by decide) dX6_share_77 ?_
                refine zv_bipush (pc := 79) (v := 31) C (by decide) dX6_share_79 ?_
                refine zv_iload_n (pc := 81) C rfl 2 rfl dX6_share_81 ?_
                refine zv_iload_n (pc := 82) C rfl 3 rfl dX6_share_82 ?_
                refine zv_ci0 (pc := 83) (ws' := (fun uz : zMem => (zd_X6_share cI adM qM1 qM2 qM3 qM4 qM5 qM6 qM7 qM8 qM12 qM13 qM15 qM16 qM17 qM18 qM19 qM20 qM21 uz))) C (zv_runV (As := [.int (30 : Int32), .int (31 : Int32), .int a2, .int a3]) (b := adM) (rest := []) (ci := 5) (q0 := 0) C (zc_X6_toldPart l G cI adM qM1 qM2 qM3 qM4 qM5 qM6 qM7 qM8 qM12 qM13 qM15 qM16 qM17 qM18 qM19 qM20 qM21 T_50 (30 : Int32) (31 : Int32) a2 a3 _ hF) (cwV 4 C.2.2.2.2.1 gX6_share_X6_toldPart rfl rfl rfl zy_X6_toldPart ⟨Nat.le_of_ble_eq_true rfl, Nat.le_of_ble_eq_true rfl⟩) rfl rfl rfl rfl rfl (Nat.le_of_ble_eq_true rfl) ⟨Nat.zero_le _, Nat.zero_le _⟩ dX6_share_83) [0, 1, 2, 3, 4, 5, 6, 7, 8, 9, 10, 11, 12, 13, 14, 15, 16, 17] [] rfl rfl rfl rfl rfl (fun _ => rfl) (fun _ => rfl) (fun _ => rfl) (fun v_62 uz hF => ?_)
                obtain ⟨T_61, hE⟩ : ∃ z, z = uz := ⟨_, rfl⟩; subst hE
                exact zv_iret (pc := 86) C hr hlk v_62 T_61 hF rfl dX6_share_86
            · replace hF := And.right hF c_52
              refine zv_aload_n (pc := 60) C rfl 0 rfl dX6_share_60 ?_
              refine zv_bipush (pc := 61) (v := 28) C (by decide) dX6_share_61 ?_
              refine zv_bipush (pc := 63) (v := 29) C (by decide) dX6_share_63 ?_
              refine zv_iload_n (pc := 65) C rfl 2 rfl dX6_share_65 ?_
              refine zv_iload_n (pc := 66) C rfl 3 rfl dX6_share_66 ?_
              refine zv_ci0 (pc := 67) (ws' := (fun uz : zMem => (zd_X6_share cI adM qM1 qM2 qM3 qM4 qM5 qM6 qM7 qM8 qM12 qM13 qM15 qM16 qM17 qM18 qM19 qM20 qM21 uz))) C (zv_runV (As := [.int (28 : Int32), .int (29 : Int32), .int a2, .int a3]) (b := adM) (rest := []) (ci := 5) (q0 := 0) C (zc_X6_toldPart l G cI adM qM1 qM2 qM3 qM4 qM5 qM6 qM7 qM8 qM12 qM13 qM15 qM16 qM17 qM18 qM19 qM20 qM21 T_50 (28 : Int32) (29 : Int32) a2 a3 _ hF) (cwV 4 C.2.2.2.2.1 gX6_share_X6_toldPart rfl rfl rfl zy_X6_toldPart ⟨Nat.le_of_ble_eq_true rfl, Nat.le_of_ble_eq_true rfl⟩) rfl rfl rfl rfl rfl (Nat.le_of_ble_eq_true rfl) ⟨Nat.zero_le _, Nat.zero_le _⟩ dX6_share_67) [0, 1, 2, 3, 4, 5, 6, 7, 8, 9, 10, 11, 12, 13, 14, 15, 16, 17] [] rfl rfl rfl rfl rfl (fun _ => rfl) (fun _ => rfl) (fun _ => rfl) (fun v_64 uz hF => ?_)
              obtain ⟨T_63, hE⟩ : ∃ z, z = uz := ⟨_, rfl⟩; subst hE
              exact zv_iret (pc := 70) C hr hlk v_64 T_63 hF rfl dX6_share_70
          · replace hF := And.right hF c_51
            refine zv_aload_n (pc := 44) C rfl 0 rfl dX6_share_44 ?_
            refine zv_bipush (pc := 45) (v := 26) C (by decide) dX6_share_45 ?_
            refine zv_bipush (pc := 47) (v := 27) C (by decide) dX6_share_47 ?_
            refine zv_iload_n (pc := 49) C rfl 2 rfl dX6_share_49 ?_
            refine zv_iload_n (pc := 50) C rfl 3 rfl dX6_share_50 ?_
            refine zv_ci0 (pc := 51) (ws' := (fun uz : zMem => (zd_X6_share cI adM qM1 qM2 qM3 qM4 qM5 qM6 qM7 qM8 qM12 qM13 qM15 qM16 qM17 qM18 qM19 qM20 qM21 uz))) C (zv_runV (As := [.int (26 : Int32), .int (27 : Int32), .int a2, .int a3]) (b := adM) (rest := []) (ci := 5) (q0 := 0) C (zc_X6_toldPart l G cI adM qM1 qM2 qM3 qM4 qM5 qM6 qM7 qM8 qM12 qM13 qM15 qM16 qM17 qM18 qM19 qM20 qM21 T_50 (26 : Int32) (27 : Int32) a2 a3 _ hF) (cwV 4 C.2.2.2.2.1 gX6_share_X6_toldPart rfl rfl rfl zy_X6_toldPart ⟨Nat.le_of_ble_eq_true rfl, Nat.le_of_ble_eq_true rfl⟩) rfl rfl rfl rfl rfl (Nat.le_of_ble_eq_true rfl) ⟨Nat.zero_le _, Nat.zero_le _⟩ dX6_share_51) [0, 1, 2, 3, 4, 5, 6, 7, 8, 9, 10, 11, 12, 13, 14, 15, 16, 17] [] rfl rfl rfl rfl rfl (fun _ => rfl) (fun _ => rfl) (fun _ => rfl) (fun v_66 uz hF => ?_)
            obtain ⟨T_65, hE⟩ : ∃ z, z = uz := ⟨_, rfl⟩; subst hE
            exact zv_iret (pc := 54) C hr hlk v_66 T_65 hF rfl dX6_share_54
        · replace hF := And.right hF c_49
          refine zv_iconst (pc := 34) (v := 0) C (by decide) dX6_share_34 ?_
          exact zv_iret (pc := 35) C hr hlk (0 : Int32) T_47 hF rfl dX6_share_35
      · skip
        refine zv_if_eq (pc := 19) (tgt := 26) C dX6_share_19 (by decide) (fun c_44 => ?_) (fun c_44 => ?_)
        · replace hF := And.left hF c_44
          refine zv_iconst (pc := 26) (v := 0) C (by decide) dX6_share_26 ?_
          exact zv_lvs [0, 1, 2, 3] rfl (hKJ_46 (0 : Int32) hF)
        · replace hF := And.right hF c_44
          refine zv_iconst (pc := 22) (v := 1) C (by decide) dX6_share_22 ?_
          refine zv_goto (pc := 23) (tgt := 27) C dX6_share_23 (by decide) ?_
          exact zv_lvs [0, 1, 2, 3] rfl (hKJ_46 (1 : Int32) hF)
