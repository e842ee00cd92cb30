/-! X6_thrown -/
def zd_X6_thrown (cI : ClassId) (adM qM1 qM2 qM3 qM4 qM5 qM6 qM7 qM8 qM12 qM13 qM15 qM16 qM17 qM18 qM19 qM20 qM21 : Nat) (M : zMem) : va_W := [(adM, .inr (5, [.int (M 0 0), .ref qM1, .ref qM2, .ref qM3, .ref qM4, .ref qM5, .ref qM6, .ref qM7, .ref qM8, .int (M 9 0), .int (M 10 0), .int (M 11 0), .ref qM12, .ref qM13, .int (M 14 0), .ref qM15, .ref qM16, .ref qM17, .ref qM18, .ref qM19, .ref qM20, .ref qM21])), (qM1, .inl (cI, 2, .inl (M 1))), (qM2, .inl (cI, 2, .inl (M 2))), (qM3, .inl (cI, 2, .inl (M 3))), (qM4, .inl (cI, 2, .inl (M 4))), (qM5, .inl (cI, 2, .inl (M 5))), (qM6, .inl (cI, 12, .inl (M 6))), (qM7, .inl (cI, 12, .inl (M 7))), (qM8, .inl (cI, 12, .inl (M 8))), (qM12, .inl (cI, 6, .inl (M 12))), (qM13, .inl (cI, 6, .inl (M 13))), (qM15, .inl (cI, 8, .inl (M 15))), (qM16, .inl (cI, 8, .inl (M 16))), (qM17, .inl (cI, 8, .inl (M 17))), (qM18, .inl (cI, 8, .inl (M 18))), (qM19, .inl (cI, 12000, .inl (M 19))), (qM20, .inl (cI, 60, .inl (M 20))), (qM21, .inl (cI, 60, .inl (M 21)))]
abbrev rmX6_thrown : Room := { frames := 0, cells := 0, slots := 0, locals := 0 }
def zw_X6_thrown (M : zMem) (post : Int32 → Prop) : Prop := post (M 0 0) 
/-! X6_right -/
def zd_X6_right (cI : ClassId) (adM qM1 qM2 qM3 qM4 qM5 qM6 qM7 qM8 qM12 qM13 qM15 qM16 qM17 qM18 qM19 qM20 qM21 : Nat) (M : zMem) : va_W := [(adM, .inr (5, [.int (M 0 0), .ref qM1, .ref qM2, .ref qM3, .ref qM4, .ref qM5, .ref qM6, .ref qM7, .ref qM8, .int (M 9 0), .int (M 10 0), .int (M 11 0), .ref qM12, .ref qM13, .int (M 14 0), .ref qM15, .ref qM16, .ref qM17, .ref qM18, .ref qM19, .ref qM20, .ref qM21])), (qM1, .inl (cI, 2, .inl (M 1))), (qM2, .inl (cI, 2, .inl (M 2))), (qM3, .inl (cI, 2, .inl (M 3))), (qM4, .inl (cI, 2, .inl (M 4))), (qM5, .inl (cI, 2, .inl (M 5))), (qM6, .inl (cI, 12, .inl (M 6))), (qM7, .inl (cI, 12, .inl (M 7))), (qM8, .inl (cI, 12, .inl (M 8))), (qM12, .inl (cI, 6, .inl (M 12))), (qM13, .inl (cI, 6, .inl (M 13))), (qM15, .inl (cI, 8, .inl (M 15))), (qM16, .inl (cI, 8, .inl (M 16))), (qM17, .inl (cI, 8, .inl (M 17))), (qM18, .inl (cI, 8, .inl (M 18))), (qM19, .inl (cI, 12000, .inl (M 19))), (qM20, .inl (cI, 60, .inl (M 20))), (qM21, .inl (cI, 60, .inl (M 21)))]
abbrev rmX6_right : Room := { frames := 0, cells := 0, slots := 0, locals := 0 }
def zw_X6_right (M : zMem) (a1 : Int32) (a2 : Int32) (post : Int32 → zMem → Prop) : Prop := ((¬ (M 0 0) = 0 → ((¬ (M 0 0) = 0 → (narrow .boolean (.int (0 : Int32)) = .int (0 : Int32) ∧ post (0 : Int32) M)) ∧ ((M 0 0) = 0 → (narrow .boolean (.int (1 : Int32)) = .int (1 : Int32) ∧ post (1 : Int32) M)))) ∧ ((M 0 0) = 0 → ((¬ a1 = 0 → ((¬ (M 0 0) = 0 → (narrow .boolean (.int (0 : Int32)) = .int (0 : Int32) ∧ post (0 : Int32) M)) ∧ ((M 0 0) = 0 → (narrow .boolean (.int (1 : Int32)) = .int (1 : Int32) ∧ post (1 : Int32) M)))) ∧ (a1 = 0 → ((¬ a2 = 0 → (narrow .boolean (.int (0 : Int32)) = .int (0 : Int32) ∧ post (0 : Int32) (zset M 0 (fun _ => a2)))) ∧ (a2 = 0 → (narrow .boolean (.int (1 : Int32)) = .int (1 : Int32) ∧ post (1 : Int32) (zset M 0 (fun _ => a2)))))))))
/-! X6_isStack -/
def zd_X6_isStack (cI : ClassId) (adM qM1 qM2 qM3 qM4 qM5 qM6 qM7 qM8 qM12 qM13 qM15 qM16 qM17 qM18 qM19 qM20 qM21 : Nat) (M : zMem) : va_W := [(adM, .inr (5, [.int (M 0 0), .ref qM1, .ref qM2, .ref qM3, .ref qM4, .ref qM5, .ref qM6, .ref qM7, .ref qM8, .int (M 9 0), .int (M 10 0), .int (M 11 0), .ref qM12, .ref qM13, .int (M 14 0), .ref qM15, .ref qM16, .ref qM17, .ref qM18, .ref qM19, .ref qM20, .ref qM21])), (qM1, .inl (cI, 2, .inl (M 1))), (qM2, .inl (cI, 2, .inl (M 2))), (qM3, .inl (cI, 2, .inl (M 3))), (qM4, .inl (cI, 2, .inl (M 4))), (qM5, .inl (cI, 2, .inl (M 5))), (qM6, .inl (cI, 12, .inl (M 6))), (qM7, .inl (cI, 12, .inl (M 7))), (qM8, .inl (cI, 12, .inl (M 8))), (qM12, .inl (cI, 6, .inl (M 12))), (qM13, .inl (cI, 6, .inl (M 13))), (qM15, .inl (cI, 8, .inl (M 15))), (qM16, .inl (cI, 8, .inl (M 16))), (qM17, .inl (cI, 8, .inl (M 17))), (qM18, .inl (cI, 8, .inl (M 18))), (qM19, .inl (cI, 12000, .inl (M 19))), (qM20, .inl (cI, 60, .inl (M 20))), (qM21, .inl (cI, 60, .inl (M 21)))]
abbrev rmX6_isStack : Room := { frames := 1, cells := 0, slots := 0, locals := 22 }
def zw_X6_isStack (M : zMem) (a1 : Int32) (post : Int32 → zMem → Prop) : Prop := ((a1 = 0 → zw_X6_right (zset M 0 (fun _ => (0 : Int32))) (1 : Int32) (1 : Int32) (fun (v_3 : Int32) (T_2 : zMem) => (narrow .boolean (.int v_3) = .int v_3 ∧ post v_3 T_2))) ∧ (¬ a1 = 0 → ((¬ a1 = (1 : Int32) → zw_X6_right (zset M 0 (fun _ => (0 : Int32))) (0 : Int32) (1 : Int32) (fun (v_7 : Int32) (T_6 : zMem) => (narrow .boolean (.int v_7) = .int v_7 ∧ post v_7 T_6))) ∧ (a1 = (1 : Int32) → zw_X6_right (zset M 0 (fun _ => (0 : Int32))) (1 : Int32) (1 : Int32) (fun (v_10 : Int32) (T_9 : zMem) => (narrow .boolean (.int v_10) = .int v_10 ∧ post v_10 T_9))))))
/-! X6_set -/
def zd_X6_set (cI : ClassId) (adM qM1 qM2 qM3 qM4 qM5 qM6 qM7 qM8 qM12 qM13 qM15 qM16 qM17 qM18 qM19 qM20 qM21 : Nat) (M : zMem) : va_W := [(adM, .inr (5, [.int (M 0 0), .ref qM1, .ref qM2, .ref qM3, .ref qM4, .ref qM5, .ref qM6, .ref qM7, .ref qM8, .int (M 9 0), .int (M 10 0), .int (M 11 0), .ref qM12, .ref qM13, .int (M 14 0), .ref qM15, .ref qM16, .ref qM17, .ref qM18, .ref qM19, .ref qM20, .ref qM21])), (qM1, .inl (cI, 2, .inl (M 1))), (qM2, .inl (cI, 2, .inl (M 2))), (qM3, .inl (cI, 2, .inl (M 3))), (qM4, .inl (cI, 2, .inl (M 4))), (qM5, .inl (cI, 2, .inl (M 5))), (qM6, .inl (cI, 12, .inl (M 6))), (qM7, .inl (cI, 12, .inl (M 7))), (qM8, .inl (cI, 12, .inl (M 8))), (qM12, .inl (cI, 6, .inl (M 12))), (qM13, .inl (cI, 6, .inl (M 13))), (qM15, .inl (cI, 8, .inl (M 15))), (qM16, .inl (cI, 8, .inl (M 16))), (qM17, .inl (cI, 8, .inl (M 17))), (qM18, .inl (cI, 8, .inl (M 18))), (qM19, .inl (cI, 12000, .inl (M 19))), (qM20, .inl (cI, 60, .inl (M 20))), (qM21, .inl (cI, 60, .inl (M 21)))]
abbrev rmX6_set : Room := { frames := 0, cells := 0, slots := 0, locals := 0 }
def zw_X6_set_48 (c1 : Int32) (K99 : zMem → Prop) : Nat → Int64 → zMem → Prop
  | 0, _, _ => False
  | k + 1, p4, M => (((lg_cmp p4 (0 : Int64)) ≤ 0 → (K99 M)) ∧ (¬ (lg_cmp p4 (0 : Int64)) ≤ 0 → (vp_in c1 60 ∧ (vp_in (((200 : Int32) * c1) + ((M 20) (Int32.toNatClampNeg c1))) 12000 ∧ ∀ r_14 : zRow, r_14 = (upd (M 19) (Int32.toNatClampNeg (((200 : Int32) * c1) + ((M 20) (Int32.toNatClampNeg c1)))) (Int64.toInt32 (p4 &&& (32767 : Int64)))) → ((vp_in c1 60 ∧ (vp_in c1 60 ∧ ∀ r_17 : zRow, r_17 = (upd (M 20) (Int32.toNatClampNeg c1) (((M 20) (Int32.toNatClampNeg c1)) + (1 : Int32))) → (∀ x4_18 : Int64, x4_18 = (p4 >>> (Int32.toInt64 (15 : Int32) &&& 63)) → ((zw_X6_set_48 c1 K99 k x4_18 (zset (zset M 19 r_14) 20 r_17)))))))))))
def zw_X6_set (M : zMem) (a1 : Int32) (a2 : Int64) (post : zMem → Prop) : Prop := (∃ KJ_3 : Int64 → Prop, (∀ (v_2 : Int64), KJ_3 v_2 → (∃ KJ_6 : Int32 → Prop, (∀ (v_5 : Int32), KJ_6 v_5 → (vp_in a1 60 ∧ ∀ r_8 : zRow, r_8 = (upd (M 21) (Int32.toNatClampNeg a1) v_5) → ((vp_in a1 60 ∧ ∀ r_10 : zRow, r_10 = (upd (M 20) (Int32.toNatClampNeg a1) (0 : Int32)) → ((∃ kf, zw_X6_set_48 a1 (fun (T_19 : zMem) => post T_19) kf v_2 (zset (zset M 20 r_10) 21 r_8))))))) ∧ ((0 ≤ (lg_cmp a2 (0 : Int64)) → (((lg_cmp a2 (0 : Int64)) ≤ 0 → (KJ_6 (0 : Int32))) ∧ (¬ (lg_cmp a2 (0 : Int64)) ≤ 0 → (KJ_6 (1 : Int32))))) ∧ (¬ 0 ≤ (lg_cmp a2 (0 : Int64)) → (KJ_6 (-1 : Int32)))))) ∧ ((0 ≤ (lg_cmp a2 (0 : Int64)) → (KJ_3 a2)) ∧ (¬ 0 ≤ (lg_cmp a2 (0 : Int64)) → (KJ_3 (-a2)))))
/-! X6_copy -/
def zd_X6_copy (cI : ClassId) (adM qM1 qM2 qM3 qM4 qM5 qM6 qM7 qM8 qM12 qM13 qM15 qM16 qM17 qM18 qM19 qM20 qM21 : Nat) (M : zMem) : va_W := [(adM, .inr (5, [.int (M 0 0), .ref qM1, .ref qM2, .ref qM3, .ref qM4, .ref qM5, .ref qM6, .ref qM7, .ref qM8, .int (M 9 0), .int (M 10 0), .int (M 11 0), .ref qM12, .ref qM13, .int (M 14 0), .ref qM15, .ref qM16, .ref qM17, .ref qM18, .ref qM19, .ref qM20, .ref qM21])), (qM1, .inl (cI, 2, .inl (M 1))), (qM2, .inl (cI, 2, .inl (M 2))), (qM3, .inl (cI, 2, .inl (M 3))), (qM4, .inl (cI, 2, .inl (M 4))), (qM5, .inl (cI, 2, .inl (M 5))), (qM6, .inl (cI, 12, .inl (M 6))), (qM7, .inl (cI, 12, .inl (M 7))), (qM8, .inl (cI, 12, .inl (M 8))), (qM12, .inl (cI, 6, .inl (M 12))), (qM13, .inl (cI, 6, .inl (M 13))), (qM15, .inl (cI, 8, .inl (M 15))), (qM16, .inl (cI, 8, .inl (M 16))), (qM17, .inl (cI, 8, .inl (M 17))), (qM18, .inl (cI, 8, .inl (M 18))), (qM19, .inl (cI, 12000, .inl (M 19))), (qM20, .inl (cI, 60, .inl (M 20))), (qM21, .inl (cI, 60, .inl (M 21)))]
abbrev rmX6_copy : Room := { frames := 0, cells := 0, slots := 0, locals := 0 }
def zw_X6_copy_2 (c1 : Int32) (c2 : Int32) (K42 : zMem → Prop) : Nat → Int32 → zMem → Prop
  | 0, _, _ => False
  | k + 1, p3, M => (vp_in c2 60 ∧ ((((M 20) (Int32.toNatClampNeg c2)) ≤ p3 → (K42 M)) ∧ (¬ ((M 20) (Int32.toNatClampNeg c2)) ≤ p3 → (vp_in (((200 : Int32) * c2) + p3) 12000 ∧ (vp_in (((200 : Int32) * c1) + p3) 12000 ∧ ∀ r_5 : zRow, r_5 = (upd (M 19) (Int32.toNatClampNeg (((200 : Int32) * c1) + p3)) ((M 19) (Int32.toNatClampNeg (((200 : Int32) * c2) + p3)))) → (∀ x3_6 : Int32, x3_6 = p3 + (1 : Int32) → ((zw_X6_copy_2 c1 c2 K42 k x3_6 (zset M 19 r_5)))))))))
def zw_X6_copy (M : zMem) (a1 : Int32) (a2 : Int32) (post : zMem → Prop) : Prop := (∃ kf, zw_X6_copy_2 a1 a2 (fun (T_7 : zMem) => (vp_in a2 60 ∧ (vp_in a1 60 ∧ ∀ r_10 : zRow, r_10 = (upd (T_7 20) (Int32.toNatClampNeg a1) ((T_7 20) (Int32.toNatClampNeg a2))) → ((vp_in a2 60 ∧ (vp_in a1 60 ∧ ∀ r_13 : zRow, r_13 = (upd (T_7 21) (Int32.toNatClampNeg a1) ((T_7 21) (Int32.toNatClampNeg a2))) → (post (zset (zset T_7 20 r_10) 21 r_13)))))))) kf (0 : Int32) M)
/-! X6_at -/
def zd_X6_at (cI : ClassId) (adM qM1 qM2 qM3 qM4 qM5 qM6 qM7 qM8 qM12 qM13 qM15 qM16 qM17 qM18 qM19 qM20 qM21 : Nat) (M : zMem) : va_W := [(adM, .inr (5, [.int (M 0 0), .ref qM1, .ref qM2, .ref qM3, .ref qM4, .ref qM5, .ref qM6, .ref qM7, .ref qM8, .int (M 9 0), .int (M 10 0), .int (M 11 0), .ref qM12, .ref qM13, .int (M 14 0), .ref qM15, .ref qM16, .ref qM17, .ref qM18, .ref qM19, .ref qM20, .ref qM21])), (qM1, .inl (cI, 2, .inl (M 1))), (qM2, .inl (cI, 2, .inl (M 2))), (qM3, .inl (cI, 2, .inl (M 3))), (qM4, .inl (cI, 2, .inl (M 4))), (qM5, .inl (cI, 2, .inl (M 5))), (qM6, .inl (cI, 12, .inl (M 6))), (qM7, .inl (cI, 12, .inl (M 7))), (qM8, .inl (cI, 12, .inl (M 8))), (qM12, .inl (cI, 6, .inl (M 12))), (qM13, .inl (cI, 6, .inl (M 13))), (qM15, .inl (cI, 8, .inl (M 15))), (qM16, .inl (cI, 8, .inl (M 16))), (qM17, .inl (cI, 8, .inl (M 17))), (qM18, .inl (cI, 8, .inl (M 18))), (qM19, .inl (cI, 12000, .inl (M 19))), (qM20, .inl (cI, 60, .inl (M 20))), (qM21, .inl (cI, 60, .inl (M 21)))]
abbrev rmX6_at : Room := { frames := 0, cells := 0, slots := 0, locals := 0 }
def zw_X6_at (M : zMem) (a1 : Int32) (a2 : Int32) (post : Int32 → Prop) : Prop := (vp_in a1 60 ∧ ((((M 20) (Int32.toNatClampNeg a1)) ≤ a2 → post (0 : Int32) ) ∧ (¬ ((M 20) (Int32.toNatClampNeg a1)) ≤ a2 → (vp_in (((200 : Int32) * a1) + a2) 12000 ∧ post ((M 19) (Int32.toNatClampNeg (((200 : Int32) * a1) + a2))) ))))
/-! X6_trim -/
def zd_X6_trim (cI : ClassId) (adM qM1 qM2 qM3 qM4 qM5 qM6 qM7 qM8 qM12 qM13 qM15 qM16 qM17 qM18 qM19 qM20 qM21 : Nat) (M : zMem) : va_W := [(adM, .inr (5, [.int (M 0 0), .ref qM1, .ref qM2, .ref qM3, .ref qM4, .ref qM5, .ref qM6, .ref qM7, .ref qM8, .int (M 9 0), .int (M 10 0), .int (M 11 0), .ref qM12, .ref qM13, .int (M 14 0), .ref qM15, .ref qM16, .ref qM17, .ref qM18, .ref qM19, .ref qM20, .ref qM21])), (qM1, .inl (cI, 2, .inl (M 1))), (qM2, .inl (cI, 2, .inl (M 2))), (qM3, .inl (cI, 2, .inl (M 3))), (qM4, .inl (cI, 2, .inl (M 4))), (qM5, .inl (cI, 2, .inl (M 5))), (qM6, .inl (cI, 12, .inl (M 6))), (qM7, .inl (cI, 12, .inl (M 7))), (qM8, .inl (cI, 12, .inl (M 8))), (qM12, .inl (cI, 6, .inl (M 12))), (qM13, .inl (cI, 6, .inl (M 13))), (qM15, .inl (cI, 8, .inl (M 15))), (qM16, .inl (cI, 8, .inl (M 16))), (qM17, .inl (cI, 8, .inl (M 17))), (qM18, .inl (cI, 8, .inl (M 18))), (qM19, .inl (cI, 12000, .inl (M 19))), (qM20, .inl (cI, 60, .inl (M 20))), (qM21, .inl (cI, 60, .inl (M 21)))]
abbrev rmX6_trim : Room := { frames := 0, cells := 0, slots := 0, locals := 0 }
def zw_X6_trim_7 (c1 : Int32) (K51 : zMem → Prop) : Nat → zMem → Prop
  | 0, _ => False
  | k + 1, M => (vp_in c1 60 ∧ ((((M 20) (Int32.toNatClampNeg c1)) ≤ 0 → (K51 M)) ∧ (¬ ((M 20) (Int32.toNatClampNeg c1)) ≤ 0 → (vp_in c1 60 ∧ (vp_in ((((200 : Int32) * c1) + ((M 20) (Int32.toNatClampNeg c1))) - (1 : Int32)) 12000 ∧ ((¬ ((M 19) (Int32.toNatClampNeg ((((200 : Int32) * c1) + ((M 20) (Int32.toNatClampNeg c1))) - (1 : Int32)))) = 0 → (K51 M)) ∧ (((M 19) (Int32.toNatClampNeg ((((200 : Int32) * c1) + ((M 20) (Int32.toNatClampNeg c1))) - (1 : Int32)))) = 0 → (vp_in c1 60 ∧ (vp_in c1 60 ∧ ∀ r_10 : zRow, r_10 = (upd (M 20) (Int32.toNatClampNeg c1) (((M 20) (Int32.toNatClampNeg c1)) - (1 : Int32))) → ((zw_X6_trim_7 c1 K51 k (zset M 20 r_10))))))))))))
def zw_X6_trim (M : zMem) (a1 : Int32) (a2 : Int32) (post : zMem → Prop) : Prop := (vp_in a1 60 ∧ ∀ r_2 : zRow, r_2 = (upd (M 20) (Int32.toNatClampNeg a1) a2) → ((∃ kf, zw_X6_trim_7 a1 (fun (T_11 : zMem) => (vp_in a1 60 ∧ ((¬ ((T_11 20) (Int32.toNatClampNeg a1)) = 0 → post T_11) ∧ (((T_11 20) (Int32.toNatClampNeg a1)) = 0 → (vp_in a1 60 ∧ ∀ r_15 : zRow, r_15 = (upd (T_11 21) (Int32.toNatClampNeg a1) (0 : Int32)) → (post (zset T_11 21 r_15))))))) kf (zset M 20 r_2))))
/-! X6_compareSizes -/
def zd_X6_compareSizes (cI : ClassId) (adM qM1 qM2 qM3 qM4 qM5 qM6 qM7 qM8 qM12 qM13 qM15 qM16 qM17 qM18 qM19 qM20 qM21 : Nat) (M : zMem) : va_W := [(adM, .inr (5, [.int (M 0 0), .ref qM1, .ref qM2, .ref qM3, .ref qM4, .ref qM5, .ref qM6, .ref qM7, .ref qM8, .int (M 9 0), .int (M 10 0), .int (M 11 0), .ref qM12, .ref qM13, .int (M 14 0), .ref qM15, .ref qM16, .ref qM17, .ref qM18, .ref qM19, .ref qM20, .ref qM21])), (qM1, .inl (cI, 2, .inl (M 1))), (qM2, .inl (cI, 2, .inl (M 2))), (qM3, .inl (cI, 2, .inl (M 3))), (qM4, .inl (cI, 2, .inl (M 4))), (qM5, .inl (cI, 2, .inl (M 5))), (qM6, .inl (cI, 12, .inl (M 6))), (qM7, .inl (cI, 12, .inl (M 7))), (qM8, .inl (cI, 12, .inl (M 8))), (qM12, .inl (cI, 6, .inl (M 12))), (qM13, .inl (cI, 6, .inl (M 13))), (qM15, .inl (cI, 8, .inl (M 15))), (qM16, .inl (cI, 8, .inl (M 16))), (qM17, .inl (cI, 8, .inl (M 17))), (qM18, .inl (cI, 8, .inl (M 18))), (qM19, .inl (cI, 12000, .inl (M 19))), (qM20, .inl (cI, 60, .inl (M 20))), (qM21, .inl (cI, 60, .inl (M 21)))]
abbrev rmX6_compareSizes : Room := { frames := 1, cells := 0, slots := 0, locals := 22 }
def zw_X6_compareSizes_45 (M : zMem) (c1 : Int32) (c2 : Int32) (K64 : Int32 → Prop) (K91 : Prop) : Nat → Int32 → Prop
  | 0, _ => False
  | k + 1, p3 => ((p3 < 0 → (K91 )) ∧ (¬ p3 < 0 → zw_X6_at M c1 p3 (fun (v_7 : Int32) => zw_X6_at M c2 p3 (fun (v_8 : Int32) => ((v_7 = v_8 → ∀ x3_10 : Int32, x3_10 = p3 + (-1 : Int32) → ((zw_X6_compareSizes_45 M c1 c2 K64 K91 k x3_10))) ∧ (¬ v_7 = v_8 → (K64 p3)))))))
def zw_X6_compareSizes (M : zMem) (a1 : Int32) (a2 : Int32) (post : Int32 → Prop) : Prop := (vp_in a1 60 ∧ (vp_in a2 60 ∧ ((((M 20) (Int32.toNatClampNeg a1)) = ((M 20) (Int32.toNatClampNeg a2)) → (vp_in a1 60 ∧ ∀ x3_5 : Int32, x3_5 = (((M 20) (Int32.toNatClampNeg a1)) - (1 : Int32)) → ((∃ kf, zw_X6_compareSizes_45 M a1 a2 (fun (x3_11 : Int32) => zw_X6_at M a1 x3_11 (fun (v_12 : Int32) => zw_X6_at M a2 x3_11 (fun (v_13 : Int32) => ((v_13 ≤ v_12 → post (1 : Int32) ) ∧ (¬ v_13 ≤ v_12 → post (-1 : Int32) ))))) (post (0 : Int32) ) kf x3_5)))) ∧ (¬ ((M 20) (Int32.toNatClampNeg a1)) = ((M 20) (Int32.toNatClampNeg a2)) → (vp_in a1 60 ∧ (vp_in a2 60 ∧ ((((M 20) (Int32.toNatClampNeg a2)) ≤ ((M 20) (Int32.toNatClampNeg a1)) → post (1 : Int32) ) ∧ (¬ ((M 20) (Int32.toNatClampNeg a2)) ≤ ((M 20) (Int32.toNatClampNeg a1)) → post (-1 : Int32) ))))))))
/-! X6_compare -/
def zd_X6_compare (cI : ClassId) (adM qM1 qM2 qM3 qM4 qM5 qM6 qM7 qM8 qM12 qM13 qM15 qM16 qM17 qM18 qM19 qM20 qM21 : Nat) (M : zMem) : va_W := [(adM, .inr (5, [.int (M 0 0), .ref qM1, .ref qM2, .ref qM3, .ref qM4, .ref qM5, .ref qM6, .ref qM7, .ref qM8, .int (M 9 0), .int (M 10 0), .int (M 11 0), .ref qM12, .ref qM13, .int (M 14 0), .ref qM15, .ref qM16, .ref qM17, .ref qM18, .ref qM19, .ref qM20, .ref qM21])), (qM1, .inl (cI, 2, .inl (M 1))), (qM2, .inl (cI, 2, .inl (M 2))), (qM3, .inl (cI, 2, .inl (M 3))), (qM4, .inl (cI, 2, .inl (M 4))), (qM5, .inl (cI, 2, .inl (M 5))), (qM6, .inl (cI, 12, .inl (M 6))), (qM7, .inl (cI, 12, .inl (M 7))), (qM8, .inl (cI, 12, .inl (M 8))), (qM12, .inl (cI, 6, .inl (M 12))), (qM13, .inl (cI, 6, .inl (M 13))), (qM15, .inl (cI, 8, .inl (M 15))), (qM16, .inl (cI, 8, .inl (M 16))), (qM17, .inl (cI, 8, .inl (M 17))), (qM18, .inl (cI, 8, .inl (M 18))), (qM19, .inl (cI, 12000, .inl (M 19))), (qM20, .inl (cI, 60, .inl (M 20))), (qM21, .inl (cI, 60, .inl (M 21)))]
abbrev rmX6_compare : Room := { frames := 2, cells := 0, slots := 0, locals := 45 }
def zw_X6_compare (M : zMem) (a1 : Int32) (a2 : Int32) (post : Int32 → Prop) : Prop := (vp_in a1 60 ∧ (vp_in a2 60 ∧ ((((M 21) (Int32.toNatClampNeg a1)) = ((M 21) (Int32.toNatClampNeg a2)) → (vp_in a1 60 ∧ ((0 ≤ ((M 21) (Int32.toNatClampNeg a1)) → zw_X6_compareSizes M a1 a2 (fun (v_6 : Int32) => post v_6 )) ∧ (¬ 0 ≤ ((M 21) (Int32.toNatClampNeg a1)) → zw_X6_compareSizes M a2 a1 (fun (v_7 : Int32) => post v_7 ))))) ∧ (¬ ((M 21) (Int32.toNatClampNeg a1)) = ((M 21) (Int32.toNatClampNeg a2)) → (vp_in a1 60 ∧ (vp_in a2 60 ∧ ((((M 21) (Int32.toNatClampNeg a2)) ≤ ((M 21) (Int32.toNatClampNeg a1)) → post (1 : Int32) ) ∧ (¬ ((M 21) (Int32.toNatClampNeg a2)) ≤ ((M 21) (Int32.toNatClampNeg a1)) → post (-1 : Int32) ))))))))
/-! X6_add -/
def zd_X6_add (cI : ClassId) (adM qM1 qM2 qM3 qM4 qM5 qM6 qM7 qM8 qM12 qM13 qM15 qM16 qM17 qM18 qM19 qM20 qM21 : Nat) (M : zMem) : va_W := [(adM, .inr (5, [.int (M 0 0), .ref qM1, .ref qM2, .ref qM3, .ref qM4, .ref qM5, .ref qM6, .ref qM7, .ref qM8, .int (M 9 0), .int (M 10 0), .int (M 11 0), .ref qM12, .ref qM13, .int (M 14 0), .ref qM15, .ref qM16, .ref qM17, .ref qM18, .ref qM19, .ref qM20, .ref qM21])), (qM1, .inl (cI, 2, .inl (M 1))), (qM2, .inl (cI, 2, .inl (M 2))), (qM3, .inl (cI, 2, .inl (M 3))), (qM4, .inl (cI, 2, .inl (M 4))), (qM5, .inl (cI, 2, .inl (M 5))), (qM6, .inl (cI, 12, .inl (M 6))), (qM7, .inl (cI, 12, .inl (M 7))), (qM8, .inl (cI, 12, .inl (M 8))), (qM12, .inl (cI, 6, .inl (M 12))), (qM13, .inl (cI, 6, .inl (M 13))), (qM15, .inl (cI, 8, .inl (M 15))), (qM16, .inl (cI, 8, .inl (M 16))), (qM17, .inl (cI, 8, .inl (M 17))), (qM18, .inl (cI, 8, .inl (M 18))), (qM19, .inl (cI, 12000, .inl (M 19))), (qM20, .inl (cI, 60, .inl (M 20))), (qM21, .inl (cI, 60, .inl (M 21)))]
abbrev rmX6_add : Room := { frames := 2, cells := 0, slots := 0, locals := 45 }
def zw_X6_add_219 (c1 : Int32) (c4 : Int32) (c5 : Int32) (c6 : Int32) (c8 : Int32) (c9 : Int32) (c10 : Int32) (K280 : zMem → Prop) : Nat → Int32 → Int32 → zMem → Prop
  | 0, _, _, _ => False
  | k + 1, p7, p11, M => ((c6 ≤ p11 → (K280 M)) ∧ (¬ c6 ≤ p11 → zw_X6_at M c9 p11 (fun (v_23 : Int32) => zw_X6_at M c10 p11 (fun (v_24 : Int32) => ∀ x12_25 : Int32, x12_25 = ((v_23 - v_24) + p7) → ((vp_in (((200 : Int32) * c1) + p11) 12000 ∧ ∀ r_27 : zRow, r_27 = (upd (M 19) (Int32.toNatClampNeg (((200 : Int32) * c1) + p11)) (x12_25 &&& (32767 : Int32))) → (∀ x7_28 : Int32, x7_28 = (x12_25 >>> ((15 : Int32) &&& 31)) → (∀ x11_29 : Int32, x11_29 = p11 + (1 : Int32) → ((zw_X6_add_219 c1 c4 c5 c6 c8 c9 c10 K280 k x7_28 x11_29 (zset M 19 r_27)))))))))))
def zw_X6_add_84 (c1 : Int32) (c2 : Int32) (c3 : Int32) (c5 : Int32) (c6 : Int32) (K143 : Int32 → zMem → Prop) : Nat → Int32 → Int32 → zMem → Prop
  | 0, _, _, _ => False
  | k + 1, p7, p8, M => ((c6 ≤ p8 → (K143 p7 M)) ∧ (¬ c6 ≤ p8 → zw_X6_at M c2 p8 (fun (v_39 : Int32) => zw_X6_at M c3 p8 (fun (v_40 : Int32) => ∀ x9_41 : Int32, x9_41 = ((v_39 + v_40) + p7) → ((vp_in (((200 : Int32) * c1) + p8) 12000 ∧ ∀ r_43 : zRow, r_43 = (upd (M 19) (Int32.toNatClampNeg (((200 : Int32) * c1) + p8)) (x9_41 &&& (32767 : Int32))) → (∀ x7_44 : Int32, x7_44 = (x9_41 >>> ((15 : Int32) &&& 31)) → (∀ x8_45 : Int32, x8_45 = p8 + (1 : Int32) → ((zw_X6_add_84 c1 c2 c3 c5 c6 K143 k x7_44 x8_45 (zset M 19 r_43)))))))))))
def zw_X6_add (M : zMem) (a1 : Int32) (a2 : Int32) (a3 : Int32) (a4 : Int32) (post : zMem → Prop) : Prop := ((¬ a4 = 0 → (vp_in a2 60 ∧ (∃ KJ_5 : Int32 → Prop, (∀ (v_4 : Int32), KJ_5 v_4 → (vp_in a2 60 ∧ (vp_in a3 60 ∧ (∃ KJ_10 : Int32 → Prop, (∀ (v_9 : Int32), KJ_10 v_9 → ((¬ v_4 = a4 → zw_X6_compareSizes M a2 a3 (fun (v_12 : Int32) => (∃ KJ_15 : Int32 → Prop, (∀ (v_14 : Int32), KJ_15 v_14 → (∃ KJ_18 : Int32 → Prop, (∀ (v_17 : Int32), KJ_18 v_17 → (∃ KJ_21 : Int32 → Prop, (∀ (v_20 : Int32), KJ_21 v_20 → (∃ kf, zw_X6_add_219 a1 a4 v_4 v_9 v_14 v_17 v_20 (fun (T_30 : zMem) => ((v_14 = 0 → (vp_in a1 60 ∧ ∀ r_33 : zRow, r_33 = (upd (T_30 21) (Int32.toNatClampNeg a1) v_4) → (zw_X6_trim (zset T_30 21 r_33) a1 v_9 (fun (T_34 : zMem) => post T_34)))) ∧ (¬ v_14 = 0 → (vp_in a1 60 ∧ ∀ r_36 : zRow, r_36 = (upd (T_30 21) (Int32.toNatClampNeg a1) a4) → (zw_X6_trim (zset T_30 21 r_36) a1 v_9 (fun (T_37 : zMem) => post T_37)))))) kf (0 : Int32) (0 : Int32) M)) ∧ ((v_14 = 0 → (KJ_21 a3)) ∧ (¬ v_14 = 0 → (KJ_21 a2))))) ∧ ((v_14 = 0 → (KJ_18 a2)) ∧ (¬ v_14 = 0 → (KJ_18 a3))))) ∧ ((0 ≤ v_12 → (KJ_15 (0 : Int32))) ∧ (¬ 0 ≤ v_12 → (KJ_15 (1 : Int32))))))) ∧ (v_4 = a4 → (∃ kf, zw_X6_add_84 a1 a2 a3 v_4 v_9 (fun (x7_46 : Int32) (T_47 : zMem) => (vp_in (((200 : Int32) * a1) + v_9) 12000 ∧ ∀ r_49 : zRow, r_49 = (upd (T_47 19) (Int32.toNatClampNeg (((200 : Int32) * a1) + v_9)) x7_46) → ((vp_in a1 60 ∧ ∀ r_51 : zRow, r_51 = (upd (T_47 21) (Int32.toNatClampNeg a1) v_4) → (zw_X6_trim (zset (zset T_47 19 r_49) 21 r_51) a1 (v_9 + (1 : Int32)) (fun (T_52 : zMem) => post T_52)))))) kf (0 : Int32) (0 : Int32) M)))) ∧ ((((M 20) (Int32.toNatClampNeg a2)) ≤ ((M 20) (Int32.toNatClampNeg a3)) → (vp_in a3 60 ∧ (KJ_10 ((M 20) (Int32.toNatClampNeg a3))))) ∧ (¬ ((M 20) (Int32.toNatClampNeg a2)) ≤ ((M 20) (Int32.toNatClampNeg a3)) → (vp_in a2 60 ∧ (KJ_10 ((M 20) (Int32.toNatClampNeg a2)))))))))) ∧ ((¬ ((M 21) (Int32.toNatClampNeg a2)) = 0 → (vp_in a2 60 ∧ (KJ_5 ((M 21) (Int32.toNatClampNeg a2))))) ∧ (((M 21) (Int32.toNatClampNeg a2)) = 0 → (KJ_5 a4)))))) ∧ (a4 = 0 → ((a1 = a2 → post M) ∧ (¬ a1 = a2 → zw_X6_copy M a1 a2 (fun (T_57 : zMem) => post T_57)))))
/-! X6_plus -/
def zd_X6_plus (cI : ClassId) (adM qM1 qM2 qM3 qM4 qM5 qM6 qM7 qM8 qM12 qM13 qM15 qM16 qM17 qM18 qM19 qM20 qM21 : Nat) (M : zMem) : va_W := [(adM, .inr (5, [.int (M 0 0), .ref qM1, .ref qM2, .ref qM3, .ref qM4, .ref qM5, .ref qM6, .ref qM7, .ref qM8, .int (M 9 0), .int (M 10 0), .int (M 11 0), .ref qM12, .ref qM13, .int (M 14 0), .ref qM15, .ref qM16, .ref qM17, .ref qM18, .ref qM19, .ref qM20, .ref qM21])), (qM1, .inl (cI, 2, .inl (M 1))), (qM2, .inl (cI, 2, .inl (M 2))), (qM3, .inl (cI, 2, .inl (M 3))), (qM4, .inl (cI, 2, .inl (M 4))), (qM5, .inl (cI, 2, .inl (M 5))), (qM6, .inl (cI, 12, .inl (M 6))), (qM7, .inl (cI, 12, .inl (M 7))), (qM8, .inl (cI, 12, .inl (M 8))), (qM12, .inl (cI, 6, .inl (M 12))), (qM13, .inl (cI, 6, .inl (M 13))), (qM15, .inl (cI, 8, .inl (M 15))), (qM16, .inl (cI, 8, .inl (M 16))), (qM17, .inl (cI, 8, .inl (M 17))), (qM18, .inl (cI, 8, .inl (M 18))), (qM19, .inl (cI, 12000, .inl (M 19))), (qM20, .inl (cI, 60, .inl (M 20))), (qM21, .inl (cI, 60, .inl (M 21)))]
abbrev rmX6_plus : Room := { frames := 3, cells := 0, slots := 0, locals := 77 }
def zw_X6_plus (M : zMem) (a1 : Int32) (a2 : Int32) (a3 : Int32) (post : zMem → Prop) : Prop := (vp_in a3 60 ∧ zw_X6_add M a1 a2 a3 ((M 21) (Int32.toNatClampNeg a3)) (fun (T_2 : zMem) => post T_2))
/-! X6_minus -/
def zd_X6_minus (cI : ClassId) (adM qM1 qM2 qM3 qM4 qM5 qM6 qM7 qM8 qM12 qM13 qM15 qM16 qM17 qM18 qM19 qM20 qM21 : Nat) (M : zMem) : va_W := [(adM, .inr (5, [.int (M 0 0), .ref qM1, .ref qM2, .ref qM3, .ref qM4, .ref qM5, .ref qM6, .ref qM7, .ref qM8, .int (M 9 0), .int (M 10 0), .int (M 11 0), .ref qM12, .ref qM13, .int (M 14 0), .ref qM15, .ref qM16, .ref qM17, .ref qM18, .ref qM19, .ref qM20, .ref qM21])), (qM1, .inl (cI, 2, .inl (M 1))), (qM2, .inl (cI, 2, .inl (M 2))), (qM3, .inl (cI, 2, .inl (M 3))), (qM4, .inl (cI, 2, .inl (M 4))), (qM5, .inl (cI, 2, .inl (M 5))), (qM6, .inl (cI, 12, .inl (M 6))), (qM7, .inl (cI, 12, .inl (M 7))), (qM8, .inl (cI, 12, .inl (M 8))), (qM12, .inl (cI, 6, .inl (M 12))), (qM13, .inl (cI, 6, .inl (M 13))), (qM15, .inl (cI, 8, .inl (M 15))), (qM16, .inl (cI, 8, .inl (M 16))), (qM17, .inl (cI, 8, .inl (M 17))), (qM18, .inl (cI, 8, .inl (M 18))), (qM19, .inl (cI, 12000, .inl (M 19))), (qM20, .inl (cI, 60, .inl (M 20))), (qM21, .inl (cI, 60, .inl (M 21)))]
abbrev rmX6_minus : Room := { frames := 3, cells := 0, slots := 0, locals := 77 }
def zw_X6_minus (M : zMem) (a1 : Int32) (a2 : Int32) (a3 : Int32) (post : zMem → Prop) : Prop := (vp_in a3 60 ∧ zw_X6_add M a1 a2 a3 (-((M 21) (Int32.toNatClampNeg a3))) (fun (T_2 : zMem) => post T_2))
/-! X6_times -/
def zd_X6_times (cI : ClassId) (adM qM1 qM2 qM3 qM4 qM5 qM6 qM7 qM8 qM12 qM13 qM15 qM16 qM17 qM18 qM19 qM20 qM21 : Nat) (M : zMem) : va_W := [(adM, .inr (5, [.int (M 0 0), .ref qM1, .ref qM2, .ref qM3, .ref qM4, .ref qM5, .ref qM6, .ref qM7, .ref qM8, .int (M 9 0), .int (M 10 0), .int (M 11 0), .ref qM12, .ref qM13, .int (M 14 0), .ref qM15, .ref qM16, .ref qM17, .ref qM18, .ref qM19, .ref qM20, .ref qM21])), (qM1, .inl (cI, 2, .inl (M 1))), (qM2, .inl (cI, 2, .inl (M 2))), (qM3, .inl (cI, 2, .inl (M 3))), (qM4, .inl (cI, 2, .inl (M 4))), (qM5, .inl (cI, 2, .inl (M 5))), (qM6, .inl (cI, 12, .inl (M 6))), (qM7, .inl (cI, 12, .inl (M 7))), (qM8, .inl (cI, 12, .inl (M 8))), (qM12, .inl (cI, 6, .inl (M 12))), (qM13, .inl (cI, 6, .inl (M 13))), (qM15, .inl (cI, 8, .inl (M 15))), (qM16, .inl (cI, 8, .inl (M 16))), (qM17, .inl (cI, 8, .inl (M 17))), (qM18, .inl (cI, 8, .inl (M 18))), (qM19, .inl (cI, 12000, .inl (M 19))), (qM20, .inl (cI, 60, .inl (M 20))), (qM21, .inl (cI, 60, .inl (M 21)))]
abbrev rmX6_times : Room := { frames := 1, cells := 0, slots := 0, locals := 22 }
def zw_X6_times_18 (c1 : Int32) (c2 : Int32) (c3 : Int32) (c4 : Int32) (K45 : zMem → Prop) : Nat → Int32 → zMem → Prop
  | 0, _, _ => False
  | k + 1, p5, M => ((c4 ≤ p5 → (K45 M)) ∧ (¬ c4 ≤ p5 → (vp_in (((200 : Int32) * c1) + p5) 12000 ∧ ∀ r_6 : zRow, r_6 = (upd (M 19) (Int32.toNatClampNeg (((200 : Int32) * c1) + p5)) (0 : Int32)) → (∀ x5_7 : Int32, x5_7 = p5 + (1 : Int32) → ((zw_X6_times_18 c1 c2 c3 c4 K45 k x5_7 (zset M 19 r_6)))))))
def zw_X6_times_65 (c1 : Int32) (c2 : Int32) (c3 : Int32) (c4 : Int32) (c5 : Int32) (K152 : Int64 → zMem → Prop) : Nat → Int64 → Int32 → zMem → Prop
  | 0, _, _, _ => False
  | k + 1, p6, p8, M => (vp_in c3 60 ∧ ((((M 20) (Int32.toNatClampNeg c3)) ≤ p8 → (K152 p6 M)) ∧ (¬ ((M 20) (Int32.toNatClampNeg c3)) ≤ p8 → zw_X6_at M c2 c5 (fun (v_13 : Int32) => zw_X6_at M c3 p8 (fun (v_14 : Int32) => (vp_in ((((200 : Int32) * c1) + c5) + p8) 12000 ∧ ∀ x9_16 : Int64, x9_16 = ((((Int32.toInt64 v_13) * (Int32.toInt64 v_14)) + (Int32.toInt64 ((M 19) (Int32.toNatClampNeg ((((200 : Int32) * c1) + c5) + p8))))) + p6) → ((vp_in ((((200 : Int32) * c1) + c5) + p8) 12000 ∧ ∀ r_18 : zRow, r_18 = (upd (M 19) (Int32.toNatClampNeg ((((200 : Int32) * c1) + c5) + p8)) (Int64.toInt32 (x9_16 &&& (32767 : Int64)))) → (∀ x6_19 : Int64, x6_19 = (x9_16 >>> (Int32.toInt64 (15 : Int32) &&& 63)) → (∀ x8_20 : Int32, x8_20 = p8 + (1 : Int32) → ((zw_X6_times_65 c1 c2 c3 c4 c5 K152 k x6_19 x8_20 (zset M 19 r_18)))))))))))))
def zw_X6_times_48 (c1 : Int32) (c2 : Int32) (c3 : Int32) (c4 : Int32) (K181 : zMem → Prop) : Nat → Int32 → zMem → Prop
  | 0, _, _ => False
  | k + 1, p5, M => (vp_in c2 60 ∧ ((((M 20) (Int32.toNatClampNeg c2)) ≤ p5 → (K181 M)) ∧ (¬ ((M 20) (Int32.toNatClampNeg c2)) ≤ p5 → (∃ kf, zw_X6_times_65 c1 c2 c3 c4 p5 (fun (x6_21 : Int64) (T_22 : zMem) => (vp_in c3 60 ∧ (vp_in ((((200 : Int32) * c1) + p5) + ((T_22 20) (Int32.toNatClampNeg c3))) 12000 ∧ ∀ r_25 : zRow, r_25 = (upd (T_22 19) (Int32.toNatClampNeg ((((200 : Int32) * c1) + p5) + ((T_22 20) (Int32.toNatClampNeg c3)))) (Int64.toInt32 x6_21)) → (∀ x5_26 : Int32, x5_26 = p5 + (1 : Int32) → ((zw_X6_times_48 c1 c2 c3 c4 K181 k x5_26 (zset T_22 19 r_25))))))) kf (0 : Int64) (0 : Int32) M))))
def zw_X6_times (M : zMem) (a1 : Int32) (a2 : Int32) (a3 : Int32) (post : zMem → Prop) : Prop := (vp_in a2 60 ∧ (vp_in a3 60 ∧ ∀ x4_3 : Int32, x4_3 = (((M 20) (Int32.toNatClampNeg a2)) + ((M 20) (Int32.toNatClampNeg a3))) → ((∃ kf, zw_X6_times_18 a1 a2 a3 x4_3 (fun (T_8 : zMem) => (∃ kf, zw_X6_times_48 a1 a2 a3 x4_3 (fun (T_27 : zMem) => (vp_in a2 60 ∧ (vp_in a3 60 ∧ (vp_in a1 60 ∧ ∀ r_31 : zRow, r_31 = (upd (T_27 21) (Int32.toNatClampNeg a1) (((T_27 21) (Int32.toNatClampNeg a2)) * ((T_27 21) (Int32.toNatClampNeg a3)))) → (zw_X6_trim (zset T_27 21 r_31) a1 x4_3 (fun (T_32 : zMem) => post T_32)))))) kf (0 : Int32) T_8)) kf (0 : Int32) M))))
/-! X6_by -/
def zd_X6_by (cI : ClassId) (adM qM1 qM2 qM3 qM4 qM5 qM6 qM7 qM8 qM12 qM13 qM15 qM16 qM17 qM18 qM19 qM20 qM21 : Nat) (M : zMem) : va_W := [(adM, .inr (5, [.int (M 0 0), .ref qM1, .ref qM2, .ref qM3, .ref qM4, .ref qM5, .ref qM6, .ref qM7, .ref qM8, .int (M 9 0), .int (M 10 0), .int (M 11 0), .ref qM12, .ref qM13, .int (M 14 0), .ref qM15, .ref qM16, .ref qM17, .ref qM18, .ref qM19, .ref qM20, .ref qM21])), (qM1, .inl (cI, 2, .inl (M 1))), (qM2, .inl (cI, 2, .inl (M 2))), (qM3, .inl (cI, 2, .inl (M 3))), (qM4, .inl (cI, 2, .inl (M 4))), (qM5, .inl (cI, 2, .inl (M 5))), (qM6, .inl (cI, 12, .inl (M 6))), (qM7, .inl (cI, 12, .inl (M 7))), (qM8, .inl (cI, 12, .inl (M 8))), (qM12, .inl (cI, 6, .inl (M 12))), (qM13, .inl (cI, 6, .inl (M 13))), (qM15, .inl (cI, 8, .inl (M 15))), (qM16, .inl (cI, 8, .inl (M 16))), (qM17, .inl (cI, 8, .inl (M 17))), (qM18, .inl (cI, 8, .inl (M 18))), (qM19, .inl (cI, 12000, .inl (M 19))), (qM20, .inl (cI, 60, .inl (M 20))), (qM21, .inl (cI, 60, .inl (M 21)))]
abbrev rmX6_by : Room := { frames := 2, cells := 0, slots := 0, locals := 52 }
def zw_X6_by (M : zMem) (a1 : Int32) (a2 : Int64) (post : zMem → Prop) : Prop := zw_X6_set M (39 : Int32) a2 (fun (T_1 : zMem) => zw_X6_times T_1 (37 : Int32) a1 (39 : Int32) (fun (T_2 : zMem) => zw_X6_copy T_2 a1 (37 : Int32) (fun (T_3 : zMem) => post T_3)))
/-! X6_isEven -/
def zd_X6_isEven (cI : ClassId) (adM qM1 qM2 qM3 qM4 qM5 qM6 qM7 qM8 qM12 qM13 qM15 qM16 qM17 qM18 qM19 qM20 qM21 : Nat) (M : zMem) : va_W := [(adM, .inr (5, [.int (M 0 0), .ref qM1, .ref qM2, .ref qM3, .ref qM4, .ref qM5, .ref qM6, .ref qM7, .ref qM8, .int (M 9 0), .int (M 10 0), .int (M 11 0), .ref qM12, .ref qM13, .int (M 14 0), .ref qM15, .ref qM16, .ref qM17, .ref qM18, .ref qM19, .ref qM20, .ref qM21])), (qM1, .inl (cI, 2, .inl (M 1))), (qM2, .inl (cI, 2, .inl (M 2))), (qM3, .inl (cI, 2, .inl (M 3))), (qM4, .inl (cI, 2, .inl (M 4))), (qM5, .inl (cI, 2, .inl (M 5))), (qM6, .inl (cI, 12, .inl (M 6))), (qM7, .inl (cI, 12, .inl (M 7))), (qM8, .inl (cI, 12, .inl (M 8))), (qM12, .inl (cI, 6, .inl (M 12))), (qM13, .inl (cI, 6, .inl (M 13))), (qM15, .inl (cI, 8, .inl (M 15))), (qM16, .inl (cI, 8, .inl (M 16))), (qM17, .inl (cI, 8, .inl (M 17))), (qM18, .inl (cI, 8, .inl (M 18))), (qM19, .inl (cI, 12000, .inl (M 19))), (qM20, .inl (cI, 60, .inl (M 20))), (qM21, .inl (cI, 60, .inl (M 21)))]
abbrev rmX6_isEven : Room := { frames := 1, cells := 0, slots := 0, locals := 22 }
def zw_X6_isEven (M : zMem) (a1 : Int32) (post : Int32 → Prop) : Prop := zw_X6_at M a1 (0 : Int32) (fun (v_1 : Int32) => ((¬ (v_1 &&& (1 : Int32)) = 0 → (narrow .boolean (.int (0 : Int32)) = .int (0 : Int32) ∧ post (0 : Int32) )) ∧ ((v_1 &&& (1 : Int32)) = 0 → (narrow .boolean (.int (1 : Int32)) = .int (1 : Int32) ∧ post (1 : Int32) ))))
/-! X6_halve -/
def zd_X6_halve (cI : ClassId) (adM qM1 qM2 qM3 qM4 qM5 qM6 qM7 qM8 qM12 qM13 qM15 qM16 qM17 qM18 qM19 qM20 qM21 : Nat) (M : zMem) : va_W := [(adM, .inr (5, [.int (M 0 0), .ref qM1, .ref qM2, .ref qM3, .ref qM4, .ref qM5, .ref qM6, .ref qM7, .ref qM8, .int (M 9 0), .int (M 10 0), .int (M 11 0), .ref qM12, .ref qM13, .int (M 14 0), .ref qM15, .ref qM16, .ref qM17, .ref qM18, .ref qM19, .ref qM20, .ref qM21])), (qM1, .inl (cI, 2, .inl (M 1))), (qM2, .inl (cI, 2, .inl (M 2))), (qM3, .inl (cI, 2, .inl (M 3))), (qM4, .inl (cI, 2, .inl (M 4))), (qM5, .inl (cI, 2, .inl (M 5))), (qM6, .inl (cI, 12, .inl (M 6))), (qM7, .inl (cI, 12, .inl (M 7))), (qM8, .inl (cI, 12, .inl (M 8))), (qM12, .inl (cI, 6, .inl (M 12))), (qM13, .inl (cI, 6, .inl (M 13))), (qM15, .inl (cI, 8, .inl (M 15))), (qM16, .inl (cI, 8, .inl (M 16))), (qM17, .inl (cI, 8, .inl (M 17))), (qM18, .inl (cI, 8, .inl (M 18))), (qM19, .inl (cI, 12000, .inl (M 19))), (qM20, .inl (cI, 60, .inl (M 20))), (qM21, .inl (cI, 60, .inl (M 21)))]
abbrev rmX6_halve : Room := { frames := 1, cells := 0, slots := 0, locals := 22 }
def zw_X6_halve_2 (c1 : Int32) (K52 : zMem → Prop) : Nat → Int32 → zMem → Prop
  | 0, _, _ => False
  | k + 1, p2, M => (vp_in c1 60 ∧ ((((M 20) (Int32.toNatClampNeg c1)) ≤ p2 → (K52 M)) ∧ (¬ ((M 20) (Int32.toNatClampNeg c1)) ≤ p2 → zw_X6_at M c1 p2 (fun (v_3 : Int32) => zw_X6_at M c1 (p2 + (1 : Int32)) (fun (v_4 : Int32) => (vp_in (((200 : Int32) * c1) + p2) 12000 ∧ ∀ r_6 : zRow, r_6 = (upd (M 19) (Int32.toNatClampNeg (((200 : Int32) * c1) + p2)) ((v_3 >>> ((1 : Int32) &&& 31)) ||| ((v_4 &&& (1 : Int32)) <<< ((14 : Int32) &&& 31)))) → (∀ x2_7 : Int32, x2_7 = p2 + (1 : Int32) → ((zw_X6_halve_2 c1 K52 k x2_7 (zset M 19 r_6))))))))))
def zw_X6_halve (M : zMem) (a1 : Int32) (post : zMem → Prop) : Prop := (∃ kf, zw_X6_halve_2 a1 (fun (T_8 : zMem) => (vp_in a1 60 ∧ zw_X6_trim T_8 a1 ((T_8 20) (Int32.toNatClampNeg a1)) (fun (T_10 : zMem) => post T_10))) kf (0 : Int32) M)
/-! X6_common -/
def zd_X6_common (cI : ClassId) (adM qM1 qM2 qM3 qM4 qM5 qM6 qM7 qM8 qM12 qM13 qM15 qM16 qM17 qM18 qM19 qM20 qM21 : Nat) (M : zMem) : va_W := [(adM, .inr (5, [.int (M 0 0), .ref qM1, .ref qM2, .ref qM3, .ref qM4, .ref qM5, .ref qM6, .ref qM7, .ref qM8, .int (M 9 0), .int (M 10 0), .int (M 11 0), .ref qM12, .ref qM13, .int (M 14 0), .ref qM15, .ref qM16, .ref qM17, .ref qM18, .ref qM19, .ref qM20, .ref qM21])), (qM1, .inl (cI, 2, .inl (M 1))), (qM2, .inl (cI, 2, .inl (M 2))), (qM3, .inl (cI, 2, .inl (M 3))), (qM4, .inl (cI, 2, .inl (M 4))), (qM5, .inl (cI, 2, .inl (M 5))), (qM6, .inl (cI, 12, .inl (M 6))), (qM7, .inl (cI, 12, .inl (M 7))), (qM8, .inl (cI, 12, .inl (M 8))), (qM12, .inl (cI, 6, .inl (M 12))), (qM13, .inl (cI, 6, .inl (M 13))), (qM15, .inl (cI, 8, .inl (M 15))), (qM16, .inl (cI, 8, .inl (M 16))), (qM17, .inl (cI, 8, .inl (M 17))), (qM18, .inl (cI, 8, .inl (M 18))), (qM19, .inl (cI, 12000, .inl (M 19))), (qM20, .inl (cI, 60, .inl (M 20))), (qM21, .inl (cI, 60, .inl (M 21)))]
abbrev rmX6_common : Room := { frames := 4, cells := 0, slots := 0, locals := 100 }
def zw_X6_common_32 (K68 : Int32 → zMem → Prop) : Nat → Int32 → zMem → Prop
  | 0, _, _ => False
  | k + 1, p3, M => zw_X6_isEven M (20 : Int32) (fun (v_7 : Int32) => ((v_7 = 0 → (K68 p3 M)) ∧ (¬ v_7 = 0 → zw_X6_isEven M (21 : Int32) (fun (v_9 : Int32) => ((v_9 = 0 → (K68 p3 M)) ∧ (¬ v_9 = 0 → zw_X6_halve M (20 : Int32) (fun (T_11 : zMem) => zw_X6_halve T_11 (21 : Int32) (fun (T_12 : zMem) => ∀ x3_13 : Int32, x3_13 = p3 + (1 : Int32) → ((zw_X6_common_32 K68 k x3_13 T_12))))))))))
def zw_X6_common_78 (c3 : Int32) (K96 : zMem → Prop) : Nat → zMem → Prop
  | 0, _ => False
  | k + 1, M => zw_X6_isEven M (20 : Int32) (fun (v_18 : Int32) => ((v_18 = 0 → (K96 M)) ∧ (¬ v_18 = 0 → zw_X6_halve M (20 : Int32) (fun (T_20 : zMem) => (zw_X6_common_78 c3 K96 k T_20)))))
def zw_X6_common_96 (c3 : Int32) (K114 : zMem → Prop) : Nat → zMem → Prop
  | 0, _ => False
  | k + 1, M => zw_X6_isEven M (21 : Int32) (fun (v_22 : Int32) => ((v_22 = 0 → (K114 M)) ∧ (¬ v_22 = 0 → zw_X6_halve M (21 : Int32) (fun (T_24 : zMem) => (zw_X6_common_96 c3 K114 k T_24)))))
def zw_X6_common_68 (c3 : Int32) (K162 : zMem → Prop) : Nat → zMem → Prop
  | 0, _ => False
  | k + 1, M => (vp_in (21 : Int32) 60 ∧ ((((M 21) (Int32.toNatClampNeg (21 : Int32))) = 0 → (K162 M)) ∧ (¬ ((M 21) (Int32.toNatClampNeg (21 : Int32))) = 0 → (∃ kf, zw_X6_common_78 c3 (fun (T_21 : zMem) => (∃ kf, zw_X6_common_96 c3 (fun (T_25 : zMem) => zw_X6_compareSizes T_25 (20 : Int32) (21 : Int32) (fun (v_26 : Int32) => ((v_26 ≤ 0 → zw_X6_minus T_25 (21 : Int32) (21 : Int32) (20 : Int32) (fun (T_28 : zMem) => (zw_X6_common_68 c3 K162 k T_28))) ∧ (¬ v_26 ≤ 0 → zw_X6_copy T_25 (22 : Int32) (20 : Int32) (fun (T_29 : zMem) => zw_X6_copy T_29 (20 : Int32) (21 : Int32) (fun (T_30 : zMem) => zw_X6_copy T_30 (21 : Int32) (22 : Int32) (fun (T_31 : zMem) => zw_X6_minus T_31 (21 : Int32) (21 : Int32) (20 : Int32) (fun (T_32 : zMem) => (zw_X6_common_68 c3 K162 k T_32))))))))) kf T_21)) kf M))))
def zw_X6_common_165 (c3 : Int32) (K187 : zMem → Prop) : Nat → Int32 → zMem → Prop
  | 0, _, _ => False
  | k + 1, p4, M => ((c3 ≤ p4 → (K187 M)) ∧ (¬ c3 ≤ p4 → zw_X6_plus M (20 : Int32) (20 : Int32) (20 : Int32) (fun (T_35 : zMem) => ∀ x4_36 : Int32, x4_36 = p4 + (1 : Int32) → ((zw_X6_common_165 c3 K187 k x4_36 T_35)))))
def zw_X6_common (M : zMem) (a1 : Int32) (a2 : Int32) (post : zMem → Prop) : Prop := zw_X6_copy M (20 : Int32) a1 (fun (T_1 : zMem) => zw_X6_copy T_1 (21 : Int32) a2 (fun (T_2 : zMem) => (vp_in (20 : Int32) 60 ∧ ∀ r_4 : zRow, r_4 = (upd (T_2 21) (Int32.toNatClampNeg (20 : Int32)) (1 : Int32)) → ((vp_in (21 : Int32) 60 ∧ ∀ r_6 : zRow, r_6 = (upd r_4 (Int32.toNatClampNeg (21 : Int32)) (1 : Int32)) → ((∃ kf, zw_X6_common_32  (fun (x3_14 : Int32) (T_15 : zMem) => (∃ kf, zw_X6_common_68 x3_14 (fun (T_33 : zMem) => (∃ kf, zw_X6_common_165 x3_14 (fun (T_37 : zMem) => post T_37) kf (0 : Int32) T_33)) kf T_15)) kf (0 : Int32) (zset T_2 21 r_6))))))))
/-! X6_divide -/
def zd_X6_divide (cI : ClassId) (adM qM1 qM2 qM3 qM4 qM5 qM6 qM7 qM8 qM12 qM13 qM15 qM16 qM17 qM18 qM19 qM20 qM21 : Nat) (M : zMem) : va_W := [(adM, .inr (5, [.int (M 0 0), .ref qM1, .ref qM2, .ref qM3, .ref qM4, .ref qM5, .ref qM6, .ref qM7, .ref qM8, .int (M 9 0), .int (M 10 0), .int (M 11 0), .ref qM12, .ref qM13, .int (M 14 0), .ref qM15, .ref qM16, .ref qM17, .ref qM18, .ref qM19, .ref qM20, .ref qM21])), (qM1, .inl (cI, 2, .inl (M 1))), (qM2, .inl (cI, 2, .inl (M 2))), (qM3, .inl (cI, 2, .inl (M 3))), (qM4, .inl (cI, 2, .inl (M 4))), (qM5, .inl (cI, 2, .inl (M 5))), (qM6, .inl (cI, 12, .inl (M 6))), (qM7, .inl (cI, 12, .inl (M 7))), (qM8, .inl (cI, 12, .inl (M 8))), (qM12, .inl (cI, 6, .inl (M 12))), (qM13, .inl (cI, 6, .inl (M 13))), (qM15, .inl (cI, 8, .inl (M 15))), (qM16, .inl (cI, 8, .inl (M 16))), (qM17, .inl (cI, 8, .inl (M 17))), (qM18, .inl (cI, 8, .inl (M 18))), (qM19, .inl (cI, 12000, .inl (M 19))), (qM20, .inl (cI, 60, .inl (M 20))), (qM21, .inl (cI, 60, .inl (M 21)))]
abbrev rmX6_divide : Room := { frames := 4, cells := 0, slots := 0, locals := 100 }
def zw_X6_divide_9 (c1 : Int32) (c2 : Int32) (K36 : zMem → Prop) : Nat → Int32 → zMem → Prop
  | 0, _, _ => False
  | k + 1, p3, M => (vp_in c1 60 ∧ ((((M 20) (Int32.toNatClampNeg c1)) ≤ p3 → (K36 M)) ∧ (¬ ((M 20) (Int32.toNatClampNeg c1)) ≤ p3 → (vp_in ((4600 : Int32) + p3) 12000 ∧ ∀ r_5 : zRow, r_5 = (upd (M 19) (Int32.toNatClampNeg ((4600 : Int32) + p3)) (0 : Int32)) → (∀ x3_6 : Int32, x3_6 = p3 + (1 : Int32) → ((zw_X6_divide_9 c1 c2 K36 k x3_6 (zset M 19 r_5))))))))
def zw_X6_divide_48 (c1 : Int32) (c2 : Int32) (K174 : zMem → Prop) : Nat → Int32 → zMem → Prop
  | 0, _, _ => False
  | k + 1, p3, M => ((p3 < 0 → (K174 M)) ∧ (¬ p3 < 0 → zw_X6_plus M (22 : Int32) (22 : Int32) (22 : Int32) (fun (T_11 : zMem) => (¬ (15 : Int32) = 0 ∧ zw_X6_at T_11 c1 (p3 / (15 : Int32)) (fun (v_13 : Int32) => (¬ (15 : Int32) = 0 ∧ (∃ KJ_17 : zMem → Prop, (∀ (T_16 : zMem), KJ_17 T_16 → (vp_in (22 : Int32) 60 ∧ ((((T_16 21) (Int32.toNatClampNeg (22 : Int32))) = 0 → ∀ x3_20 : Int32, x3_20 = p3 + (-1 : Int32) → ((zw_X6_divide_48 c1 c2 K174 k x3_20 T_16))) ∧ (¬ ((T_16 21) (Int32.toNatClampNeg (22 : Int32))) = 0 → zw_X6_compareSizes T_16 (22 : Int32) c2 (fun (v_21 : Int32) => ((0 ≤ v_21 → zw_X6_minus T_16 (22 : Int32) (22 : Int32) c2 (fun (T_23 : zMem) => (¬ (15 : Int32) = 0 ∧ (vp_in ((4600 : Int32) + (p3 / (15 : Int32))) 12000 ∧ (¬ (15 : Int32) = 0 ∧ (vp_in ((4600 : Int32) + (p3 / (15 : Int32))) 12000 ∧ ∀ r_28 : zRow, r_28 = (upd (T_23 19) (Int32.toNatClampNeg ((4600 : Int32) + (p3 / (15 : Int32)))) (((T_23 19) (Int32.toNatClampNeg ((4600 : Int32) + (p3 / (15 : Int32))))) ||| ((1 : Int32) <<< ((p3 - p3 / (15 : Int32) * (15 : Int32)) &&& 31)))) → (∀ x3_29 : Int32, x3_29 = p3 + (-1 : Int32) → ((zw_X6_divide_48 c1 c2 K174 k x3_29 (zset T_23 19 r_28)))))))))) ∧ (¬ 0 ≤ v_21 → ∀ x3_30 : Int32, x3_30 = p3 + (-1 : Int32) → ((zw_X6_divide_48 c1 c2 K174 k x3_30 T_16))))))))) ∧ ((¬ ((v_13 >>> ((p3 - p3 / (15 : Int32) * (15 : Int32)) &&& 31)) &&& (1 : Int32)) = (1 : Int32) → (KJ_17 T_11)) ∧ (((v_13 >>> ((p3 - p3 / (15 : Int32) * (15 : Int32)) &&& 31)) &&& (1 : Int32)) = (1 : Int32) → (vp_in (22 : Int32) 60 ∧ ((¬ ((T_11 21) (Int32.toNatClampNeg (22 : Int32))) = 0 → (vp_in (4400 : Int32) 12000 ∧ (vp_in (4400 : Int32) 12000 ∧ ∀ r_35 : zRow, r_35 = (upd (T_11 19) (Int32.toNatClampNeg (4400 : Int32)) (((T_11 19) (Int32.toNatClampNeg (4400 : Int32))) ||| (1 : Int32))) → ((KJ_17 (zset T_11 19 r_35)))))) ∧ (((T_11 21) (Int32.toNatClampNeg (22 : Int32))) = 0 → zw_X6_set T_11 (22 : Int32) (1 : Int64) (fun (T_36 : zMem) => (KJ_17 T_36))))))))))))))
def zw_X6_divide (M : zMem) (a1 : Int32) (a2 : Int32) (post : zMem → Prop) : Prop := zw_X6_set M (22 : Int32) (0 : Int64) (fun (T_1 : zMem) => (∃ kf, zw_X6_divide_9 a1 a2 (fun (T_7 : zMem) => (vp_in a1 60 ∧ ∀ x3_9 : Int32, x3_9 = (((15 : Int32) * ((T_7 20) (Int32.toNatClampNeg a1))) - (1 : Int32)) → ((∃ kf, zw_X6_divide_48 a1 a2 (fun (T_37 : zMem) => (vp_in (23 : Int32) 60 ∧ ∀ r_39 : zRow, r_39 = (upd (T_37 21) (Int32.toNatClampNeg (23 : Int32)) (1 : Int32)) → ((vp_in a1 60 ∧ zw_X6_trim (zset T_37 21 r_39) (23 : Int32) ((T_37 20) (Int32.toNatClampNeg a1)) (fun (T_41 : zMem) => zw_X6_copy T_41 a1 (23 : Int32) (fun (T_42 : zMem) => post T_42)))))) kf x3_9 T_7)))) kf (0 : Int32) T_1))
/-! X6_shorten -/
def zd_X6_shorten (cI : ClassId) (adM qM1 qM2 qM3 qM4 qM5 qM6 qM7 qM8 qM12 qM13 qM15 qM16 qM17 qM18 qM19 qM20 qM21 : Nat) (M : zMem) : va_W := [(adM, .inr (5, [.int (M 0 0), .ref qM1, .ref qM2, .ref qM3, .ref qM4, .ref qM5, .ref qM6, .ref qM7, .ref qM8, .int (M 9 0), .int (M 10 0), .int (M 11 0), .ref qM12, .ref qM13, .int (M 14 0), .ref qM15, .ref qM16, .ref qM17, .ref qM18, .ref qM19, .ref qM20, .ref qM21])), (qM1, .inl (cI, 2, .inl (M 1))), (qM2, .inl (cI, 2, .inl (M 2))), (qM3, .inl (cI, 2, .inl (M 3))), (qM4, .inl (cI, 2, .inl (M 4))), (qM5, .inl (cI, 2, .inl (M 5))), (qM6, .inl (cI, 12, .inl (M 6))), (qM7, .inl (cI, 12, .inl (M 7))), (qM8, .inl (cI, 12, .inl (M 8))), (qM12, .inl (cI, 6, .inl (M 12))), (qM13, .inl (cI, 6, .inl (M 13))), (qM15, .inl (cI, 8, .inl (M 15))), (qM16, .inl (cI, 8, .inl (M 16))), (qM17, .inl (cI, 8, .inl (M 17))), (qM18, .inl (cI, 8, .inl (M 18))), (qM19, .inl (cI, 12000, .inl (M 19))), (qM20, .inl (cI, 60, .inl (M 20))), (qM21, .inl (cI, 60, .inl (M 21)))]
abbrev rmX6_shorten : Room := { frames := 5, cells := 0, slots := 0, locals := 124 }
def zw_X6_shorten (M : zMem) (a1 : Int32) (a2 : Int32) (post : zMem → Prop) : Prop := (vp_in a1 60 ∧ ((¬ ((M 21) (Int32.toNatClampNeg a1)) = 0 → (vp_in a1 60 ∧ ∀ x3_4 : Int32, x3_4 = ((M 21) (Int32.toNatClampNeg a1)) → ((vp_in a1 60 ∧ ∀ r_6 : zRow, r_6 = (upd (M 21) (Int32.toNatClampNeg a1) (1 : Int32)) → (zw_X6_common (zset M 21 r_6) a1 a2 (fun (T_7 : zMem) => zw_X6_copy T_7 (38 : Int32) (20 : Int32) (fun (T_8 : zMem) => zw_X6_divide T_8 a1 (38 : Int32) (fun (T_9 : zMem) => zw_X6_divide T_9 a2 (38 : Int32) (fun (T_10 : zMem) => (vp_in a1 60 ∧ ∀ r_12 : zRow, r_12 = (upd (T_10 21) (Int32.toNatClampNeg a1) x3_4) → (post (zset T_10 21 r_12)))))))))))) ∧ (((M 21) (Int32.toNatClampNeg a1)) = 0 → zw_X6_set M a2 (1 : Int64) (fun (T_13 : zMem) => post T_13))))
/-! X6_part -/
def zd_X6_part (cI : ClassId) (adM qM1 qM2 qM3 qM4 qM5 qM6 qM7 qM8 qM12 qM13 qM15 qM16 qM17 qM18 qM19 qM20 qM21 : Nat) (M : zMem) : va_W := [(adM, .inr (5, [.int (M 0 0), .ref qM1, .ref qM2, .ref qM3, .ref qM4, .ref qM5, .ref qM6, .ref qM7, .ref qM8, .int (M 9 0), .int (M 10 0), .int (M 11 0), .ref qM12, .ref qM13, .int (M 14 0), .ref qM15, .ref qM16, .ref qM17, .ref qM18, .ref qM19, .ref qM20, .ref qM21])), (qM1, .inl (cI, 2, .inl (M 1))), (qM2, .inl (cI, 2, .inl (M 2))), (qM3, .inl (cI, 2, .inl (M 3))), (qM4, .inl (cI, 2, .inl (M 4))), (qM5, .inl (cI, 2, .inl (M 5))), (qM6, .inl (cI, 12, .inl (M 6))), (qM7, .inl (cI, 12, .inl (M 7))), (qM8, .inl (cI, 12, .inl (M 8))), (qM12, .inl (cI, 6, .inl (M 12))), (qM13, .inl (cI, 6, .inl (M 13))), (qM15, .inl (cI, 8, .inl (M 15))), (qM16, .inl (cI, 8, .inl (M 16))), (qM17, .inl (cI, 8, .inl (M 17))), (qM18, .inl (cI, 8, .inl (M 18))), (qM19, .inl (cI, 12000, .inl (M 19))), (qM20, .inl (cI, 60, .inl (M 20))), (qM21, .inl (cI, 60, .inl (M 21)))]
abbrev rmX6_part : Room := { frames := 1, cells := 0, slots := 0, locals := 22 }
def zw_X6_part (M : zMem) (a1 : Int32) (a2 : Int32) (post : Int32 → Prop) : Prop := zw_X6_at M a1 ((2 : Int32) * a2) (fun (v_1 : Int32) => zw_X6_at M a1 (((2 : Int32) * a2) + (1 : Int32)) (fun (v_2 : Int32) => post (v_1 ||| (v_2 <<< ((15 : Int32) &&& 31))) ))
/-! X6_power -/
def zd_X6_power (cI : ClassId) : va_W := []
abbrev rmX6_power : Room := { frames := 0, cells := 0, slots := 0, locals := 0 }
def zw_X6_power_5 (c0 : Int64) (c2 : Int32) (K21 : Int64 → Prop) : Nat → Int64 → Int32 → Prop
  | 0, _, _ => False
  | k + 1, p3, p5 => ((c2 ≤ p5 → (K21 p3)) ∧ (¬ c2 ≤ p5 → ∀ x3_2 : Int64, x3_2 = (p3 * c0) → (∀ x5_3 : Int32, x5_3 = p5 + (1 : Int32) → ((zw_X6_power_5 c0 c2 K21 k x3_2 x5_3)))))
def zw_X6_power (a1 : Int64) (a2 : Int32) (post : Int64 → Prop) : Prop := (∃ kf, zw_X6_power_5 a1 a2 (fun (x3_4 : Int64) => post x3_4 ) kf (1 : Int64) (0 : Int32))
/-! X6_first -/
def zd_X6_first (cI : ClassId) : va_W := []
abbrev rmX6_first : Room := { frames := 0, cells := 0, slots := 0, locals := 0 }
def zw_X6_first_9 (c0 : Int32) (c1 : Int64) (c3 : Int64) (K46 : Int64 → Prop) : Nat → Int64 → Int64 → Int32 → Prop
  | 0, _, _, _ => False
  | k + 1, p5, p7, p9 => ((c0 ≤ p9 → (K46 p5)) ∧ (¬ c0 ≤ p9 → ∀ x10_2 : Int64, x10_2 = ((((2 : Int64) * c1) * p7) - ((c3 * c3) * p5)) → (∀ x9_3 : Int32, x9_3 = p9 + (1 : Int32) → ((zw_X6_first_9 c0 c1 c3 K46 k p7 x10_2 x9_3)))))
def zw_X6_first (a1 : Int32) (a2 : Int64) (a3 : Int64) (post : Int64 → Prop) : Prop := (∃ kf, zw_X6_first_9 a1 a2 a3 (fun (x5_4 : Int64) => post x5_4 ) kf (1 : Int64) a2 (0 : Int32))
/-! X6_second -/
def zd_X6_second (cI : ClassId) : va_W := []
abbrev rmX6_second : Room := { frames := 0, cells := 0, slots := 0, locals := 0 }
def zw_X6_second_9 (c0 : Int32) (c1 : Int64) (c3 : Int64) (K46 : Int64 → Prop) : Nat → Int64 → Int64 → Int32 → Prop
  | 0, _, _, _ => False
  | k + 1, p5, p7, p9 => ((c0 ≤ p9 → (K46 p5)) ∧ (¬ c0 ≤ p9 → ∀ x10_2 : Int64, x10_2 = ((((2 : Int64) * c1) * p7) - ((c3 * c3) * p5)) → (∀ x9_3 : Int32, x9_3 = p9 + (1 : Int32) → ((zw_X6_second_9 c0 c1 c3 K46 k p7 x10_2 x9_3)))))
def zw_X6_second (a1 : Int32) (a2 : Int64) (a3 : Int64) (post : Int64 → Prop) : Prop := (∃ kf, zw_X6_second_9 a1 a2 a3 (fun (x5_4 : Int64) => post x5_4 ) kf (0 : Int64) (1 : Int64) (0 : Int32))
theorem zf_X6_thrown_65 : Cond.fieldLink RX6 65 "GlassStackModel" "thrown" "I" ∈ wsX6_thrown := (List.mem_of_getElem? (i := 1) rfl)
theorem zi_X6_thrown_X6 : ∀ w ∈ wsX60, w ∈ wsX6_thrown := fun w h => List.mem_cons_of_mem _ (List.mem_append_right _ h)
theorem zy_X6_thrown : yX6_thrown.cls = RX6 ∧ yX6_thrown.cls ≠ "java/lang/invoke/MethodHandle" ∧ yX6_thrown.cls ≠ "java/lang/invoke/VarHandle" ∧ (parseMethodDescriptor yX6_thrown.desc).map (fun d => d.parameters.length) = some 0 := by decide +kernel
set_option maxHeartbeats 4000000 in
set_option maxRecDepth 100000 in
theorem zc_X6_thrown (l : Launch) (G : va_G) (cI : ClassId) (adM qM1 qM2 qM3 qM4 qM5 qM6 qM7 qM8 qM12 qM13 qM15 qM16 qM17 qM18 qM19 qM20 qM21 : Nat) (M : zMem) (post : Int32 → Prop) (hF : zw_X6_thrown M post) (sz : Nat) : Met l yX6_thrown wsX6_thrown rmX6_thrown (va_Pc [.ref adM] (zv_in G cI (zd_X6_thrown cI adM qM1 qM2 qM3 qM4 qM5 qM6 qM7 qM8 qM12 qM13 qM15 qM16 qM17 qM18 qM19 qM20 qM21 M) sz)) (va_Qi (fun (rz : Int32) (uz : Unit) => post rz ) (fun (uz : Unit) t => zv_out G cI (va_A (zd_X6_thrown cI adM qM1 qM2 qM3 qM4 qM5 qM6 qM7 qM8 qM12 qM13 qM15 qM16 qM17 qM18 qM19 qM20 qM21 M) sz) (zd_X6_thrown cI adM qM1 qM2 qM3 qM4 qM5 qM6 qM7 qM8 qM12 qM13 qM15 qM16 qM17 qM18 qM19 qM20 qM21 M) t) (va_A (zd_X6_thrown cI adM qM1 qM2 qM3 qM4 qM5 qM6 qM7 qM8 qM12 qM13 qM15 qM16 qM17 qM18 qM19 qM20 qM21 M) sz)) 0 0 (va_A (zd_X6_thrown cI adM qM1 qM2 qM3 qM4 qM5 qM6 qM7 qM8 qM12 qM13 qM15 qM16 qM17 qM18 qM19 qM20 qM21 M) sz) := by
  refine zv_met (cc := cX6_thrown) (maxL := 1) (ret := (some .int)) (lv0 := [(0, .ref adM)]) (Qc := fun A => va_Qi (fun (rz : Int32) (uz : Unit) => post rz ) (fun (uz : Unit) t => zv_out G cI A (zd_X6_thrown cI adM qM1 qM2 qM3 qM4 qM5 qM6 qM7 qM8 qM12 qM13 qM15 qM16 qM17 qM18 qM19 qM20 qM21 M) t) A) (by decide) rfl (Nat.le_of_ble_eq_true rfl) rfl ?_ sz
  intro p e s m below meth c A C hr hlk
  clear sz
  refine zv_aload_n (pc := 0) C rfl 0 rfl dX6_thrown_0 ?_
  refine zv_get (pc := 1) (CC := RX6) (T := TX6) (N := 22) (ci := 5) (v := .int (M 0 0)) C zi_X6_thrown_X6 0 rfl 0 (by decide) zf_X6_thrown_65 rfl rfl dX6_thrown_1 ?_
  exact zv_iret (pc := 4) C hr hlk (M 0 0) () hF rfl dX6_thrown_4
theorem zf_X6_right_65 : Cond.fieldLink RX6 65 "GlassStackModel" "thrown" "I" ∈ wsX6_right := (List.mem_of_getElem? (i := 1) rfl)
theorem zi_X6_right_X6 : ∀ w ∈ wsX60, w ∈ wsX6_right := fun w h => List.mem_cons_of_mem _ (List.mem_append_right _ h)
theorem zy_X6_right : yX6_right.cls = RX6 ∧ yX6_right.cls ≠ "java/lang/invoke/MethodHandle" ∧ yX6_right.cls ≠ "java/lang/invoke/VarHandle" ∧ (parseMethodDescriptor yX6_right.desc).map (fun d => d.parameters.length) = some 2 := by decide +kernel
set_option maxHeartbeats 4000000 in
set_option maxRecDepth 100000 in
theorem zc_X6_right (l : Launch) (G : va_G) (cI : ClassId) (adM qM1 qM2 qM3 qM4 qM5 qM6 qM7 qM8 qM12 qM13 qM15 qM16 qM17 qM18 qM19 qM20 qM21 : Nat) (M : zMem) (a1 : Int32) (a2 : Int32) (post : Int32 → zMem → Prop) (hF : zw_X6_right M a1 a2 post) (sz : Nat) : Met l yX6_right wsX6_right rmX6_right (va_Pc [.ref adM, .int a1, .int a2] (zv_in G cI (zd_X6_right cI adM qM1 qM2 qM3 qM4 qM5 qM6 qM7 qM8 qM12 qM13 qM15 qM16 qM17 qM18 qM19 qM20 qM21 M) sz)) (va_Qi (fun (rz : Int32) (uz : zMem) => post rz uz) (fun (uz : zMem) t => zv_out G cI (va_A (zd_X6_right cI adM qM1 qM2 qM3 qM4 qM5 qM6 qM7 qM8 qM12 qM13 qM15 qM16 qM17 qM18 qM19 qM20 qM21 M) sz) (zd_X6_right cI adM qM1 qM2 qM3 qM4 qM5 qM6 qM7 qM8 qM12 qM13 qM15 qM16 qM17 qM18 qM19 qM20 qM21 uz) t) (va_A (zd_X6_right cI adM qM1 qM2 qM3 qM4 qM5 qM6 qM7 qM8 qM12 qM13 qM15 qM16 qM17 qM18 qM19 qM20 qM21 M) sz)) 0 0 (va_A (zd_X6_right cI adM qM1 qM2 qM3 qM4 qM5 qM6 qM7 qM8 qM12 qM13 qM15 qM16 qM17 qM18 qM19 qM20 qM21 M) sz) := by
  refine zv_met (cc := cX6_right) (maxL := 3) (ret := (some .boolean)) (lv0 := [(0, .ref adM), (1, .int a1), (2, .int a2)]) (Qc := fun A => va_Qi (fun (rz : Int32) (uz : zMem) => post rz uz) (fun (uz : zMem) t => zv_out G cI A (zd_X6_right cI adM qM1 qM2 qM3 qM4 qM5 qM6 qM7 qM8 qM12 qM13 qM15 qM16 qM17 qM18 qM19 qM20 qM21 uz) t) A) (by decide) rfl (Nat.le_of_ble_eq_true rfl) rfl ?_ sz
  intro p e s m below meth c A C hr hlk
  clear sz
  refine zv_aload_n (pc := 0) C rfl 0 rfl dX6_right_0 ?_
  refine zv_get (pc := 1) (CC := RX6) (T := TX6) (N := 22) (ci := 5) (v := .int (M 0 0)) C zi_X6_right_X6 0 rfl 0 (by decide) zf_X6_right_65 rfl rfl dX6_right_1 ?_
  refine zv_if_ne (pc := 4) (tgt := 16) C dX6_right_4 (by decide) (fun c_1 => ?_) (fun c_1 => ?_)
  · replace hF := And.left hF c_1
    refine zv_aload_n (pc := 16) C rfl 0 rfl dX6_right_16 ?_
    refine zv_get (pc := 17) (CC := RX6) (T := TX6) (N := 22) (ci := 5) (v := .int (M 0 0)) C zi_X6_right_X6 0 rfl 0 (by decide) zf_X6_right_65 rfl rfl dX6_right_17 ?_
    refine zv_if_ne (pc := 20) (tgt := 27) C dX6_right_20 (by decide) (fun c_2 => ?_) (fun c_2 => ?_)
    · replace hF := And.left hF c_2
      refine zv_iconst (pc := 27) (v := 0) C (by decide) dX6_right_27 ?_
      obtain ⟨hn_3, hF⟩ := hF
      exact zv_zret (pc := 28) C hr hlk (0 : Int32) M hn_3 hF rfl dX6_right_28
    · replace hF := And.right hF c_2
      refine zv_iconst (pc := 23) (v := 1) C (by decide) dX6_right_23 ?_
      refine zv_goto (pc := 24) (tgt := 28) C dX6_right_24 (by decide) ?_
      obtain ⟨hn_4, hF⟩ := hF
      exact zv_zret (pc := 28) C hr hlk (1 : Int32) M hn_4 hF rfl dX6_right_28
  · replace hF := And.right hF c_1
    refine zv_iload_n (pc := 7) C rfl 1 rfl dX6_right_7 ?_
    refine zv_if_ne (pc := 8) (tgt := 16) C dX6_right_8 (by decide) (fun c_5 => ?_) (fun c_5 => ?_)
    · replace hF := And.left hF c_5
      refine zv_aload_n (pc := 16) C rfl 0 rfl dX6_right_16 ?_
      refine zv_get (pc := 17) (CC := RX6) (T := TX6) (N := 22) (ci := 5) (v := .int (M 0 0)) C zi_X6_right_X6 0 rfl 0 (by decide) zf_X6_right_65 rfl rfl dX6_right_17 ?_
      refine zv_if_ne (pc := 20) (tgt := 27) C dX6_right_20 (by decide) (fun c_6 => ?_) (fun c_6 => ?_)
      · replace hF := And.left hF c_6
        refine zv_iconst (pc := 27) (v := 0) C (by decide) dX6_right_27 ?_
        obtain ⟨hn_7, hF⟩ := hF
        exact zv_zret (pc := 28) C hr hlk (0 : Int32) M hn_7 hF rfl dX6_right_28
      · replace hF := And.right hF c_6
        refine zv_iconst (pc := 23) (v := 1) C (by decide) dX6_right_23 ?_
        refine zv_goto (pc := 24) (tgt := 28) C dX6_right_24 (by decide) ?_
        obtain ⟨hn_8, hF⟩ := hF
        exact zv_zret (pc := 28) C hr hlk (1 : Int32) M hn_8 hF rfl dX6_right_28
    · replace hF := And.right hF c_5
      refine zv_aload_n (pc := 11) C rfl 0 rfl dX6_right_11 ?_
      refine zv_iload_n (pc := 12) C rfl 2 rfl dX6_right_12 ?_
      refine zv_put (pc := 13) (CC := RX6) (T := TX6) (N := 22) (ci := 5) (v := .int a2) (ty := .int) (ws' := (zd_X6_right cI adM qM1 qM2 qM3 qM4 qM5 qM6 qM7 qM8 qM12 qM13 qM15 qM16 qM17 qM18 qM19 qM20 qM21 (zset M 0 (fun _ => a2)))) C zi_X6_right_X6 tyX6 tyX6_ok nmX6 0 rfl 0 (by decide) zf_X6_right_65 rfl (by decide +kernel) rfl rfl rfl (Nat.le_of_ble_eq_true rfl) rfl dX6_right_13 ?_
      refine zv_aload_n (pc := 16) C rfl 0 rfl dX6_right_16 ?_
      refine zv_get (pc := 17) (CC := RX6) (T := TX6) (N := 22) (ci := 5) (v := .int a2) C zi_X6_right_X6 0 rfl 0 (by decide) zf_X6_right_65 rfl rfl dX6_right_17 ?_
      refine zv_if_ne (pc := 20) (tgt := 27) C dX6_right_20 (by decide) (fun c_9 => ?_) (fun c_9 => ?_)
      · replace hF := And.left hF c_9
        refine zv_iconst (pc := 27) (v := 0) C (by decide) dX6_right_27 ?_
        obtain ⟨hn_10, hF⟩ := hF
        exact zv_zret (pc := 28) C hr hlk (0 : Int32) (zset M 0 (fun _ => a2)) hn_10 hF rfl dX6_right_28
      · replace hF := And.right hF c_9
        refine zv_iconst (pc := 23) (v := 1) C (by decide) dX6_right_23 ?_
        refine zv_goto (pc := 24) (tgt := 28) C dX6_right_24 (by decide) ?_
        obtain ⟨hn_11, hF⟩ := hF
        exact zv_zret (pc := 28) C hr hlk (1 : Int32) (zset M 0 (fun _ => a2)) hn_11 hF rfl dX6_right_28
theorem zf_X6_isStack_65 : Cond.fieldLink RX6 65 "GlassStackModel" "thrown" "I" ∈ wsX6_isStack := (List.mem_of_getElem? (i := 1) rfl)
theorem zi_X6_isStack_X6 : ∀ w ∈ wsX60, w ∈ wsX6_isStack := fun w h => List.mem_cons_of_mem _ (List.mem_append_right _ h)
theorem zy_X6_isStack : yX6_isStack.cls = RX6 ∧ yX6_isStack.cls ≠ "java/lang/invoke/MethodHandle" ∧ yX6_isStack.cls ≠ "java/lang/invoke/VarHandle" ∧ (parseMethodDescriptor yX6_isStack.desc).map (fun d => d.parameters.length) = some 1 := by decide +kernel
set_option maxHeartbeats 4000000 in
set_option maxRecDepth 100000 in
theorem zc_X6_isStack (l : Launch) (G : va_G) (cI : ClassId) (adM qM1 qM2 qM3 qM4 qM5 qM6 qM7 qM8 qM12 qM13 qM15 qM16 qM17 qM18 qM19 qM20 qM21 : Nat) (M : zMem) (a1 : Int32) (post : Int32 → zMem → Prop) (hF : zw_X6_isStack M a1 post) (sz : Nat) : Met l yX6_isStack wsX6_isStack rmX6_isStack (va_Pc [.ref adM, .int a1] (zv_in G cI (zd_X6_isStack cI adM qM1 qM2 qM3 qM4 qM5 qM6 qM7 qM8 qM12 qM13 qM15 qM16 qM17 qM18 qM19 qM20 qM21 M) sz)) (va_Qi (fun (rz : Int32) (uz : zMem) => post rz uz) (fun (uz : zMem) t => zv_out G cI (va_A (zd_X6_isStack cI adM qM1 qM2 qM3 qM4 qM5 qM6 qM7 qM8 qM12 qM13 qM15 qM16 qM17 qM18 qM19 qM20 qM21 M) sz) (zd_X6_isStack cI adM qM1 qM2 qM3 qM4 qM5 qM6 qM7 qM8 qM12 qM13 qM15 qM16 qM17 qM18 qM19 qM20 qM21 uz) t) (va_A (zd_X6_isStack cI adM qM1 qM2 qM3 qM4 qM5 qM6 qM7 qM8 qM12 qM13 qM15 qM16 qM17 qM18 qM19 qM20 qM21 M) sz)) 0 0 (va_A (zd_X6_isStack cI adM qM1 qM2 qM3 qM4 qM5 qM6 qM7 qM8 qM12 qM13 qM15 qM16 qM17 qM18 qM19 qM20 qM21 M) sz) := by
  refine zv_met (cc := cX6_isStack) (maxL := 2) (ret := (some .boolean)) (lv0 := [(0, .ref adM), (1, .int a1)]) (Qc := fun A => va_Qi (fun (rz : Int32) (uz : zMem) => post rz uz) (fun (uz : zMem) t => zv_out G cI A (zd_X6_isStack cI adM qM1 qM2 qM3 qM4 qM5 qM6 qM7 qM8 qM12 qM13 qM15 qM16 qM17 qM18 qM19 qM20 qM21 uz) t) A) (by decide) rfl (Nat.le_of_ble_eq_true rfl) rfl ?_ sz
  intro p e s m below meth c A C hr hlk
  clear sz
  refine zv_aload_n (pc := 0) C rfl 0 rfl dX6_isStack_0 ?_
  refine zv_iconst (pc := 1) (v := 0) C (by decide) dX6_isStack_1 ?_
  refine zv_put (pc := 2) (CC := RX6) (T := TX6) (N := 22) (ci := 5) (v := .int (0 : Int32)) (ty := .int) (ws' := (zd_X6_isStack cI adM qM1 qM2 qM3 qM4 qM5 qM6 qM7 qM8 qM12 qM13 qM15 qM16 qM17 qM18 qM19 qM20 qM21 (zset M 0 (fun _ => (0 : Int32))))) C zi_X6_isStack_X6 tyX6 tyX6_ok nmX6 0 rfl 0 (by decide) zf_X6_isStack_65 rfl (by decide +kernel) rfl rfl rfl (Nat.le_of_ble_eq_true rfl) rfl dX6_isStack_2 ?_
  refine zv_aload_n (pc := 5) C rfl 0 rfl dX6_isStack_5 ?_
  refine zv_iload_n (pc := 6) C rfl 1 rfl dX6_isStack_6 ?_
  refine zv_if_eq (pc := 7) (tgt := 15) C dX6_isStack_7 (by decide) (fun c_1 => ?_) (fun c_1 => ?_)
  · replace hF := And.left hF c_1
    refine zv_iconst (pc := 15) (v := 1) C (by decide) dX6_isStack_15 ?_
    refine zv_goto (pc := 16) (tgt := 20) C dX6_isStack_16 (by decide) ?_
    refine zv_iconst (pc := 20) (v := 1) C (by decide) dX6_isStack_20 ?_
    refine zv_ci0 (pc := 21) (ws' := (fun uz : zMem => (zd_X6_isStack cI adM qM1 qM2 qM3 qM4 qM5 qM6 qM7 qM8 qM12 qM13 qM15 qM16 qM17 qM18 qM19 qM20 qM21 uz))) C (zv_runV (As := [.int (1 : Int32), .int (1 : Int32)]) (b := adM) (rest := []) (ci := 5) (q0 := 0) C (zc_X6_right l G cI adM qM1 qM2 qM3 qM4 qM5 qM6 qM7 qM8 qM12 qM13 qM15 qM16 qM17 qM18 qM19 qM20 qM21 (zset M 0 (fun _ => (0 : Int32))) (1 : Int32) (1 : Int32) _ hF) (cwV 2 C.2.2.2.2.1 gX6_isStack_X6_right rfl rfl rfl zy_X6_right ⟨Nat.le_of_ble_eq_true rfl, Nat.le_of_ble_eq_true rfl⟩) rfl rfl rfl rfl rfl (Nat.le_of_ble_eq_true rfl) ⟨Nat.zero_le _, Nat.zero_le _⟩ dX6_isStack_21) [0, 1, 2, 3, 4, 5, 6, 7, 8, 9, 10, 11, 12, 13, 14, 15, 16, 17] [] rfl rfl rfl rfl rfl (fun _ => rfl) (fun _ => rfl) (fun _ => rfl) (fun v_3 uz hF => ?_)
    obtain ⟨T_2, hE⟩ : ∃ z, z = uz := ⟨_, rfl⟩; subst hE
    obtain ⟨hn_4, hF⟩ := hF
    exact zv_zret (pc := 24) C hr hlk v_3 T_2 hn_4 hF rfl dX6_isStack_24
  · replace hF := And.right hF c_1
    refine zv_iload_n (pc := 10) C rfl 1 rfl dX6_isStack_10 ?_
    refine zv_iconst (pc := 11) (v := 1) C (by decide) dX6_isStack_11 ?_
    refine zv_icmp_ne (pc := 12) (tgt := 19) C dX6_isStack_12 (by decide) (fun c_5 => ?_) (fun c_5 => ?_)
    · replace hF := And.left hF c_5
      refine zv_iconst (pc := 19) (v := 0) C (by decide) dX6_isStack_19 ?_
      refine zv_iconst (pc := 20) (v := 1) C (by decide) dX6_isStack_20 ?_
      refine zv_ci0 (pc := 21) (ws' := (fun uz : zMem => (zd_X6_isStack cI adM qM1 qM2 qM3 qM4 qM5 qM6 qM7 qM8 qM12 qM13 qM15 qM16 qM17 qM18 qM19 qM20 qM21 uz))) C (zv_runV (As := [.int (0 : Int32), .int (1 : Int32)]) (b := adM) (rest := []) (ci := 5) (q0 := 0) C (zc_X6_right l G cI adM qM1 qM2 qM3 qM4 qM5 qM6 qM7 qM8 qM12 qM13 qM15 qM16 qM17 qM18 qM19 qM20 qM21 (zset M 0 (fun _ => (0 : Int32))) (0 : Int32) (1 : Int32) _ hF) (cwV 2 C.2.2.2.2.1 gX6_isStack_X6_right rfl rfl rfl zy_X6_right ⟨Nat.le_of_ble_eq_true rfl, Nat.le_of_ble_eq_true rfl⟩) rfl rfl rfl rfl rfl (Nat.le_of_ble_eq_true rfl) ⟨Nat.zero_le _, Nat.zero_le _⟩ dX6_isStack_21) [0, 1, 2, 3, 4, 5, 6, 7, 8, 9, 10, 11, 12, 13, 14, 15, 16, 17] [] rfl rfl rfl rfl rfl (fun _ => rfl) (fun _ => rfl) (fun _ => rfl) (fun v_7 uz hF => ?_)
      obtain ⟨T_6, hE⟩ : ∃ z, z = uz := ⟨_, rfl⟩; subst hE
      obtain ⟨hn_8, hF⟩ := hF
      exact zv_zret (pc := 24) C hr hlk v_7 T_6 hn_8 hF rfl dX6_isStack_24
    · replace hF := And.right hF c_5
      refine zv_iconst (pc := 15) (v := 1) C (by decide) dX6_isStack_15 ?_
      refine zv_goto (pc := 16) (tgt := 20) C dX6_isStack_16 (by decide) ?_
      refine zv_iconst (pc := 20) (v := 1) C (by decide) dX6_isStack_20 ?_
      refine zv_ci0 (pc := 21) (ws' := (fun uz : zMem => (zd_X6_isStack cI adM qM1 qM2 qM3 qM4 qM5 qM6 qM7 qM8 qM12 qM13 qM15 qM16 qM17 qM18 qM19 qM20 qM21 uz))) C (zv_runV (As := [.int (1 : Int32), .int (1 : Int32)]) (b := adM) (rest := []) (ci := 5) (q0 := 0) C (zc_X6_right l G cI adM qM1 qM2 qM3 qM4 qM5 qM6 qM7 qM8 qM12 qM13 qM15 qM16 qM17 qM18 qM19 qM20 qM21 (zset M 0 (fun _ => (0 : Int32))) (1 : Int32) (1 : Int32) _ hF) (cwV 2 C.2.2.2.2.1 gX6_isStack_X6_right rfl rfl rfl zy_X6_right ⟨Nat.le_of_ble_eq_true rfl, Nat.le_of_ble_eq_true rfl⟩) rfl rfl rfl rfl rfl (Nat.le_of_ble_eq_true rfl) ⟨Nat.zero_le _, Nat.zero_le _⟩ dX6_isStack_21) [0, 1, 2, 3, 4, 5, 6, 7, 8, 9, 10, 11, 12, 13, 14, 15, 16, 17] [] rfl rfl rfl rfl rfl (fun _ => rfl) (fun _ => rfl) (fun _ => rfl) (fun v_10 uz hF => ?_)
      obtain ⟨T_9, hE⟩ : ∃ z, z = uz := ⟨_, rfl⟩; subst hE
      obtain ⟨hn_11, hF⟩ := hF
      exact zv_zret (pc := 24) C hr hlk v_10 T_9 hn_11 hF rfl dX6_isStack_24
theorem zf_X6_set_56 : Cond.fieldLink RX6 56 "GlassStackModel" "limb" "[I" ∈ wsX6_set := (List.mem_of_getElem? (i := 3) rfl)
theorem zf_X6_set_59 : Cond.fieldLink RX6 59 "GlassStackModel" "size" "[I" ∈ wsX6_set := (List.mem_of_getElem? (i := 2) rfl)
theorem zf_X6_set_62 : Cond.fieldLink RX6 62 "GlassStackModel" "sign" "[I" ∈ wsX6_set := (List.mem_of_getElem? (i := 1) rfl)
theorem zi_X6_set_X6 : ∀ w ∈ wsX60, w ∈ wsX6_set := fun w h => List.mem_cons_of_mem _ (List.mem_append_right _ h)
theorem zy_X6_set : yX6_set.cls = RX6 ∧ yX6_set.cls ≠ "java/lang/invoke/MethodHandle" ∧ yX6_set.cls ≠ "java/lang/invoke/VarHandle" ∧ (parseMethodDescriptor yX6_set.desc).map (fun d => d.parameters.length) = some 2 := by decide +kernel
set_option maxHeartbeats 4000000 in
set_option maxRecDepth 100000 in
theorem zl_X6_set_48 {p : Program} {l : Launch} {e : Env} {s : State} {m : MethodId} {args : Array Value} {below : List Frame} {meth : Method} {c : Code} {G : va_G} {cI : ClassId} {A : Nat → Prop} {Q : State → Prop} (adM qM1 qM2 qM3 qM4 qM5 qM6 qM7 qM8 qM12 qM13 qM15 qM16 qM17 qM18 qM19 qM20 qM21 : Nat) (c1 : Int32) (K99 : zMem → Prop) (C : zv_C p s m args c cX6_set 6 RX6 wsX6_set G cI A) (hK99 : ∀ (M : zMem), K99 M → zv_V p l e (headSpec wsX6_set rmX6_set).room s m args below meth c Q G A 6 0 0 (zd_X6_set cI adM qM1 qM2 qM3 qM4 qM5 qM6 qM7 qM8 qM12 qM13 qM15 qM16 qM17 qM18 qM19 qM20 qM21 M) 99 [] []) : ∀ (k : Nat) (p4 : Int64) (M : zMem), zw_X6_set_48 c1 K99 k p4 M → zv_V p l e (headSpec wsX6_set rmX6_set).room s m args below meth c Q G A 6 0 0 (zd_X6_set cI adM qM1 qM2 qM3 qM4 qM5 qM6 qM7 qM8 qM12 qM13 qM15 qM16 qM17 qM18 qM19 qM20 qM21 M) 48 [(0, .ref adM), (1, .int c1), (4, .long p4)] [] := by
  intro k
  induction k with
  | zero => intro p4 M hF; exact (show False from hF).elim
  | succ k ih =>
    intro p4 M hF
    refine zv_lload (pc := 48) C 2 rfl dX6_set_48 ?_
    refine zv_lconst (pc := 50) (v := 0) C (by decide) dX6_set_50 ?_
    refine zv_lcmp (pc := 51) C  dX6_set_51 ?_
    refine zv_if_le (pc := 52) (tgt := 99) C dX6_set_52 (by decide) (fun c_11 => ?_) (fun c_11 => ?_)
    · replace hF := And.left hF c_11
      exact zv_lvs [] rfl (hK99 M hF)
    · replace hF := And.right hF c_11
      refine zv_aload_n (pc := 55) C rfl 0 rfl dX6_set_55 ?_
      refine zv_get (pc := 56) (CC := RX6) (T := TX6) (N := 22) (ci := 5) (v := .ref qM19) C zi_X6_set_X6 0 rfl 19 (by decide) zf_X6_set_56 rfl rfl dX6_set_56 ?_
      refine zv_sipush (pc := 59) (v := 200) C (by decide) dX6_set_59 ?_
      refine zv_iload_n (pc := 62) C rfl 1 rfl dX6_set_62 ?_
      refine zv_imul (pc := 63) C  dX6_set_63 ?_
      refine zv_aload_n (pc := 64) C rfl 0 rfl dX6_set_64 ?_
      refine zv_get (pc := 65) (CC := RX6) (T := TX6) (N := 22) (ci := 5) (v := .ref qM20) C zi_X6_set_X6 0 rfl 20 (by decide) zf_X6_set_59 rfl rfl dX6_set_65 ?_
      refine zv_iload_n (pc := 68) C rfl 1 rfl dX6_set_68 ?_
      obtain ⟨h_12, hF⟩ := hF
      refine zv_iald (pc := 69) (n := 60) (f := (M 20)) C 16 h_12 rfl dX6_set_69 ?_
      refine zv_iadd (pc := 70) C  dX6_set_70 ?_
      refine zv_lload (pc := 71) C 2 rfl dX6_set_71 ?_
      refine zv_ldc2 (pc := 73) C (v := 32767) (List.mem_of_getElem? (i := 4) rfl) dX6_set_73 ?_
      refine zv_land (pc := 76) C  dX6_set_76 ?_
      refine zv_l2i (pc := 77) C  dX6_set_77 ?_
      obtain ⟨h_13, hF⟩ := hF
      obtain ⟨r_14, er_14⟩ : ∃ y : zRow, y = (upd (M 19) (Int32.toNatClampNeg (((200 : Int32) * c1) + ((M 20) (Int32.toNatClampNeg c1)))) (Int64.toInt32 (p4 &&& (32767 : Int64)))) := ⟨_, rfl⟩
      replace hF := hF r_14 er_14
      refine zv_iast (pc := 78) (n := 12000) (f := (M 19)) (ws' := (zd_X6_set cI adM qM1 qM2 qM3 qM4 qM5 qM6 qM7 qM8 qM12 qM13 qM15 qM16 qM17 qM18 qM19 qM20 qM21 (zset M 19 r_14))) C 15 h_13 rfl (by rw [er_14]; rfl) dX6_set_78 ?_
      refine zv_aload_n (pc := 79) C rfl 0 rfl dX6_set_79 ?_
      refine zv_get (pc := 80) (CC := RX6) (T := TX6) (N := 22) (ci := 5) (v := .ref qM20) C zi_X6_set_X6 0 rfl 20 (by decide) zf_X6_set_59 rfl rfl dX6_set_80 ?_
      refine zv_iload_n (pc := 83) C rfl 1 rfl dX6_set_83 ?_
      refine zv_dup2 (pc := 84) C rfl rfl dX6_set_84 ?_
      obtain ⟨h_15, hF⟩ := hF
      refine zv_iald (pc := 85) (n := 60) (f := (M 20)) C 16 h_15 rfl dX6_set_85 ?_
      refine zv_iconst (pc := 86) (v := 1) C (by decide) dX6_set_86 ?_
      refine zv_iadd (pc := 87) C  dX6_set_87 ?_
      obtain ⟨h_16, hF⟩ := hF
      obtain ⟨r_17, er_17⟩ : ∃ y : zRow, y = (upd (M 20) (Int32.toNatClampNeg c1) (((M 20) (Int32.toNatClampNeg c1)) + (1 : Int32))) := ⟨_, rfl⟩
      replace hF := hF r_17 er_17
      refine zv_iast (pc := 88) (n := 60) (f := (M 20)) (ws' := (zd_X6_set cI adM qM1 qM2 qM3 qM4 qM5 qM6 qM7 qM8 qM12 qM13 qM15 qM16 qM17 qM18 qM19 qM20 qM21 (zset (zset M 19 r_14) 20 r_17))) C 16 h_16 rfl (by rw [er_17]; rfl) dX6_set_88 ?_
      refine zv_lload (pc := 89) C 2 rfl dX6_set_89 ?_
      refine zv_bipush (pc := 91) (v := 15) C (by decide) dX6_set_91 ?_
      refine zv_lshr (pc := 93) C  dX6_set_93 ?_
      refine zv_topl (fun x4_18 ex4_18 => ?_)
      replace hF := hF x4_18 ex4_18
      refine zv_lstore (pc := 94) (lv' := [(4, .long x4_18), (0, .ref adM), (1, .int c1)]) C (by decide) rfl dX6_set_94 ?_
      refine zv_goto (pc := 96) (tgt := 48) C dX6_set_96 (by decide) ?_
      exact zv_lvs [1, 2, 0] rfl (ih x4_18 (zset (zset M 19 r_14) 20 r_17) hF)
set_option maxHeartbeats 4000000 in
set_option maxRecDepth 100000 in
theorem zc_X6_set (l : Launch) (G : va_G) (cI : ClassId) (adM qM1 qM2 qM3 qM4 qM5 qM6 qM7 qM8 qM12 qM13 qM15 qM16 qM17 qM18 qM19 qM20 qM21 : Nat) (M : zMem) (a1 : Int32) (a2 : Int64) (post : zMem → Prop) (hF : zw_X6_set M a1 a2 post) (sz : Nat) : Met l yX6_set wsX6_set rmX6_set (va_Pc [.ref adM, .int a1, .long a2] (zv_in G cI (zd_X6_set cI adM qM1 qM2 qM3 qM4 qM5 qM6 qM7 qM8 qM12 qM13 qM15 qM16 qM17 qM18 qM19 qM20 qM21 M) sz)) (va_Qv (fun uz : zMem => post uz) (fun (uz : zMem) t => zv_out G cI (va_A (zd_X6_set cI adM qM1 qM2 qM3 qM4 qM5 qM6 qM7 qM8 qM12 qM13 qM15 qM16 qM17 qM18 qM19 qM20 qM21 M) sz) (zd_X6_set cI adM qM1 qM2 qM3 qM4 qM5 qM6 qM7 qM8 qM12 qM13 qM15 qM16 qM17 qM18 qM19 qM20 qM21 uz) t) (va_A (zd_X6_set cI adM qM1 qM2 qM3 qM4 qM5 qM6 qM7 qM8 qM12 qM13 qM15 qM16 qM17 qM18 qM19 qM20 qM21 M) sz)) 0 0 (va_A (zd_X6_set cI adM qM1 qM2 qM3 qM4 qM5 qM6 qM7 qM8 qM12 qM13 qM15 qM16 qM17 qM18 qM19 qM20 qM21 M) sz) := by
  refine zv_met (cc := cX6_set) (maxL := 6) (ret := none) (lv0 := [(0, .ref adM), (1, .int a1), (2, .long a2)]) (Qc := fun A => va_Qv (fun uz : zMem => post uz) (fun (uz : zMem) t => zv_out G cI A (zd_X6_set cI adM qM1 qM2 qM3 qM4 qM5 qM6 qM7 qM8 qM12 qM13 qM15 qM16 qM17 qM18 qM19 qM20 qM21 uz) t) A) (by decide) rfl (Nat.le_of_ble_eq_true rfl) rfl ?_ sz
  intro p e s m below meth c A C hr hlk
  clear sz
  refine zv_lload_n (pc := 0) C rfl 2 rfl dX6_set_0 ?_
  refine zv_lconst (pc := 1) (v := 0) C (by decide) dX6_set_1 ?_
  refine zv_lcmp (pc := 2) C  dX6_set_2 ?_
  obtain ⟨KJ_3, h0KJ_3, hF⟩ := hF
  refine zv_join (α := Int64) (KK := fun uz => KJ_3 uz) (wsJ := fun uz => (zd_X6_set cI adM qM1 qM2 qM3 qM4 qM5 qM6 qM7 qM8 qM12 qM13 qM15 qM16 qM17 qM18 qM19 qM20 qM21 M)) (pcJ := 12) (lvJ := fun uz => [(0, .ref adM), (1, .int a1), (2, .long a2)]) (stJ := fun uz => [.long uz]) ?_ (fun hKJ_3 => ?_)
  · rintro v_2 hF
    replace hF := h0KJ_3 v_2 hF
    refine zv_lstore (pc := 12) (lv' := [(4, .long v_2), (0, .ref adM), (1, .int a1), (2, .long a2)]) C (by decide) rfl dX6_set_12 ?_
    refine zv_aload_n (pc := 14) C rfl 1 rfl dX6_set_14 ?_
    refine zv_get (pc := 15) (CC := RX6) (T := TX6) (N := 22) (ci := 5) (v := .ref qM21) C zi_X6_set_X6 0 rfl 21 (by decide) zf_X6_set_62 rfl rfl dX6_set_15 ?_
    refine zv_iload_n (pc := 18) C rfl 2 rfl dX6_set_18 ?_
    refine zv_lload_n (pc := 19) C rfl 3 rfl dX6_set_19 ?_
    refine zv_lconst (pc := 20) (v := 0) C (by decide) dX6_set_20 ?_
    refine zv_lcmp (pc := 21) C  dX6_set_21 ?_
    obtain ⟨KJ_6, h0KJ_6, hF⟩ := hF
    refine zv_join (α := Int32) (KK := fun uz => KJ_6 uz) (wsJ := fun uz => (zd_X6_set cI adM qM1 qM2 qM3 qM4 qM5 qM6 qM7 qM8 qM12 qM13 qM15 qM16 qM17 qM18 qM19 qM20 qM21 M)) (pcJ := 40) (lvJ := fun uz => [(0, .ref adM), (1, .int a1), (4, .long v_2)]) (stJ := fun uz => [.int uz, .int a1, .ref qM21]) ?_ (fun hKJ_6 => ?_)
    · rintro v_5 hF
      replace hF := h0KJ_6 v_5 hF
      obtain ⟨h_7, hF⟩ := hF
      obtain ⟨r_8, er_8⟩ : ∃ y : zRow, y = (upd (M 21) (Int32.toNatClampNeg a1) v_5) := ⟨_, rfl⟩
      replace hF := hF r_8 er_8
      refine zv_iast (pc := 40) (n := 60) (f := (M 21)) (ws' := (zd_X6_set cI adM qM1 qM2 qM3 qM4 qM5 qM6 qM7 qM8 qM12 qM13 qM15 qM16 qM17 qM18 qM19 qM20 qM21 (zset M 21 r_8))) C 17 h_7 rfl (by rw [er_8]; rfl) dX6_set_40 ?_
      refine zv_aload_n (pc := 41) C rfl 0 rfl dX6_set_41 ?_
      refine zv_get (pc := 42) (CC := RX6) (T := TX6) (N := 22) (ci := 5) (v := .ref qM20) C zi_X6_set_X6 0 rfl 20 (by decide) zf_X6_set_59 rfl rfl dX6_set_42 ?_
      refine zv_iload_n (pc := 45) C rfl 1 rfl dX6_set_45 ?_
      refine zv_iconst (pc := 46) (v := 0) C (by decide) dX6_set_46 ?_
      obtain ⟨h_9, hF⟩ := hF
      obtain ⟨r_10, er_10⟩ : ∃ y : zRow, y = (upd (M 20) (Int32.toNatClampNeg a1) (0 : Int32)) := ⟨_, rfl⟩
      replace hF := hF r_10 er_10
      refine zv_iast (pc := 47) (n := 60) (f := (M 20)) (ws' := (zd_X6_set cI adM qM1 qM2 qM3 qM4 qM5 qM6 qM7 qM8 qM12 qM13 qM15 qM16 qM17 qM18 qM19 qM20 qM21 (zset (zset M 20 r_10) 21 r_8))) C 16 h_9 rfl (by rw [er_10]; rfl) dX6_set_47 ?_
      obtain ⟨kf, hF⟩ := hF
      refine zv_lvs [0, 1, 2] rfl (zl_X6_set_48 adM qM1 qM2 qM3 qM4 qM5 qM6 qM7 qM8 qM12 qM13 qM15 qM16 qM17 qM18 qM19 qM20 qM21 a1 _ C ?_ kf v_2 (zset (zset M 20 r_10) 21 r_8) hF)
      · intro T_19 hF
        exact zv_vret (pc := 99) C hr hlk T_19 hF rfl dX6_set_99
    · skip
      refine zv_if_ge (pc := 22) (tgt := 29) C dX6_set_22 (by decide) (fun c_4 => ?_) (fun c_4 => ?_)
      · replace hF := And.left hF c_4
        refine zv_lload_n (pc := 29) C rfl 3 rfl dX6_set_29 ?_
        refine zv_lconst (pc := 30) (v := 0) C (by decide) dX6_set_30 ?_
        refine zv_lcmp (pc := 31) C  dX6_set_31 ?_
        refine zv_if_le (pc := 32) (tgt := 39) C dX6_set_32 (by decide) (fun c_20 => ?_) (fun c_20 => ?_)
        · replace hF := And.left hF c_20
          refine zv_iconst (pc := 39) (v := 0) C (by decide) dX6_set_39 ?_
          exact zv_lvs [1, 2, 0] rfl (hKJ_6 (0 : Int32) hF)
        · replace hF := And.right hF c_20
          refine zv_iconst (pc := 35) (v := 1) C (by decide) dX6_set_35 ?_
          refine zv_goto (pc := 36) (tgt := 40) C dX6_set_36 (by decide) ?_
          exact zv_lvs [1, 2, 0] rfl (hKJ_6 (1 : Int32) hF)
      · replace hF := And.right hF c_4
        refine zv_iconst (pc := 25) (v := -1) C (by decide) dX6_set_25 ?_
        refine zv_goto (pc := 26) (tgt := 40) C dX6_set_26 (by decide) ?_
        exact zv_lvs [1, 2, 0] rfl (hKJ_6 (-1 : Int32) hF)
  · skip
    refine zv_if_ge (pc := 3) (tgt := 11) C dX6_set_3 (by decide) (fun c_1 => ?_) (fun c_1 => ?_)
    · replace hF := And.left hF c_1
      refine zv_lload_n (pc := 11) C rfl 2 rfl dX6_set_11 ?_
      exact zv_lvs [0, 1, 2] rfl (hKJ_3 a2 hF)
    · replace hF := And.right hF c_1
      refine zv_lload_n (pc := 6) C rfl 2 rfl dX6_set_6 ?_
      refine zv_lneg (pc := 7) C  dX6_set_7 ?_
      refine zv_goto (pc := 8) (tgt := 12) C dX6_set_8 (by decide) ?_
      exact zv_lvs [0, 1, 2] rfl (hKJ_3 (-a2) hF)
theorem zf_X6_copy_56 : Cond.fieldLink RX6 56 "GlassStackModel" "limb" "[I" ∈ wsX6_copy := (List.mem_of_getElem? (i := 2) rfl)
theorem zf_X6_copy_59 : Cond.fieldLink RX6 59 "GlassStackModel" "size" "[I" ∈ wsX6_copy := (List.mem_of_getElem? (i := 1) rfl)
theorem zf_X6_copy_62 : Cond.fieldLink RX6 62 "GlassStackModel" "sign" "[I" ∈ wsX6_copy := (List.mem_of_getElem? (i := 3) rfl)
theorem zi_X6_copy_X6 : ∀ w ∈ wsX60, w ∈ wsX6_copy := fun w h => List.mem_cons_of_mem _ (List.mem_append_right _ h)
theorem zy_X6_copy : yX6_copy.cls = RX6 ∧ yX6_copy.cls ≠ "java/lang/invoke/MethodHandle" ∧ yX6_copy.cls ≠ "java/lang/invoke/VarHandle" ∧ (parseMethodDescriptor yX6_copy.desc).map (fun d => d.parameters.length) = some 2 := by decide +kernel
set_option maxHeartbeats 4000000 in
set_option maxRecDepth 100000 in
theorem zl_X6_copy_2 {p : Program} {l : Launch} {e : Env} {s : State} {m : MethodId} {args : Array Value} {below : List Frame} {meth : Method} {c : Code} {G : va_G} {cI : ClassId} {A : Nat → Prop} {Q : State → Prop} (adM qM1 qM2 qM3 qM4 qM5 qM6 qM7 qM8 qM12 qM13 qM15 qM16 qM17 qM18 qM19 qM20 qM21 : Nat) (c1 : Int32) (c2 : Int32) (K42 : zMem → Prop) (C : zv_C p s m args c cX6_copy 4 RX6 wsX6_copy G cI A) (hK42 : ∀ (M : zMem), K42 M → zv_V p l e (headSpec wsX6_copy rmX6_copy).room s m args below meth c Q G A 4 0 0 (zd_X6_copy cI adM qM1 qM2 qM3 qM4 qM5 qM6 qM7 qM8 qM12 qM13 qM15 qM16 qM17 qM18 qM19 qM20 qM21 M) 42 [(0, .ref adM), (1, .int c1), (2, .int c2)] []) : ∀ (k : Nat) (p3 : Int32) (M : zMem), zw_X6_copy_2 c1 c2 K42 k p3 M → zv_V p l e (headSpec wsX6_copy rmX6_copy).room s m args below meth c Q G A 4 0 0 (zd_X6_copy cI adM qM1 qM2 qM3 qM4 qM5 qM6 qM7 qM8 qM12 qM13 qM15 qM16 qM17 qM18 qM19 qM20 qM21 M) 2 [(0, .ref adM), (1, .int c1), (2, .int c2), (3, .int p3)] [] := by
  intro k
  induction k with
  | zero => intro p3 M hF; exact (show False from hF).elim
  | succ k ih =>
    intro p3 M hF
    refine zv_iload_n (pc := 2) C rfl 3 rfl dX6_copy_2 ?_
    refine zv_aload_n (pc := 3) C rfl 0 rfl dX6_copy_3 ?_
    refine zv_get (pc := 4) (CC := RX6) (T := TX6) (N := 22) (ci := 5) (v := .ref qM20) C zi_X6_copy_X6 0 rfl 20 (by decide) zf_X6_copy_59 rfl rfl dX6_copy_4 ?_
    refine zv_iload_n (pc := 7) C rfl 2 rfl dX6_copy_7 ?_
    obtain ⟨h_1, hF⟩ := hF
    refine zv_iald (pc := 8) (n := 60) (f := (M 20)) C 16 h_1 rfl dX6_copy_8 ?_
    refine zv_icmp_ge (pc := 9) (tgt := 42) C dX6_copy_9 (by decide) (fun c_2 => ?_) (fun c_2 => ?_)
    · replace hF := And.left hF c_2
      exact zv_lvs [0, 1, 2] rfl (hK42 M hF)
    · replace hF := And.right hF c_2
      refine zv_aload_n (pc := 12) C rfl 0 rfl dX6_copy_12 ?_
      refine zv_get (pc := 13) (CC := RX6) (T := TX6) (N := 22) (ci := 5) (v := .ref qM19) C zi_X6_copy_X6 0 rfl 19 (by decide) zf_X6_copy_56 rfl rfl dX6_copy_13 ?_
      refine zv_sipush (pc := 16) (v := 200) C (by decide) dX6_copy_16 ?_
      refine zv_iload_n (pc := 19) C rfl 1 rfl dX6_copy_19 ?_
      refine zv_imul (pc := 20) C  dX6_copy_20 ?_
      refine zv_iload_n (pc := 21) C rfl 3 rfl dX6_copy_21 ?_
      refine zv_iadd (pc := 22) C  dX6_copy_22 ?_
      refine zv_aload_n (pc := 23) C rfl 0 rfl dX6_copy_23 ?_
      refine zv_get (pc := 24) (CC := RX6) (T := TX6) (N := 22) (ci := 5) (v := .ref qM19) C zi_X6_copy_X6 0 rfl 19 (by decide) zf_X6_copy_56 rfl rfl dX6_copy_24 ?_
      refine zv_sipush (pc := 27) (v := 200) C (by decide) dX6_copy_27 ?_
      refine zv_iload_n (pc := 30) C rfl 2 rfl dX6_copy_30 ?_
      refine zv_imul (pc := 31) C  dX6_copy_31 ?_
      refine zv_iload_n (pc := 32) C rfl 3 rfl dX6_copy_32 ?_
      refine zv_iadd (pc := 33) C  dX6_copy_33 ?_
      obtain ⟨h_3, hF⟩ := hF
      refine zv_iald (pc := 34) (n := 12000) (f := (M 19)) C 15 h_3 rfl dX6_copy_34 ?_
      obtain ⟨h_4, hF⟩ := hF
      obtain ⟨r_5, er_5⟩ : ∃ y : zRow, y = (upd (M 19) (Int32.toNatClampNeg (((200 : Int32) * c1) + p3)) ((M 19) (Int32.toNatClampNeg (((200 : Int32) * c2) + p3)))) := ⟨_, rfl⟩
      replace hF := hF r_5 er_5
      refine zv_iast (pc := 35) (n := 12000) (f := (M 19)) (ws' := (zd_X6_copy cI adM qM1 qM2 qM3 qM4 qM5 qM6 qM7 qM8 qM12 qM13 qM15 qM16 qM17 qM18 qM19 qM20 qM21 (zset M 19 r_5))) C 15 h_4 rfl (by rw [er_5]; rfl) dX6_copy_35 ?_
      obtain ⟨x3_6, ex3_6⟩ : ∃ y : Int32, y = p3 + (1 : Int32) := ⟨_, rfl⟩
      replace hF := hF x3_6 ex3_6
      refine zv_iinc (pc := 36) (v := x3_6) (lv' := [(3, .int x3_6), (0, .ref adM), (1, .int c1), (2, .int c2)]) C 3 rfl (by rw [ex3_6]; rfl) (by decide) rfl dX6_copy_36 ?_
      refine zv_goto (pc := 39) (tgt := 2) C dX6_copy_39 (by decide) ?_
      exact zv_lvs [1, 2, 3, 0] rfl (ih x3_6 (zset M 19 r_5) hF)
set_option maxHeartbeats 4000000 in
set_option maxRecDepth 100000 in
theorem zc_X6_copy (l : Launch) (G : va_G) (cI : ClassId) (adM qM1 qM2 qM3 qM4 qM5 qM6 qM7 qM8 qM12 qM13 qM15 qM16 qM17 qM18 qM19 qM20 qM21 : Nat) (M : zMem) (a1 : Int32) (a2 : Int32) (post : zMem → Prop) (hF : zw_X6_copy M a1 a2 post) (sz : Nat) : Met l yX6_copy wsX6_copy rmX6_copy (va_Pc [.ref adM, .int a1, .int a2] (zv_in G cI (zd_X6_copy cI adM qM1 qM2 qM3 qM4 qM5 qM6 qM7 qM8 qM12 qM13 qM15 qM16 qM17 qM18 qM19 qM20 qM21 M) sz)) (va_Qv (fun uz : zMem => post uz) (fun (uz : zMem) t => zv_out G cI (va_A (zd_X6_copy cI adM qM1 qM2 qM3 qM4 qM5 qM6 qM7 qM8 qM12 qM13 qM15 qM16 qM17 qM18 qM19 qM20 qM21 M) sz) (zd_X6_copy cI adM qM1 qM2 qM3 qM4 qM5 qM6 qM7 qM8 qM12 qM13 qM15 qM16 qM17 qM18 qM19 qM20 qM21 uz) t) (va_A (zd_X6_copy cI adM qM1 qM2 qM3 qM4 qM5 qM6 qM7 qM8 qM12 qM13 qM15 qM16 qM17 qM18 qM19 qM20 qM21 M) sz)) 0 0 (va_A (zd_X6_copy cI adM qM1 qM2 qM3 qM4 qM5 qM6 qM7 qM8 qM12 qM13 qM15 qM16 qM17 qM18 qM19 qM20 qM21 M) sz) := by
  refine zv_met (cc := cX6_copy) (maxL := 4) (ret := none) (lv0 := [(0, .ref adM), (1, .int a1), (2, .int a2)]) (Qc := fun A => va_Qv (fun uz : zMem => post uz) (fun (uz : zMem) t => zv_out G cI A (zd_X6_copy cI adM qM1 qM2 qM3 qM4 qM5 qM6 qM7 qM8 qM12 qM13 qM15 qM16 qM17 qM18 qM19 qM20 qM21 uz) t) A) (by decide) rfl (Nat.le_of_ble_eq_true rfl) rfl ?_ sz
  intro p e s m below meth c A C hr hlk
  clear sz
  refine zv_iconst (pc := 0) (v := 0) C (by decide) dX6_copy_0 ?_
  refine zv_istore_n (pc := 1) (lv' := [(3, .int (0 : Int32)), (0, .ref adM), (1, .int a1), (2, .int a2)]) C rfl (by decide) rfl dX6_copy_1 ?_
  obtain ⟨kf, hF⟩ := hF
  refine zv_lvs [1, 2, 3, 0] rfl (zl_X6_copy_2 adM qM1 qM2 qM3 qM4 qM5 qM6 qM7 qM8 qM12 qM13 qM15 qM16 qM17 qM18 qM19 qM20 qM21 a1 a2 _ C ?_ kf (0 : Int32) M hF)
  · intro T_7 hF
    refine zv_aload_n (pc := 42) C rfl 0 rfl dX6_copy_42 ?_
    refine zv_get (pc := 43) (CC := RX6) (T := TX6) (N := 22) (ci := 5) (v := .ref qM20) C zi_X6_copy_X6 0 rfl 20 (by decide) zf_X6_copy_59 rfl rfl dX6_copy_43 ?_
    refine zv_iload_n (pc := 46) C rfl 1 rfl dX6_copy_46 ?_
    refine zv_aload_n (pc := 47) C rfl 0 rfl dX6_copy_47 ?_
    refine zv_get (pc := 48) (CC := RX6) (T := TX6) (N := 22) (ci := 5) (v := .ref qM20) C zi_X6_copy_X6 0 rfl 20 (by decide) zf_X6_copy_59 rfl rfl dX6_copy_48 ?_
    refine zv_iload_n (pc := 51) C rfl 2 rfl dX6_copy_51 ?_
    obtain ⟨h_8, hF⟩ := hF
    refine zv_iald (pc := 52) (n := 60) (f := (T_7 20)) C 16 h_8 rfl dX6_copy_52 ?_
    obtain ⟨h_9, hF⟩ := hF
    obtain ⟨r_10, er_10⟩ : ∃ y : zRow, y = (upd (T_7 20) (Int32.toNatClampNeg a1) ((T_7 20) (Int32.toNatClampNeg a2))) := ⟨_, rfl⟩
    replace hF := hF r_10 er_10
    refine zv_iast (pc := 53) (n := 60) (f := (T_7 20)) (ws' := (zd_X6_copy cI adM qM1 qM2 qM3 qM4 qM5 qM6 qM7 qM8 qM12 qM13 qM15 qM16 qM17 qM18 qM19 qM20 qM21 (zset T_7 20 r_10))) C 16 h_9 rfl (by rw [er_10]; rfl) dX6_copy_53 ?_
    refine zv_aload_n (pc := 54) C rfl 0 rfl dX6_copy_54 ?_
    refine zv_get (pc := 55) (CC := RX6) (T := TX6) (N := 22) (ci := 5) (v := .ref qM21) C zi_X6_copy_X6 0 rfl 21 (by decide) zf_X6_copy_62 rfl rfl dX6_copy_55 ?_
    refine zv_iload_n (pc := 58) C rfl 1 rfl dX6_copy_58 ?_
    refine zv_aload_n (pc := 59) C rfl 0 rfl dX6_copy_59 ?_
    refine zv_get (pc := 60) (CC := RX6) (T := TX6) (N := 22) (ci := 5) (v := .ref qM21) C zi_X6_copy_X6 0 rfl 21 (by decide) zf_X6_copy_62 rfl rfl dX6_copy_60 ?_
    refine zv_iload_n (pc := 63) C rfl 2 rfl dX6_copy_63 ?_
    obtain ⟨h_11, hF⟩ := hF
    refine zv_iald (pc := 64) (n := 60) (f := (T_7 21)) C 17 h_11 rfl dX6_copy_64 ?_
    obtain ⟨h_12, hF⟩ := hF
    obtain ⟨r_13, er_13⟩ : ∃ y : zRow, y = (upd (T_7 21) (Int32.toNatClampNeg a1) ((T_7 21) (Int32.toNatClampNeg a2))) := ⟨_, rfl⟩
    replace hF := hF r_13 er_13
    refine zv_iast (pc := 65) (n := 60) (f := (T_7 21)) (ws' := (zd_X6_copy cI adM qM1 qM2 qM3 qM4 qM5 qM6 qM7 qM8 qM12 qM13 qM15 qM16 qM17 qM18 qM19 qM20 qM21 (zset (zset T_7 20 r_10) 21 r_13))) C 17 h_12 rfl (by rw [er_13]; rfl) dX6_copy_65 ?_
    exact zv_vret (pc := 66) C hr hlk (zset (zset T_7 20 r_10) 21 r_13) hF rfl dX6_copy_66
theorem zf_X6_at_56 : Cond.fieldLink RX6 56 "GlassStackModel" "limb" "[I" ∈ wsX6_at := (List.mem_of_getElem? (i := 2) rfl)
theorem zf_X6_at_59 : Cond.fieldLink RX6 59 "GlassStackModel" "size" "[I" ∈ wsX6_at := (List.mem_of_getElem? (i := 1) rfl)
theorem zi_X6_at_X6 : ∀ w ∈ wsX60, w ∈ wsX6_at := fun w h => List.mem_cons_of_mem _ (List.mem_append_right _ h)
theorem zy_X6_at : yX6_at.cls = RX6 ∧ yX6_at.cls ≠ "java/lang/invoke/MethodHandle" ∧ yX6_at.cls ≠ "java/lang/invoke/VarHandle" ∧ (parseMethodDescriptor yX6_at.desc).map (fun d => d.parameters.length) = some 2 := by decide +kernel
set_option maxHeartbeats 4000000 in
set_option maxRecDepth 100000 in
theorem zc_X6_at (l : Launch) (G : va_G) (cI : ClassId) (adM qM1 qM2 qM3 qM4 qM5 qM6 qM7 qM8 qM12 qM13 qM15 qM16 qM17 qM18 qM19 qM20 qM21 : Nat) (M : zMem) (a1 : Int32) (a2 : Int32) (post : Int32 → Prop) (hF : zw_X6_at M a1 a2 post) (sz : Nat) : Met l yX6_at wsX6_at rmX6_at (va_Pc [.ref adM, .int a1, .int a2] (zv_in G cI (zd_X6_at cI adM qM1 qM2 qM3 qM4 qM5 qM6 qM7 qM8 qM12 qM13 qM15 qM16 qM17 qM18 qM19 qM20 qM21 M) sz)) (va_Qi (fun (rz : Int32) (uz : Unit) => post rz ) (fun (uz : Unit) t => zv_out G cI (va_A (zd_X6_at cI adM qM1 qM2 qM3 qM4 qM5 qM6 qM7 qM8 qM12 qM13 qM15 qM16 qM17 qM18 qM19 qM20 qM21 M) sz) (zd_X6_at cI adM qM1 qM2 qM3 qM4 qM5 qM6 qM7 qM8 qM12 qM13 qM15 qM16 qM17 qM18 qM19 qM20 qM21 M) t) (va_A (zd_X6_at cI adM qM1 qM2 qM3 qM4 qM5 qM6 qM7 qM8 qM12 qM13 qM15 qM16 qM17 qM18 qM19 qM20 qM21 M) sz)) 0 0 (va_A (zd_X6_at cI adM qM1 qM2 qM3 qM4 qM5 qM6 qM7 qM8 qM12 qM13 qM15 qM16 qM17 qM18 qM19 qM20 qM21 M) sz) := by
  refine zv_met (cc := cX6_at) (maxL := 3) (ret := (some .int)) (lv0 := [(0, .ref adM), (1, .int a1), (2, .int a2)]) (Qc := fun A => va_Qi (fun (rz : Int32) (uz : Unit) => post rz ) (fun (uz : Unit) t => zv_out G cI A (zd_X6_at cI adM qM1 qM2 qM3 qM4 qM5 qM6 qM7 qM8 qM12 qM13 qM15 qM16 qM17 qM18 qM19 qM20 qM21 M) t) A) (by decide) rfl (Nat.le_of_ble_eq_true rfl) rfl ?_ sz
  intro p e s m below meth c A C hr hlk
  clear sz
  refine zv_iload_n (pc := 0) C rfl 2 rfl dX6_at_0 ?_
  refine zv_aload_n (pc := 1) C rfl 0 rfl dX6_at_1 ?_
  refine zv_get (pc := 2) (CC := RX6) (T := TX6) (N := 22) (ci := 5) (v := .ref qM20) C zi_X6_at_X6 0 rfl 20 (by decide) zf_X6_at_59 rfl rfl dX6_at_2 ?_
  refine zv_iload_n (pc := 5) C rfl 1 rfl dX6_at_5 ?_
  obtain ⟨h_1, hF⟩ := hF
  refine zv_iald (pc := 6) (n := 60) (f := (M 20)) C 16 h_1 rfl dX6_at_6 ?_
  refine zv_icmp_ge (pc := 7) (tgt := 25) C dX6_at_7 (by decide) (fun c_2 => ?_) (fun c_2 => ?_)
  · replace hF := And.left hF c_2
    refine zv_iconst (pc := 25) (v := 0) C (by decide) dX6_at_25 ?_
    exact zv_iret (pc := 26) C hr hlk (0 : Int32) () hF rfl dX6_at_26
  · replace hF := And.right hF c_2
    refine zv_aload_n (pc := 10) C rfl 0 rfl dX6_at_10 ?_
    refine zv_get (pc := 11) (CC := RX6) (T := TX6) (N := 22) (ci := 5) (v := .ref qM19) C zi_X6_at_X6 0 rfl 19 (by decide) zf_X6_at_56 rfl rfl dX6_at_11 ?_
    refine zv_sipush (pc := 14) (v := 200) C (by decide) dX6_at_14 ?_
    refine zv_iload_n (pc := 17) C rfl 1 rfl dX6_at_17 ?_
    refine zv_imul (pc := 18) C  dX6_at_18 ?_
    refine zv_iload_n (pc := 19) C rfl 2 rfl dX6_at_19 ?_
    refine zv_iadd (pc := 20) C  dX6_at_20 ?_
    obtain ⟨h_3, hF⟩ := hF
    refine zv_iald (pc := 21) (n := 12000) (f := (M 19)) C 15 h_3 rfl dX6_at_21 ?_
    refine zv_goto (pc := 22) (tgt := 26) C dX6_at_22 (by decide) ?_
    exact zv_iret (pc := 26) C hr hlk ((M 19) (Int32.toNatClampNeg (((200 : Int32) * a1) + a2))) () hF rfl dX6_at_26
theorem zf_X6_trim_56 : Cond.fieldLink RX6 56 "GlassStackModel" "limb" "[I" ∈ wsX6_trim := (List.mem_of_getElem? (i := 2) rfl)
theorem zf_X6_trim_59 : Cond.fieldLink RX6 59 "GlassStackModel" "size" "[I" ∈ wsX6_trim := (List.mem_of_getElem? (i := 1) rfl)
theorem zf_X6_trim_62 : Cond.fieldLink RX6 62 "GlassStackModel" "sign" "[I" ∈ wsX6_trim := (List.mem_of_getElem? (i := 3) rfl)
theorem zi_X6_trim_X6 : ∀ w ∈ wsX60, w ∈ wsX6_trim := fun w h => List.mem_cons_of_mem _ (List.mem_append_right _ h)
theorem zy_X6_trim : yX6_trim.cls = RX6 ∧ yX6_trim.cls ≠ "java/lang/invoke/MethodHandle" ∧ yX6_trim.cls ≠ "java/lang/invoke/VarHandle" ∧ (parseMethodDescriptor yX6_trim.desc).map (fun d => d.parameters.length) = some 2 := by decide +kernel
set_option maxHeartbeats 4000000 in
set_option maxRecDepth 100000 in
theorem zl_X6_trim_7 {p : Program} {l : Launch} {e : Env} {s : State} {m : MethodId} {args : Array Value} {below : List Frame} {meth : Method} {c : Code} {G : va_G} {cI : ClassId} {A : Nat → Prop} {Q : State → Prop} (adM qM1 qM2 qM3 qM4 qM5 qM6 qM7 qM8 qM12 qM13 qM15 qM16 qM17 qM18 qM19 qM20 qM21 : Nat) (c1 : Int32) (K51 : zMem → Prop) (C : zv_C p s m args c cX6_trim 3 RX6 wsX6_trim G cI A) (hK51 : ∀ (M : zMem), K51 M → zv_V p l e (headSpec wsX6_trim rmX6_trim).room s m args below meth c Q G A 3 0 0 (zd_X6_trim cI adM qM1 qM2 qM3 qM4 qM5 qM6 qM7 qM8 qM12 qM13 qM15 qM16 qM17 qM18 qM19 qM20 qM21 M) 51 [(0, .ref adM), (1, .int c1)] []) : ∀ (k : Nat) (M : zMem), zw_X6_trim_7 c1 K51 k M → zv_V p l e (headSpec wsX6_trim rmX6_trim).room s m args below meth c Q G A 3 0 0 (zd_X6_trim cI adM qM1 qM2 qM3 qM4 qM5 qM6 qM7 qM8 qM12 qM13 qM15 qM16 qM17 qM18 qM19 qM20 qM21 M) 7 [(0, .ref adM), (1, .int c1)] [] := by
  intro k
  induction k with
  | zero => intro M hF; exact (show False from hF).elim
  | succ k ih =>
    intro M hF
    refine zv_aload_n (pc := 7) C rfl 0 rfl dX6_trim_7 ?_
    refine zv_get (pc := 8) (CC := RX6) (T := TX6) (N := 22) (ci := 5) (v := .ref qM20) C zi_X6_trim_X6 0 rfl 20 (by decide) zf_X6_trim_59 rfl rfl dX6_trim_8 ?_
    refine zv_iload_n (pc := 11) C rfl 1 rfl dX6_trim_11 ?_
    obtain ⟨h_3, hF⟩ := hF
    refine zv_iald (pc := 12) (n := 60) (f := (M 20)) C 16 h_3 rfl dX6_trim_12 ?_
    refine zv_if_le (pc := 13) (tgt := 51) C dX6_trim_13 (by decide) (fun c_4 => ?_) (fun c_4 => ?_)
    · replace hF := And.left hF c_4
      exact zv_lvs [0, 1] rfl (hK51 M hF)
    · replace hF := And.right hF c_4
      refine zv_aload_n (pc := 16) C rfl 0 rfl dX6_trim_16 ?_
      refine zv_get (pc := 17) (CC := RX6) (T := TX6) (N := 22) (ci := 5) (v := .ref qM19) C zi_X6_trim_X6 0 rfl 19 (by decide) zf_X6_trim_56 rfl rfl dX6_trim_17 ?_
      refine zv_sipush (pc := 20) (v := 200) C (by decide) dX6_trim_20 ?_
      refine zv_iload_n (pc := 23) C rfl 1 rfl dX6_trim_23 ?_
      refine zv_imul (pc := 24) C  dX6_trim_24 ?_
      refine zv_aload_n (pc := 25) C rfl 0 rfl dX6_trim_25 ?_
      refine zv_get (pc := 26) (CC := RX6) (T := TX6) (N := 22) (ci := 5) (v := .ref qM20) C zi_X6_trim_X6 0 rfl 20 (by decide) zf_X6_trim_59 rfl rfl dX6_trim_26 ?_
      refine zv_iload_n (pc := 29) C rfl 1 rfl dX6_trim_29 ?_
      obtain ⟨h_5, hF⟩ := hF
      refine zv_iald (pc := 30) (n := 60) (f := (M 20)) C 16 h_5 rfl dX6_trim_30 ?_
      refine zv_iadd (pc := 31) C  dX6_trim_31 ?_
      refine zv_iconst (pc := 32) (v := 1) C (by decide) dX6_trim_32 ?_
      refine zv_isub (pc := 33) C  dX6_trim_33 ?_
      obtain ⟨h_6, hF⟩ := hF
      refine zv_iald (pc := 34) (n := 12000) (f := (M 19)) C 15 h_6 rfl dX6_trim_34 ?_
      refine zv_if_ne (pc := 35) (tgt := 51) C dX6_trim_35 (by decide) (fun c_7 => ?_) (fun c_7 => ?_)
      · replace hF := And.left hF c_7
        exact zv_lvs [0, 1] rfl (hK51 M hF)
      · replace hF := And.right hF c_7
        refine zv_aload_n (pc := 38) C rfl 0 rfl dX6_trim_38 ?_
        refine zv_get (pc := 39) (CC := RX6) (T := TX6) (N := 22) (ci := 5) (v := .ref qM20) C zi_X6_trim_X6 0 rfl 20 (by decide) zf_X6_trim_59 rfl rfl dX6_trim_39 ?_
        refine zv_iload_n (pc := 42) C rfl 1 rfl dX6_trim_42 ?_
        refine zv_dup2 (pc := 43) C rfl rfl dX6_trim_43 ?_
        obtain ⟨h_8, hF⟩ := hF
        refine zv_iald (pc := 44) (n := 60) (f := (M 20)) C 16 h_8 rfl dX6_trim_44 ?_
        refine zv_iconst (pc := 45) (v := 1) C (by decide) dX6_trim_45 ?_
        refine zv_isub (pc := 46) C  dX6_trim_46 ?_
        obtain ⟨h_9, hF⟩ := hF
        obtain ⟨r_10, er_10⟩ : ∃ y : zRow, y = (upd (M 20) (Int32.toNatClampNeg c1) (((M 20) (Int32.toNatClampNeg c1)) - (1 : Int32))) := ⟨_, rfl⟩
        replace hF := hF r_10 er_10
        refine zv_iast (pc := 47) (n := 60) (f := (M 20)) (ws' := (zd_X6_trim cI adM qM1 qM2 qM3 qM4 qM5 qM6 qM7 qM8 qM12 qM13 qM15 qM16 qM17 qM18 qM19 qM20 qM21 (zset M 20 r_10))) C 16 h_9 rfl (by rw [er_10]; rfl) dX6_trim_47 ?_
        refine zv_goto (pc := 48) (tgt := 7) C dX6_trim_48 (by decide) ?_
        exact zv_lvs [0, 1] rfl (ih (zset M 20 r_10) hF)
set_option maxHeartbeats 4000000 in
set_option maxRecDepth 100000 in
theorem zc_X6_trim (l : Launch) (G : va_G) (cI : ClassId) (adM qM1 qM2 qM3 qM4 qM5 qM6 qM7 qM8 qM12 qM13 qM15 qM16 qM17 qM18 qM19 qM20 qM21 : Nat) (M : zMem) (a1 : Int32) (a2 : Int32) (post : zMem → Prop) (hF : zw_X6_trim M a1 a2 post) (sz : Nat) : Met l yX6_trim wsX6_trim rmX6_trim (va_Pc [.ref adM, .int a1, .int a2] (zv_in G cI (zd_X6_trim cI adM qM1 qM2 qM3 qM4 qM5 qM6 qM7 qM8 qM12 qM13 qM15 qM16 qM17 qM18 qM19 qM20 qM21 M) sz)) (va_Qv (fun uz : zMem => post uz) (fun (uz : zMem) t => zv_out G cI (va_A (zd_X6_trim cI adM qM1 qM2 qM3 qM4 qM5 qM6 qM7 qM8 qM12 qM13 qM15 qM16 qM17 qM18 qM19 qM20 qM21 M) sz) (zd_X6_trim cI adM qM1 qM2 qM3 qM4 qM5 qM6 qM7 qM8 qM12 qM13 qM15 qM16 qM17 qM18 qM19 qM20 qM21 uz) t) (va_A (zd_X6_trim cI adM qM1 qM2 qM3 qM4 qM5 qM6 qM7 qM8 qM12 qM13 qM15 qM16 qM17 qM18 qM19 qM20 qM21 M) sz)) 0 0 (va_A (zd_X6_trim cI adM qM1 qM2 qM3 qM4 qM5 qM6 qM7 qM8 qM12 qM13 qM15 qM16 qM17 qM18 qM19 qM20 qM21 M) sz) := by
  refine zv_met (cc := cX6_trim) (maxL := 3) (ret := none) (lv0 := [(0, .ref adM), (1, .int a1), (2, .int a2)]) (Qc := fun A => va_Qv (fun uz : zMem => post uz) (fun (uz : zMem) t => zv_out G cI A (zd_X6_trim cI adM qM1 qM2 qM3 qM4 qM5 qM6 qM7 qM8 qM12 qM13 qM15 qM16 qM17 qM18 qM19 qM20 qM21 uz) t) A) (by decide) rfl (Nat.le_of_ble_eq_true rfl) rfl ?_ sz
  intro p e s m below meth c A C hr hlk
  clear sz
  refine zv_aload_n (pc := 0) C rfl 0 rfl dX6_trim_0 ?_
  refine zv_get (pc := 1) (CC := RX6) (T := TX6) (N := 22) (ci := 5) (v := .ref qM20) C zi_X6_trim_X6 0 rfl 20 (by decide) zf_X6_trim_59 rfl rfl dX6_trim_1 ?_
  refine zv_iload_n (pc := 4) C rfl 1 rfl dX6_trim_4 ?_
  refine zv_iload_n (pc := 5) C rfl 2 rfl dX6_trim_5 ?_
  obtain ⟨h_1, hF⟩ := hF
  obtain ⟨r_2, er_2⟩ : ∃ y : zRow, y = (upd (M 20) (Int32.toNatClampNeg a1) a2) := ⟨_, rfl⟩
  replace hF := hF r_2 er_2
  refine zv_iast (pc := 6) (n := 60) (f := (M 20)) (ws' := (zd_X6_trim cI adM qM1 qM2 qM3 qM4 qM5 qM6 qM7 qM8 qM12 qM13 qM15 qM16 qM17 qM18 qM19 qM20 qM21 (zset M 20 r_2))) C 16 h_1 rfl (by rw [er_2]; rfl) dX6_trim_6 ?_
  obtain ⟨kf, hF⟩ := hF
  refine zv_lvs [0, 1] rfl (zl_X6_trim_7 adM qM1 qM2 qM3 qM4 qM5 qM6 qM7 qM8 qM12 qM13 qM15 qM16 qM17 qM18 qM19 qM20 qM21 a1 _ C ?_ kf (zset M 20 r_2) hF)
  · intro T_11 hF
    refine zv_aload_n (pc := 51) C rfl 0 rfl dX6_trim_51 ?_
    refine zv_get (pc := 52) (CC := RX6) (T := TX6) (N := 22) (ci := 5) (v := .ref qM20) C zi_X6_trim_X6 0 rfl 20 (by decide) zf_X6_trim_59 rfl rfl dX6_trim_52 ?_
    refine zv_iload_n (pc := 55) C rfl 1 rfl dX6_trim_55 ?_
    obtain ⟨h_12, hF⟩ := hF
    refine zv_iald (pc := 56) (n := 60) (f := (T_11 20)) C 16 h_12 rfl dX6_trim_56 ?_
    refine zv_if_ne (pc := 57) (tgt := 67) C dX6_trim_57 (by decide) (fun c_13 => ?_) (fun c_13 => ?_)
    · replace hF := And.left hF c_13
      exact zv_vret (pc := 67) C hr hlk T_11 hF rfl dX6_trim_67
    · replace hF := And.right hF c_13
      refine zv_aload_n (pc := 60) C rfl 0 rfl dX6_trim_60 ?_
      refine zv_get (pc := 61) (CC := RX6) (T := TX6) (N := 22) (ci := 5) (v := .ref qM21) C zi_X6_trim_X6 0 rfl 21 (by decide) zf_X6_trim_62 rfl rfl dX6_trim_61 ?_
      refine zv_iload_n (pc := 64) C rfl 1 rfl dX6_trim_64 ?_
      refine zv_iconst (pc := 65) (v := 0) C (by decide) dX6_trim_65 ?_
      obtain ⟨h_14, hF⟩ := hF
      obtain ⟨r_15, er_15⟩ : ∃ y : zRow, y = (upd (T_11 21) (Int32.toNatClampNeg a1) (0 : Int32)) := ⟨_, rfl⟩
      replace hF := hF r_15 er_15
      refine zv_iast (pc := 66) (n := 60) (f := (T_11 21)) (ws' := (zd_X6_trim cI adM qM1 qM2 qM3 qM4 qM5 qM6 qM7 qM8 qM12 qM13 qM15 qM16 qM17 qM18 qM19 qM20 qM21 (zset T_11 21 r_15))) C 17 h_14 rfl (by rw [er_15]; rfl) dX6_trim_66 ?_
      exact zv_vret (pc := 67) C hr hlk (zset T_11 21 r_15) hF rfl dX6_trim_67
theorem zf_X6_compareSizes_59 : Cond.fieldLink RX6 59 "GlassStackModel" "size" "[I" ∈ wsX6_compareSizes := (List.mem_of_getElem? (i := 1) rfl)
theorem zi_X6_compareSizes_X6 : ∀ w ∈ wsX60, w ∈ wsX6_compareSizes := fun w h => List.mem_cons_of_mem _ (List.mem_append_right _ h)
theorem zy_X6_compareSizes : yX6_compareSizes.cls = RX6 ∧ yX6_compareSizes.cls ≠ "java/lang/invoke/MethodHandle" ∧ yX6_compareSizes.cls ≠ "java/lang/invoke/VarHandle" ∧ (parseMethodDescriptor yX6_compareSizes.desc).map (fun d => d.parameters.length) = some 2 := by decide +kernel
set_option maxHeartbeats 4000000 in
set_option maxRecDepth 100000 in
theorem zl_X6_compareSizes_45 {p : Program} {l : Launch} {e : Env} {s : State} {m : MethodId} {args : Array Value} {below : List Frame} {meth : Method} {c : Code} {G : va_G} {cI : ClassId} {A : Nat → Prop} {Q : State → Prop} (adM qM1 qM2 qM3 qM4 qM5 qM6 qM7 qM8 qM12 qM13 qM15 qM16 qM17 qM18 qM19 qM20 qM21 : Nat) (M : zMem) (c1 : Int32) (c2 : Int32) (K64 : Int32 → Prop) (K91 : Prop) (C : zv_C p s m args c cX6_compareSizes 4 RX6 wsX6_compareSizes G cI A) (hK64 : ∀ (p3 : Int32), K64 p3 → zv_V p l e (headSpec wsX6_compareSizes rmX6_compareSizes).room s m args below meth c Q G A 4 0 0 (zd_X6_compareSizes cI adM qM1 qM2 qM3 qM4 qM5 qM6 qM7 qM8 qM12 qM13 qM15 qM16 qM17 qM18 qM19 qM20 qM21 M) 64 [(0, .ref adM), (1, .int c1), (2, .int c2), (3, .int p3)] []) (hK91 : K91  → zv_V p l e (headSpec wsX6_compareSizes rmX6_compareSizes).room s m args below meth c Q G A 4 0 0 (zd_X6_compareSizes cI adM qM1 qM2 qM3 qM4 qM5 qM6 qM7 qM8 qM12 qM13 qM15 qM16 qM17 qM18 qM19 qM20 qM21 M) 91 [] []) : ∀ (k : Nat) (p3 : Int32), zw_X6_compareSizes_45 M c1 c2 K64 K91 k p3 → zv_V p l e (headSpec wsX6_compareSizes rmX6_compareSizes).room s m args below meth c Q G A 4 0 0 (zd_X6_compareSizes cI adM qM1 qM2 qM3 qM4 qM5 qM6 qM7 qM8 qM12 qM13 qM15 qM16 qM17 qM18 qM19 qM20 qM21 M) 45 [(0, .ref adM), (1, .int c1), (2, .int c2), (3, .int p3)] [] := by
  intro k
  induction k with
  | zero => intro p3 hF; exact (show False from hF).elim
  | succ k ih =>
    intro p3 hF
    refine zv_iload_n (pc := 45) C rfl 3 rfl dX6_compareSizes_45 ?_
    refine zv_if_lt (pc := 46) (tgt := 91) C dX6_compareSizes_46 (by decide) (fun c_6 => ?_) (fun c_6 => ?_)
    · replace hF := And.left hF c_6
      exact zv_lvs [] rfl (hK91  hF)
    · replace hF := And.right hF c_6
      refine zv_aload_n (pc := 49) C rfl 0 rfl dX6_compareSizes_49 ?_
      refine zv_iload_n (pc := 50) C rfl 1 rfl dX6_compareSizes_50 ?_
      refine zv_iload_n (pc := 51) C rfl 3 rfl dX6_compareSizes_51 ?_
      refine zv_ci0 (pc := 52) (ws' := (fun uz : Unit => (zd_X6_compareSizes cI adM qM1 qM2 qM3 qM4 qM5 qM6 qM7 qM8 qM12 qM13 qM15 qM16 qM17 qM18 qM19 qM20 qM21 M))) C (zv_runV (As := [.int c1, .int p3]) (b := adM) (rest := []) (ci := 5) (q0 := 0) C (zc_X6_at l G cI adM qM1 qM2 qM3 qM4 qM5 qM6 qM7 qM8 qM12 qM13 qM15 qM16 qM17 qM18 qM19 qM20 qM21 M c1 p3 _ hF) (cwV 2 C.2.2.2.2.1 gX6_compareSizes_X6_at rfl rfl rfl zy_X6_at ⟨Nat.le_of_ble_eq_true rfl, Nat.le_of_ble_eq_true rfl⟩) rfl rfl rfl rfl rfl (Nat.le_of_ble_eq_true rfl) ⟨Nat.zero_le _, Nat.zero_le _⟩ dX6_compareSizes_52) [0, 1, 2, 3, 4, 5, 6, 7, 8, 9, 10, 11, 12, 13, 14, 15, 16, 17] [] rfl rfl rfl rfl rfl (fun _ => rfl) (fun _ => rfl) (fun _ => rfl) (fun v_7 uz hF => ?_)
      refine zv_aload_n (pc := 55) C rfl 0 rfl dX6_compareSizes_55 ?_
      refine zv_iload_n (pc := 56) C rfl 2 rfl dX6_compareSizes_56 ?_
      refine zv_iload_n (pc := 57) C rfl 3 rfl dX6_compareSizes_57 ?_
      refine zv_ci0 (pc := 58) (ws' := (fun uz : Unit => (zd_X6_compareSizes cI adM qM1 qM2 qM3 qM4 qM5 qM6 qM7 qM8 qM12 qM13 qM15 qM16 qM17 qM18 qM19 qM20 qM21 M))) C (zv_runV (As := [.int c2, .int p3]) (b := adM) (rest := [.int v_7]) (ci := 5) (q0 := 0) C (zc_X6_at l G cI adM qM1 qM2 qM3 qM4 qM5 qM6 qM7 qM8 qM12 qM13 qM15 qM16 qM17 qM18 qM19 qM20 qM21 M c2 p3 _ hF) (cwV 2 C.2.2.2.2.1 gX6_compareSizes_X6_at rfl rfl rfl zy_X6_at ⟨Nat.le_of_ble_eq_true rfl, Nat.le_of_ble_eq_true rfl⟩) rfl rfl rfl rfl rfl (Nat.le_of_ble_eq_true rfl) ⟨Nat.zero_le _, Nat.zero_le _⟩ dX6_compareSizes_58) [0, 1, 2, 3, 4, 5, 6, 7, 8, 9, 10, 11, 12, 13, 14, 15, 16, 17] [] rfl rfl rfl rfl rfl (fun _ => rfl) (fun _ => rfl) (fun _ => rfl) (fun v_8 uz hF => ?_)
      refine zv_icmp_eq (pc := 61) (tgt := 85) C dX6_compareSizes_61 (by decide) (fun c_9 => ?_) (fun c_9 => ?_)
      · replace hF := And.left hF c_9
        obtain ⟨x3_10, ex3_10⟩ : ∃ y : Int32, y = p3 + (-1 : Int32) := ⟨_, rfl⟩
        replace hF := hF x3_10 ex3_10
        refine zv_iinc (pc := 85) (v := x3_10) (lv' := [(3, .int x3_10), (0, .ref adM), (1, .int c1), (2, .int c2)]) C 3 rfl (by rw [ex3_10]; rfl) (by decide) rfl dX6_compareSizes_85 ?_
        refine zv_goto (pc := 88) (tgt := 45) C dX6_compareSizes_88 (by decide) ?_
        exact zv_lvs [1, 2, 3, 0] rfl (ih x3_10 hF)
      · replace hF := And.right hF c_9
        exact zv_lvs [0, 1, 2, 3] rfl (hK64 p3 hF)
set_option maxHeartbeats 4000000 in
set_option maxRecDepth 100000 in
theorem zc_X6_compareSizes (l : Launch) (G : va_G) (cI : ClassId) (adM qM1 qM2 qM3 qM4 qM5 qM6 qM7 qM8 qM12 qM13 qM15 qM16 qM17 qM18 qM19 qM20 qM21 : Nat) (M : zMem) (a1 : Int32) (a2 : Int32) (post : Int32 → Prop) (hF : zw_X6_compareSizes M a1 a2 post) (sz : Nat) : Met l yX6_compareSizes wsX6_compareSizes rmX6_compareSizes (va_Pc [.ref adM, .int a1, .int a2] (zv_in G cI (zd_X6_compareSizes cI adM qM1 qM2 qM3 qM4 qM5 qM6 qM7 qM8 qM12 qM13 qM15 qM16 qM17 qM18 qM19 qM20 qM21 M) sz)) (va_Qi (fun (rz : Int32) (uz : Unit) => post rz ) (fun (uz : Unit) t => zv_out G cI (va_A (zd_X6_compareSizes cI adM qM1 qM2 qM3 qM4 qM5 qM6 qM7 qM8 qM12 qM13 qM15 qM16 qM17 qM18 qM19 qM20 qM21 M) sz) (zd_X6_compareSizes cI adM qM1 qM2 qM3 qM4 qM5 qM6 qM7 qM8 qM12 qM13 qM15 qM16 qM17 qM18 qM19 qM20 qM21 M) t) (va_A (zd_X6_compareSizes cI adM qM1 qM2 qM3 qM4 qM5 qM6 qM7 qM8 qM12 qM13 qM15 qM16 qM17 qM18 qM19 qM20 qM21 M) sz)) 0 0 (va_A (zd_X6_compareSizes cI adM qM1 qM2 qM3 qM4 qM5 qM6 qM7 qM8 qM12 qM13 qM15 qM16 qM17 qM18 qM19 qM20 qM21 M) sz) := by
  refine zv_met (cc := cX6_compareSizes) (maxL := 4) (ret := (some .int)) (lv0 := [(0, .ref adM), (1, .int a1), (2, .int a2)]) (Qc := fun A => va_Qi (fun (rz : Int32) (uz : Unit) => post rz ) (fun (uz : Unit) t => zv_out G cI A (zd_X6_compareSizes cI adM qM1 qM2 qM3 qM4 qM5 qM6 qM7 qM8 qM12 qM13 qM15 qM16 qM17 qM18 qM19 qM20 qM21 M) t) A) (by decide) rfl (Nat.le_of_ble_eq_true rfl) rfl ?_ sz
  intro p e s m below meth c A C hr hlk
  clear sz
  refine zv_aload_n (pc := 0) C rfl 0 rfl dX6_compareSizes_0 ?_
  refine zv_get (pc := 1) (CC := RX6) (T := TX6) (N := 22) (ci := 5) (v := .ref qM20) C zi_X6_compareSizes_X6 0 rfl 20 (by decide) zf_X6_compareSizes_59 rfl rfl dX6_compareSizes_1 ?_
  refine zv_iload_n (pc := 4) C rfl 1 rfl dX6_compareSizes_4 ?_
  obtain ⟨h_1, hF⟩ := hF
  refine zv_iald (pc := 5) (n := 60) (f := (M 20)) C 16 h_1 rfl dX6_compareSizes_5 ?_
  refine zv_aload_n (pc := 6) C rfl 0 rfl dX6_compareSizes_6 ?_
  refine zv_get (pc := 7) (CC := RX6) (T := TX6) (N := 22) (ci := 5) (v := .ref qM20) C zi_X6_compareSizes_X6 0 rfl 20 (by decide) zf_X6_compareSizes_59 rfl rfl dX6_compareSizes_7 ?_
  refine zv_iload_n (pc := 10) C rfl 2 rfl dX6_compareSizes_10 ?_
  obtain ⟨h_2, hF⟩ := hF
  refine zv_iald (pc := 11) (n := 60) (f := (M 20)) C 16 h_2 rfl dX6_compareSizes_11 ?_
  refine zv_icmp_eq (pc := 12) (tgt := 36) C dX6_compareSizes_12 (by decide) (fun c_3 => ?_) (fun c_3 => ?_)
  · replace hF := And.left hF c_3
    refine zv_aload_n (pc := 36) C rfl 0 rfl dX6_compareSizes_36 ?_
    refine zv_get (pc := 37) (CC := RX6) (T := TX6) (N := 22) (ci := 5) (v := .ref qM20) C zi_X6_compareSizes_X6 0 rfl 20 (by decide) zf_X6_compareSizes_59 rfl rfl dX6_compareSizes_37 ?_
    refine zv_iload_n (pc := 40) C rfl 1 rfl dX6_compareSizes_40 ?_
    obtain ⟨h_4, hF⟩ := hF
    refine zv_iald (pc := 41) (n := 60) (f := (M 20)) C 16 h_4 rfl dX6_compareSizes_41 ?_
    refine zv_iconst (pc := 42) (v := 1) C (by decide) dX6_compareSizes_42 ?_
    refine zv_isub (pc := 43) C  dX6_compareSizes_43 ?_
    refine zv_topi (fun x3_5 ex3_5 => ?_)
    replace hF := hF x3_5 ex3_5
    refine zv_istore_n (pc := 44) (lv' := [(3, .int x3_5), (0, .ref adM), (1, .int a1), (2, .int a2)]) C rfl (by decide) rfl dX6_compareSizes_44 ?_
    obtain ⟨kf, hF⟩ := hF
    refine zv_lvs [1, 2, 3, 0] rfl (zl_X6_compareSizes_45 adM qM1 qM2 qM3 qM4 qM5 qM6 qM7 qM8 qM12 qM13 qM15 qM16 qM17 qM18 qM19 qM20 qM21 M a1 a2 _ _ C ?_ ?_ kf x3_5 hF)
    · intro x3_11 hF
      refine zv_aload_n (pc := 64) C rfl 0 rfl dX6_compareSizes_64 ?_
      refine zv_iload_n (pc := 65) C rfl 1 rfl dX6_compareSizes_65 ?_
      refine zv_iload_n (pc := 66) C rfl 3 rfl dX6_compareSizes_66 ?_
      refine zv_ci0 (pc := 67) (ws' := (fun uz : Unit => (zd_X6_compareSizes cI adM qM1 qM2 qM3 qM4 qM5 qM6 qM7 qM8 qM12 qM13 qM15 qM16 qM17 qM18 qM19 qM20 qM21 M))) C (zv_runV (As := [.int a1, .int x3_11]) (b := adM) (rest := []) (ci := 5) (q0 := 0) C (zc_X6_at l G cI adM qM1 qM2 qM3 qM4 qM5 qM6 qM7 qM8 qM12 qM13 qM15 qM16 qM17 qM18 qM19 qM20 qM21 M a1 x3_11 _ hF) (cwV 2 C.2.2.2.2.1 gX6_compareSizes_X6_at rfl rfl rfl zy_X6_at ⟨Nat.le_of_ble_eq_true rfl, Nat.le_of_ble_eq_true rfl⟩) rfl rfl rfl rfl rfl (Nat.le_of_ble_eq_true rfl) ⟨Nat.zero_le _, Nat.zero_le _⟩ dX6_compareSizes_67) [0, 1, 2, 3, 4, 5, 6, 7, 8, 9, 10, 11, 12, 13, 14, 15, 16, 17] [] rfl rfl rfl rfl rfl (fun _ => rfl) (fun _ => rfl) (fun _ => rfl) (fun v_12 uz hF => ?_)
      refine zv_aload_n (pc := 70) C rfl 0 rfl dX6_compareSizes_70 ?_
      refine zv_iload_n (pc := 71) C rfl 2 rfl dX6_compareSizes_71 ?_
      refine zv_iload_n (pc := 72) C rfl 3 rfl dX6_compareSizes_72 ?_
      refine zv_ci0 (pc := 73) (ws' := (fun uz : Unit => (zd_X6_compareSizes cI adM qM1 qM2 qM3 qM4 qM5 qM6 qM7 qM8 qM12 qM13 qM15 qM16 qM17 qM18 qM19 qM20 qM21 M))) C (zv_runV (As := [.int a2, .int x3_11]) (b := adM) (rest := [.int v_12]) (ci := 5) (q0 := 0) C (zc_X6_at l G cI adM qM1 qM2 qM3 qM4 qM5 qM6 qM7 qM8 qM12 qM13 qM15 qM16 qM17 qM18 qM19 qM20 qM21 M a2 x3_11 _ hF) (cwV 2 C.2.2.2.2.1 gX6_compareSizes_X6_at rfl rfl rfl zy_X6_at ⟨Nat.le_of_ble_eq_true rfl, Nat.le_of_ble_eq_true rfl⟩) rfl rfl rfl rfl rfl (Nat.le_of_ble_eq_true rfl) ⟨Nat.zero_le _, Nat.zero_le _⟩ dX6_compareSizes_73) [0, 1, 2, 3, 4, 5, 6, 7, 8, 9, 10, 11, 12, 13, 14, 15, 16, 17] [] rfl rfl rfl rfl rfl (fun _ => rfl) (fun _ => rfl) (fun _ => rfl) (fun v_13 uz hF => ?_)
      refine zv_icmp_ge (pc := 76) (tgt := 83) C dX6_compareSizes_76 (by decide) (fun c_14 => ?_) (fun c_14 => ?_)
      · replace hF := And.left hF c_14
        refine zv_iconst (pc := 83) (v := 1) C (by decide) dX6_compareSizes_83 ?_
        exact zv_iret (pc := 84) C hr hlk (1 : Int32) () hF rfl dX6_compareSizes_84
      · replace hF := And.right hF c_14
        refine zv_iconst (pc := 79) (v := -1) C (by decide) dX6_compareSizes_79 ?_
        refine zv_goto (pc := 80) (tgt := 84) C dX6_compareSizes_80 (by decide) ?_
        exact zv_iret (pc := 84) C hr hlk (-1 : Int32) () hF rfl dX6_compareSizes_84
    · intro  hF
      refine zv_iconst (pc := 91) (v := 0) C (by decide) dX6_compareSizes_91 ?_
      exact zv_iret (pc := 92) C hr hlk (0 : Int32) () hF rfl dX6_compareSizes_92
  · replace hF := And.right hF c_3
    refine zv_aload_n (pc := 15) C rfl 0 rfl dX6_compareSizes_15 ?_
    refine zv_get (pc := 16) (CC := RX6) (T := TX6) (N := 22) (ci := 5) (v := .ref qM20) C zi_X6_compareSizes_X6 0 rfl 20 (by decide) zf_X6_compareSizes_59 rfl rfl dX6_compareSizes_16 ?_
    refine zv_iload_n (pc := 19) C rfl 1 rfl dX6_compareSizes_19 ?_
    obtain ⟨h_15, hF⟩ := hF
    refine zv_iald (pc := 20) (n := 60) (f := (M 20)) C 16 h_15 rfl dX6_compareSizes_20 ?_
    refine zv_aload_n (pc := 21) C rfl 0 rfl dX6_compareSizes_21 ?_
    refine zv_get (pc := 22) (CC := RX6) (T := TX6) (N := 22) (ci := 5) (v := .ref qM20) C zi_X6_compareSizes_X6 0 rfl 20 (by decide) zf_X6_compareSizes_59 rfl rfl dX6_compareSizes_22 ?_
    refine zv_iload_n (pc := 25) C rfl 2 rfl dX6_compareSizes_25 ?_
    obtain ⟨h_16, hF⟩ := hF
    refine zv_iald (pc := 26) (n := 60) (f := (M 20)) C 16 h_16 rfl dX6_compareSizes_26 ?_
    refine zv_icmp_ge (pc := 27) (tgt := 34) C dX6_compareSizes_27 (by decide) (fun c_17 => ?_) (fun c_17 => ?_)
    · replace hF := And.left hF c_17
      refine zv_iconst (pc := 34) (v := 1) C (by decide) dX6_compareSizes_34 ?_
      exact zv_iret (pc := 35) C hr hlk (1 : Int32) () hF rfl dX6_compareSizes_35
    · replace hF := And.right hF c_17
      refine zv_iconst (pc := 30) (v := -1) C (by decide) dX6_compareSizes_30 ?_
      refine zv_goto (pc := 31) (tgt := 35) C dX6_compareSizes_31 (by decide) ?_
      exact zv_iret (pc := 35) C hr hlk (-1 : Int32) () hF rfl dX6_compareSizes_35
theorem zf_X6_compare_62 : Cond.fieldLink RX6 62 "GlassStackModel" "sign" "[I" ∈ wsX6_compare := (List.mem_of_getElem? (i := 1) rfl)
theorem zi_X6_compare_X6 : ∀ w ∈ wsX60, w ∈ wsX6_compare := fun w h => List.mem_cons_of_mem _ (List.mem_append_right _ h)
theorem zy_X6_compare : yX6_compare.cls = RX6 ∧ yX6_compare.cls ≠ "java/lang/invoke/MethodHandle" ∧ yX6_compare.cls ≠ "java/lang/invoke/VarHandle" ∧ (parseMethodDescriptor yX6_compare.desc).map (fun d => d.parameters.length) = some 2 := by decide +kernel
set_option maxHeartbeats 4000000 in
set_option maxRecDepth 100000 in
theorem zc_X6_compare (l : Launch) (G : va_G) (cI : ClassId) (adM qM1 qM2 qM3 qM4 qM5 qM6 qM7 qM8 qM12 qM13 qM15 qM16 qM17 qM18 qM19 qM20 qM21 : Nat) (M : zMem) (a1 : Int32) (a2 : Int32) (post : Int32 → Prop) (hF : zw_X6_compare M a1 a2 post) (sz : Nat) : Met l yX6_compare wsX6_compare rmX6_compare (va_Pc [.ref adM, .int a1, .int a2] (zv_in G cI (zd_X6_compare cI adM qM1 qM2 qM3 qM4 qM5 qM6 qM7 qM8 qM12 qM13 qM15 qM16 qM17 qM18 qM19 qM20 qM21 M) sz)) (va_Qi (fun (rz : Int32) (uz : Unit) => post rz ) (fun (uz : Unit) t => zv_out G cI (va_A (zd_X6_compare cI adM qM1 qM2 qM3 qM4 qM5 qM6 qM7 qM8 qM12 qM13 qM15 qM16 qM17 qM18 qM19 qM20 qM21 M) sz) (zd_X6_compare cI adM qM1 qM2 qM3 qM4 qM5 qM6 qM7 qM8 qM12 qM13 qM15 qM16 qM17 qM18 qM19 qM20 qM21 M) t) (va_A (zd_X6_compare cI adM qM1 qM2 qM3 qM4 qM5 qM6 qM7 qM8 qM12 qM13 qM15 qM16 qM17 qM18 qM19 qM20 qM21 M) sz)) 0 0 (va_A (zd_X6_compare cI adM qM1 qM2 qM3 qM4 qM5 qM6 qM7 qM8 qM12 qM13 qM15 qM16 qM17 qM18 qM19 qM20 qM21 M) sz) := by
  refine zv_met (cc := cX6_compare) (maxL := 3) (ret := (some .int)) (lv0 := [(0, .ref adM), (1, .int a1), (2, .int a2)]) (Qc := fun A => va_Qi (fun (rz : Int32) (uz : Unit) => post rz ) (fun (uz : Unit) t => zv_out G cI A (zd_X6_compare cI adM qM1 qM2 qM3 qM4 qM5 qM6 qM7 qM8 qM12 qM13 qM15 qM16 qM17 qM18 qM19 qM20 qM21 M) t) A) (by decide) rfl (Nat.le_of_ble_eq_true rfl) rfl ?_ sz
  intro p e s m below meth c A C hr hlk
  clear sz
  refine zv_aload_n (pc := 0) C rfl 0 rfl dX6_compare_0 ?_
  refine zv_get (pc := 1) (CC := RX6) (T := TX6) (N := 22) (ci := 5) (v := .ref qM21) C zi_X6_compare_X6 0 rfl 21 (by decide) zf_X6_compare_62 rfl rfl dX6_compare_1 ?_
  refine zv_iload_n (pc := 4) C rfl 1 rfl dX6_compare_4 ?_
  obtain ⟨h_1, hF⟩ := hF
  refine zv_iald (pc := 5) (n := 60) (f := (M 21)) C 17 h_1 rfl dX6_compare_5 ?_
  refine zv_aload_n (pc := 6) C rfl 0 rfl dX6_compare_6 ?_
  refine zv_get (pc := 7) (CC := RX6) (T := TX6) (N := 22) (ci := 5) (v := .ref qM21) C zi_X6_compare_X6 0 rfl 21 (by decide) zf_X6_compare_62 rfl rfl dX6_compare_7 ?_
  refine zv_iload_n (pc := 10) C rfl 2 rfl dX6_compare_10 ?_
  obtain ⟨h_2, hF⟩ := hF
  refine zv_iald (pc := 11) (n := 60) (f := (M 21)) C 17 h_2 rfl dX6_compare_11 ?_
  refine zv_icmp_eq (pc := 12) (tgt := 36) C dX6_compare_12 (by decide) (fun c_3 => ?_) (fun c_3 => ?_)
  · replace hF := And.left hF c_3
    refine zv_aload_n (pc := 36) C rfl 0 rfl dX6_compare_36 ?_
    refine zv_get (pc := 37) (CC := RX6) (T := TX6) (N := 22) (ci := 5) (v := .ref qM21) C zi_X6_compare_X6 0 rfl 21 (by decide) zf_X6_compare_62 rfl rfl dX6_compare_37 ?_
    refine zv_iload_n (pc := 40) C rfl 1 rfl dX6_compare_40 ?_
    obtain ⟨h_4, hF⟩ := hF
    refine zv_iald (pc := 41) (n := 60) (f := (M 21)) C 17 h_4 rfl dX6_compare_41 ?_
    refine zv_if_ge (pc := 42) (tgt := 54) C dX6_compare_42 (by decide) (fun c_5 => ?_) (fun c_5 => ?_)
    · replace hF := And.left hF c_5
      refine zv_aload_n (pc := 54) C rfl 0 rfl dX6_compare_54 ?_
      refine zv_iload_n (pc := 55) C rfl 1 rfl dX6_compare_55 ?_
      refine zv_iload_n (pc := 56) C rfl 2 rfl dX6_compare_56 ?_
      refine zv_ci0 (pc := 57) (ws' := (fun uz : Unit => (zd_X6_compare cI adM qM1 qM2 qM3 qM4 qM5 qM6 qM7 qM8 qM12 qM13 qM15 qM16 qM17 qM18 qM19 qM20 qM21 M))) C (zv_runV (As := [.int a1, .int a2]) (b := adM) (rest := []) (ci := 5) (q0 := 0) C (zc_X6_compareSizes l G cI adM qM1 qM2 qM3 qM4 qM5 qM6 qM7 qM8 qM12 qM13 qM15 qM16 qM17 qM18 qM19 qM20 qM21 M a1 a2 _ hF) (cwV 2 C.2.2.2.2.1 gX6_compare_X6_compareSizes rfl rfl rfl zy_X6_compareSizes ⟨Nat.le_of_ble_eq_true rfl, Nat.le_of_ble_eq_true rfl⟩) rfl rfl rfl rfl rfl (Nat.le_of_ble_eq_true rfl) ⟨Nat.zero_le _, Nat.zero_le _⟩ dX6_compare_57) [0, 1, 2, 3, 4, 5, 6, 7, 8, 9, 10, 11, 12, 13, 14, 15, 16, 17] [] rfl rfl rfl rfl rfl (fun _ => rfl) (fun _ => rfl) (fun _ => rfl) (fun v_6 uz hF => ?_)
      exact zv_iret (pc := 60) C hr hlk v_6 () hF rfl dX6_compare_60
    · replace hF := And.right hF c_5
      refine zv_aload_n (pc := 45) C rfl 0 rfl dX6_compare_45 ?_
      refine zv_iload_n (pc := 46) C rfl 2 rfl dX6_compare_46 ?_
      refine zv_iload_n (pc := 47) C rfl 1 rfl dX6_compare_47 ?_
      refine zv_ci0 (pc := 48) (ws' := (fun uz : Unit => (zd_X6_compare cI adM qM1 qM2 qM3 qM4 qM5 qM6 qM7 qM8 qM12 qM13 qM15 qM16 qM17 qM18 qM19 qM20 qM21 M))) C (zv_runV (As := [.int a2, .int a1]) (b := adM) (rest := []) (ci := 5) (q0 := 0) C (zc_X6_compareSizes l G cI adM qM1 qM2 qM3 qM4 qM5 qM6 qM7 qM8 qM12 qM13 qM15 qM16 qM17 qM18 qM19 qM20 qM21 M a2 a1 _ hF) (cwV 2 C.2.2.2.2.1 gX6_compare_X6_compareSizes rfl rfl rfl zy_X6_compareSizes ⟨Nat.le_of_ble_eq_true rfl, Nat.le_of_ble_eq_true rfl⟩) rfl rfl rfl rfl rfl (Nat.le_of_ble_eq_true rfl) ⟨Nat.zero_le _, Nat.zero_le _⟩ dX6_compare_48) [0, 1, 2, 3, 4, 5, 6, 7, 8, 9, 10, 11, 12, 13, 14, 15, 16, 17] [] rfl rfl rfl rfl rfl (fun _ => rfl) (fun _ => rfl) (fun _ => rfl) (fun v_7 uz hF => ?_)
      refine zv_goto (pc := 51) (tgt := 60) C dX6_compare_51 (by decide) ?_
      exact zv_iret (pc := 60) C hr hlk v_7 () hF rfl dX6_compare_60
  · replace hF := And.right hF c_3
    refine zv_aload_n (pc := 15) C rfl 0 rfl dX6_compare_15 ?_
    refine zv_get (pc := 16) (CC := RX6) (T := TX6) (N := 22) (ci := 5) (v := .ref qM21) C zi_X6_compare_X6 0 rfl 21 (by decide) zf_X6_compare_62 rfl rfl dX6_compare_16 ?_
    refine zv_iload_n (pc := 19) C rfl 1 rfl dX6_compare_19 ?_
    obtain ⟨h_8, hF⟩ := hF
    refine zv_iald (pc := 20) (n := 60) (f := (M 21)) C 17 h_8 rfl dX6_compare_20 ?_
    refine zv_aload_n (pc := 21) C rfl 0 rfl dX6_compare_21 ?_
    refine zv_get (pc := 22) (CC := RX6) (T := TX6) (N := 22) (ci := 5) (v := .ref qM21) C zi_X6_compare_X6 0 rfl 21 (by decide) zf_X6_compare_62 rfl rfl dX6_compare_22 ?_
    refine zv_iload_n (pc := 25) C rfl 2 rfl dX6_compare_25 ?_
    obtain ⟨h_9, hF⟩ := hF
    refine zv_iald (pc := 26) (n := 60) (f := (M 21)) C 17 h_9 rfl dX6_compare_26 ?_
    refine zv_icmp_ge (pc := 27) (tgt := 34) C dX6_compare_27 (by decide) (fun c_10 => ?_) (fun c_10 => ?_)
    · replace hF := And.left hF c_10
      refine zv_iconst (pc := 34) (v := 1) C (by decide) dX6_compare_34 ?_
      exact zv_iret (pc := 35) C hr hlk (1 : Int32) () hF rfl dX6_compare_35
    · replace hF := And.right hF c_10
      refine zv_iconst (pc := 30) (v := -1) C (by decide) dX6_compare_30 ?_
      refine zv_goto (pc := 31) (tgt := 35) C dX6_compare_31 (by decide) ?_
      exact zv_iret (pc := 35) C hr hlk (-1 : Int32) () hF rfl dX6_compare_35
theorem zf_X6_add_56 : Cond.fieldLink RX6 56 "GlassStackModel" "limb" "[I" ∈ wsX6_add := (List.mem_of_getElem? (i := 3) rfl)
theorem zf_X6_add_59 : Cond.fieldLink RX6 59 "GlassStackModel" "size" "[I" ∈ wsX6_add := (List.mem_of_getElem? (i := 2) rfl)
theorem zf_X6_add_62 : Cond.fieldLink RX6 62 "GlassStackModel" "sign" "[I" ∈ wsX6_add := (List.mem_of_getElem? (i := 1) rfl)
theorem zi_X6_add_X6 : ∀ w ∈ wsX60, w ∈ wsX6_add := fun w h => List.mem_cons_of_mem _ (List.mem_append_right _ h)
theorem zy_X6_add : yX6_add.cls = RX6 ∧ yX6_add.cls ≠ "java/lang/invoke/MethodHandle" ∧ yX6_add.cls ≠ "java/lang/invoke/VarHandle" ∧ (parseMethodDescriptor yX6_add.desc).map (fun d => d.parameters.length) = some 4 := by decide +kernel
set_option maxHeartbeats 4000000 in
set_option maxRecDepth 100000 in
theorem zl_X6_add_219 {p : Program} {l : Launch} {e : Env} {s : State} {m : MethodId} {args : Array Value} {below : List Frame} {meth : Method} {c : Code} {G : va_G} {cI : ClassId} {A : Nat → Prop} {Q : State → Prop} (adM qM1 qM2 qM3 qM4 qM5 qM6 qM7 qM8 qM12 qM13 qM15 qM16 qM17 qM18 qM19 qM20 qM21 : Nat) (c1 : Int32) (c4 : Int32) (c5 : Int32) (c6 : Int32) (c8 : Int32) (c9 : Int32) (c10 : Int32) (K280 : zMem → Prop) (C : zv_C p s m args c cX6_add 13 RX6 wsX6_add G cI A) (hK280 : ∀ (M : zMem), K280 M → zv_V p l e (headSpec wsX6_add rmX6_add).room s m args below meth c Q G A 13 0 0 (zd_X6_add cI adM qM1 qM2 qM3 qM4 qM5 qM6 qM7 qM8 qM12 qM13 qM15 qM16 qM17 qM18 qM19 qM20 qM21 M) 280 [(0, .ref adM), (1, .int c1), (4, .int c4), (5, .int c5), (6, .int c6), (8, .int c8)] []) : ∀ (k : Nat) (p7 : Int32) (p11 : Int32) (M : zMem), zw_X6_add_219 c1 c4 c5 c6 c8 c9 c10 K280 k p7 p11 M → zv_V p l e (headSpec wsX6_add rmX6_add).room s m args below meth c Q G A 13 0 0 (zd_X6_add cI adM qM1 qM2 qM3 qM4 qM5 qM6 qM7 qM8 qM12 qM13 qM15 qM16 qM17 qM18 qM19 qM20 qM21 M) 219 [(0, .ref adM), (1, .int c1), (4, .int c4), (5, .int c5), (6, .int c6), (7, .int p7), (8, .int c8), (9, .int c9), (10, .int c10), (11, .int p11)] [] := by
  intro k
  induction k with
  | zero => intro p7 p11 M hF; exact (show False from hF).elim
  | succ k ih =>
    intro p7 p11 M hF
    refine zv_iload (pc := 219) C 9 rfl dX6_add_219 ?_
    refine zv_iload (pc := 221) C 4 rfl dX6_add_221 ?_
    refine zv_icmp_ge (pc := 223) (tgt := 280) C dX6_add_223 (by decide) (fun c_22 => ?_) (fun c_22 => ?_)
    · replace hF := And.left hF c_22
      exact zv_lvs [0, 1, 2, 3, 4, 6] rfl (hK280 M hF)
    · replace hF := And.right hF c_22
      refine zv_aload_n (pc := 226) C rfl 0 rfl dX6_add_226 ?_
      refine zv_iload (pc := 227) C 7 rfl dX6_add_227 ?_
      refine zv_iload (pc := 229) C 9 rfl dX6_add_229 ?_
      refine zv_ci0 (pc := 231) (ws' := (fun uz : Unit => (zd_X6_add cI adM qM1 qM2 qM3 qM4 qM5 qM6 qM7 qM8 qM12 qM13 qM15 qM16 qM17 qM18 qM19 qM20 qM21 M))) C (zv_runV (As := [.int c9, .int p11]) (b := adM) (rest := []) (ci := 5) (q0 := 0) C (zc_X6_at l G cI adM qM1 qM2 qM3 qM4 qM5 qM6 qM7 qM8 qM12 qM13 qM15 qM16 qM17 qM18 qM19 qM20 qM21 M c9 p11 _ hF) (cwV 2 C.2.2.2.2.1 gX6_add_X6_at rfl rfl rfl zy_X6_at ⟨Nat.le_of_ble_eq_true rfl, Nat.le_of_ble_eq_true rfl⟩) rfl rfl rfl rfl rfl (Nat.le_of_ble_eq_true rfl) ⟨Nat.zero_le _, Nat.zero_le _⟩ dX6_add_231) [0, 1, 2, 3, 4, 5, 6, 7, 8, 9, 10, 11, 12, 13, 14, 15, 16, 17] [] rfl rfl rfl rfl rfl (fun _ => rfl) (fun _ => rfl) (fun _ => rfl) (fun v_23 uz hF => ?_)
      refine zv_aload_n (pc := 234) C rfl 0 rfl dX6_add_234 ?_
      refine zv_iload (pc := 235) C 8 rfl dX6_add_235 ?_
      refine zv_iload (pc := 237) C 9 rfl dX6_add_237 ?_
      refine zv_ci0 (pc := 239) (ws' := (fun uz : Unit => (zd_X6_add cI adM qM1 qM2 qM3 qM4 qM5 qM6 qM7 qM8 qM12 qM13 qM15 qM16 qM17 qM18 qM19 qM20 qM21 M))) C (zv_runV (As := [.int c10, .int p11]) (b := adM) (rest := [.int v_23]) (ci := 5) (q0 := 0) C (zc_X6_at l G cI adM qM1 qM2 qM3 qM4 qM5 qM6 qM7 qM8 qM12 qM13 qM15 qM16 qM17 qM18 qM19 qM20 qM21 M c10 p11 _ hF) (cwV 2 C.2.2.2.2.1 gX6_add_X6_at rfl rfl rfl zy_X6_at ⟨Nat.le_of_ble_eq_true rfl, Nat.le_of_ble_eq_true rfl⟩) rfl rfl rfl rfl rfl (Nat.le_of_ble_eq_true rfl) ⟨Nat.zero_le _, Nat.zero_le _⟩ dX6_add_239) [0, 1, 2, 3, 4, 5, 6, 7, 8, 9, 10, 11, 12, 13, 14, 15, 16, 17] [] rfl rfl rfl rfl rfl (fun _ => rfl) (fun _ => rfl) (fun _ => rfl) (fun v_24 uz hF => ?_)
      refine zv_isub (pc := 242) C  dX6_add_242 ?_
      refine zv_iload (pc := 243) C 5 rfl dX6_add_243 ?_
      refine zv_iadd (pc := 245) C  dX6_add_245 ?_
      refine zv_topi (fun x12_25 ex12_25 => ?_)
      replace hF := hF x12_25 ex12_25
      refine zv_istore (pc := 246) (lv' := [(12, .int x12_25), (0, .ref adM), (1, .int c1), (4, .int c4), (5, .int c5), (6, .int c6), (7, .int p7), (8, .int c8), (9, .int c9), (10, .int c10), (11, .int p11)]) C (by decide) rfl dX6_add_246 ?_
      refine zv_aload_n (pc := 248) C rfl 1 rfl dX6_add_248 ?_
      refine zv_get (pc := 249) (CC := RX6) (T := TX6) (N := 22) (ci := 5) (v := .ref qM19) C zi_X6_add_X6 0 rfl 19 (by decide) zf_X6_add_56 rfl rfl dX6_add_249 ?_
      refine zv_sipush (pc := 252) (v := 200) C (by decide) dX6_add_252 ?_
      refine zv_iload_n (pc := 255) C rfl 2 rfl dX6_add_255 ?_
      refine zv_imul (pc := 256) C  dX6_add_256 ?_
      refine zv_iload (pc := 257) C 10 rfl dX6_add_257 ?_
      refine zv_iadd (pc := 259) C  dX6_add_259 ?_
      refine zv_iload (pc := 260) C 0 rfl dX6_add_260 ?_
      refine zv_sipush (pc := 262) (v := 32767) C (by decide) dX6_add_262 ?_
      refine zv_iand (pc := 265) C  dX6_add_265 ?_
      obtain ⟨h_26, hF⟩ := hF
      obtain ⟨r_27, er_27⟩ : ∃ y : zRow, y = (upd (M 19) (Int32.toNatClampNeg (((200 : Int32) * c1) + p11)) (x12_25 &&& (32767 : Int32))) := ⟨_, rfl⟩
      replace hF := hF r_27 er_27
      refine zv_iast (pc := 266) (n := 12000) (f := (M 19)) (ws' := (zd_X6_add cI adM qM1 qM2 qM3 qM4 qM5 qM6 qM7 qM8 qM12 qM13 qM15 qM16 qM17 qM18 qM19 qM20 qM21 (zset M 19 r_27))) C 15 h_26 rfl (by rw [er_27]; rfl) dX6_add_266 ?_
      refine zv_iload (pc := 267) C 0 rfl dX6_add_267 ?_
      refine zv_bipush (pc := 269) (v := 15) C (by decide) dX6_add_269 ?_
      refine zv_ishr (pc := 271) C  dX6_add_271 ?_
      refine zv_topi (fun x7_28 ex7_28 => ?_)
      replace hF := hF x7_28 ex7_28
      refine zv_istore (pc := 272) (lv' := [(7, .int x7_28), (12, .int x12_25), (0, .ref adM), (1, .int c1), (4, .int c4), (5, .int c5), (6, .int c6), (8, .int c8), (9, .int c9), (10, .int c10), (11, .int p11)]) C (by decide) rfl dX6_add_272 ?_
      obtain ⟨x11_29, ex11_29⟩ : ∃ y : Int32, y = p11 + (1 : Int32) := ⟨_, rfl⟩
      replace hF := hF x11_29 ex11_29
      refine zv_iinc (pc := 274) (v := x11_29) (lv' := [(11, .int x11_29), (7, .int x7_28), (12, .int x12_25), (0, .ref adM), (1, .int c1), (4, .int c4), (5, .int c5), (6, .int c6), (8, .int c8), (9, .int c9), (10, .int c10)]) C 10 rfl (by rw [ex11_29]; rfl) (by decide) rfl dX6_add_274 ?_
      refine zv_goto (pc := 277) (tgt := 219) C dX6_add_277 (by decide) ?_
      exact zv_lvs [3, 4, 5, 6, 7, 1, 8, 9, 10, 0] rfl (ih x7_28 x11_29 (zset M 19 r_27) hF)
set_option maxHeartbeats 4000000 in
set_option maxRecDepth 100000 in
theorem zl_X6_add_84 {p : Program} {l : Launch} {e : Env} {s : State} {m : MethodId} {args : Array Value} {below : List Frame} {meth : Method} {c : Code} {G : va_G} {cI : ClassId} {A : Nat → Prop} {Q : State → Prop} (adM qM1 qM2 qM3 qM4 qM5 qM6 qM7 qM8 qM12 qM13 qM15 qM16 qM17 qM18 qM19 qM20 qM21 : Nat) (c1 : Int32) (c2 : Int32) (c3 : Int32) (c5 : Int32) (c6 : Int32) (K143 : Int32 → zMem → Prop) (C : zv_C p s m args c cX6_add 13 RX6 wsX6_add G cI A) (hK143 : ∀ (p7 : Int32) (M : zMem), K143 p7 M → zv_V p l e (headSpec wsX6_add rmX6_add).room s m args below meth c Q G A 13 0 0 (zd_X6_add cI adM qM1 qM2 qM3 qM4 qM5 qM6 qM7 qM8 qM12 qM13 qM15 qM16 qM17 qM18 qM19 qM20 qM21 M) 143 [(0, .ref adM), (1, .int c1), (5, .int c5), (6, .int c6), (7, .int p7)] []) : ∀ (k : Nat) (p7 : Int32) (p8 : Int32) (M : zMem), zw_X6_add_84 c1 c2 c3 c5 c6 K143 k p7 p8 M → zv_V p l e (headSpec wsX6_add rmX6_add).room s m args below meth c Q G A 13 0 0 (zd_X6_add cI adM qM1 qM2 qM3 qM4 qM5 qM6 qM7 qM8 qM12 qM13 qM15 qM16 qM17 qM18 qM19 qM20 qM21 M) 84 [(0, .ref adM), (1, .int c1), (2, .int c2), (3, .int c3), (5, .int c5), (6, .int c6), (7, .int p7), (8, .int p8)] [] := by
  intro k
  induction k with
  | zero => intro p7 p8 M hF; exact (show False from hF).elim
  | succ k ih =>
    intro p7 p8 M hF
    refine zv_iload (pc := 84) C 7 rfl dX6_add_84 ?_
    refine zv_iload (pc := 86) C 5 rfl dX6_add_86 ?_
    refine zv_icmp_ge (pc := 88) (tgt := 143) C dX6_add_88 (by decide) (fun c_38 => ?_) (fun c_38 => ?_)
    · replace hF := And.left hF c_38
      exact zv_lvs [0, 1, 4, 5, 6] rfl (hK143 p7 M hF)
    · replace hF := And.right hF c_38
      refine zv_aload_n (pc := 91) C rfl 0 rfl dX6_add_91 ?_
      refine zv_iload_n (pc := 92) C rfl 2 rfl dX6_add_92 ?_
      refine zv_iload (pc := 93) C 7 rfl dX6_add_93 ?_
      refine zv_ci0 (pc := 95) (ws' := (fun uz : Unit => (zd_X6_add cI adM qM1 qM2 qM3 qM4 qM5 qM6 qM7 qM8 qM12 qM13 qM15 qM16 qM17 qM18 qM19 qM20 qM21 M))) C (zv_runV (As := [.int c2, .int p8]) (b := adM) (rest := []) (ci := 5) (q0 := 0) C (zc_X6_at l G cI adM qM1 qM2 qM3 qM4 qM5 qM6 qM7 qM8 qM12 qM13 qM15 qM16 qM17 qM18 qM19 qM20 qM21 M c2 p8 _ hF) (cwV 2 C.2.2.2.2.1 gX6_add_X6_at rfl rfl rfl zy_X6_at ⟨Nat.le_of_ble_eq_true rfl, Nat.le_of_ble_eq_true rfl⟩) rfl rfl rfl rfl rfl (Nat.le_of_ble_eq_true rfl) ⟨Nat.zero_le _, Nat.zero_le _⟩ dX6_add_95) [0, 1, 2, 3, 4, 5, 6, 7, 8, 9, 10, 11, 12, 13, 14, 15, 16, 17] [] rfl rfl rfl rfl rfl (fun _ => rfl) (fun _ => rfl) (fun _ => rfl) (fun v_39 uz hF => ?_)
      refine zv_aload_n (pc := 98) C rfl 0 rfl dX6_add_98 ?_
      refine zv_iload_n (pc := 99) C rfl 3 rfl dX6_add_99 ?_
      refine zv_iload (pc := 100) C 7 rfl dX6_add_100 ?_
      refine zv_ci0 (pc := 102) (ws' := (fun uz : Unit => (zd_X6_add cI adM qM1 qM2 qM3 qM4 qM5 qM6 qM7 qM8 qM12 qM13 qM15 qM16 qM17 qM18 qM19 qM20 qM21 M))) C (zv_runV (As := [.int c3, .int p8]) (b := adM) (rest := [.int v_39]) (ci := 5) (q0 := 0) C (zc_X6_at l G cI adM qM1 qM2 qM3 qM4 qM5 qM6 qM7 qM8 qM12 qM13 qM15 qM16 qM17 qM18 qM19 qM20 qM21 M c3 p8 _ hF) (cwV 2 C.2.2.2.2.1 gX6_add_X6_at rfl rfl rfl zy_X6_at ⟨Nat.le_of_ble_eq_true rfl, Nat.le_of_ble_eq_true rfl⟩) rfl rfl rfl rfl rfl (Nat.le_of_ble_eq_true rfl) ⟨Nat.zero_le _, Nat.zero_le _⟩ dX6_add_102) [0, 1, 2, 3, 4, 5, 6, 7, 8, 9, 10, 11, 12, 13, 14, 15, 16, 17] [] rfl rfl rfl rfl rfl (fun _ => rfl) (fun _ => rfl) (fun _ => rfl) (fun v_40 uz hF => ?_)
      refine zv_iadd (pc := 105) C  dX6_add_105 ?_
      refine zv_iload (pc := 106) C 6 rfl dX6_add_106 ?_
      refine zv_iadd (pc := 108) C  dX6_add_108 ?_
      refine zv_topi (fun x9_41 ex9_41 => ?_)
      replace hF := hF x9_41 ex9_41
      refine zv_istore (pc := 109) (lv' := [(9, .int x9_41), (0, .ref adM), (1, .int c1), (2, .int c2), (3, .int c3), (5, .int c5), (6, .int c6), (7, .int p7), (8, .int p8)]) C (by decide) rfl dX6_add_109 ?_
      refine zv_aload_n (pc := 111) C rfl 1 rfl dX6_add_111 ?_
      refine zv_get (pc := 112) (CC := RX6) (T := TX6) (N := 22) (ci := 5) (v := .ref qM19) C zi_X6_add_X6 0 rfl 19 (by decide) zf_X6_add_56 rfl rfl dX6_add_112 ?_
      refine zv_sipush (pc := 115) (v := 200) C (by decide) dX6_add_115 ?_
      refine zv_iload_n (pc := 118) C rfl 2 rfl dX6_add_118 ?_
      refine zv_imul (pc := 119) C  dX6_add_119 ?_
      refine zv_iload (pc := 120) C 8 rfl dX6_add_120 ?_
      refine zv_iadd (pc := 122) C  dX6_add_122 ?_
      refine zv_iload (pc := 123) C 0 rfl dX6_add_123 ?_
      refine zv_sipush (pc := 125) (v := 32767) C (by decide) dX6_add_125 ?_
      refine zv_iand (pc := 128) C  dX6_add_128 ?_
      obtain ⟨h_42, hF⟩ := hF
      obtain ⟨r_43, er_43⟩ : ∃ y : zRow, y = (upd (M 19) (Int32.toNatClampNeg (((200 : Int32) * c1) + p8)) (x9_41 &&& (32767 : Int32))) := ⟨_, rfl⟩
      replace hF := hF r_43 er_43
      refine zv_iast (pc := 129) (n := 12000) (f := (M 19)) (ws' := (zd_X6_add cI adM qM1 qM2 qM3 qM4 qM5 qM6 qM7 qM8 qM12 qM13 qM15 qM16 qM17 qM18 qM19 qM20 qM21 (zset M 19 r_43))) C 15 h_42 rfl (by rw [er_43]; rfl) dX6_add_129 ?_
      refine zv_iload (pc := 130) C 0 rfl dX6_add_130 ?_
      refine zv_bipush (pc := 132) (v := 15) C (by decide) dX6_add_132 ?_
      refine zv_ishr (pc := 134) C  dX6_add_134 ?_
      refine zv_topi (fun x7_44 ex7_44 => ?_)
      replace hF := hF x7_44 ex7_44
      refine zv_istore (pc := 135) (lv' := [(7, .int x7_44), (9, .int x9_41), (0, .ref adM), (1, .int c1), (2, .int c2), (3, .int c3), (5, .int c5), (6, .int c6), (8, .int p8)]) C (by decide) rfl dX6_add_135 ?_
      obtain ⟨x8_45, ex8_45⟩ : ∃ y : Int32, y = p8 + (1 : Int32) := ⟨_, rfl⟩
      replace hF := hF x8_45 ex8_45
      refine zv_iinc (pc := 137) (v := x8_45) (lv' := [(8, .int x8_45), (7, .int x7_44), (9, .int x9_41), (0, .ref adM), (1, .int c1), (2, .int c2), (3, .int c3), (5, .int c5), (6, .int c6)]) C 8 rfl (by rw [ex8_45]; rfl) (by decide) rfl dX6_add_137 ?_
      refine zv_goto (pc := 140) (tgt := 84) C dX6_add_140 (by decide) ?_
      exact zv_lvs [3, 4, 5, 6, 7, 8, 1, 0] rfl (ih x7_44 x8_45 (zset M 19 r_43) hF)
set_option maxHeartbeats 4000000 in
set_option maxRecDepth 100000 in
theorem zc_X6_add (l : Launch) (G : va_G) (cI : ClassId) (adM qM1 qM2 qM3 qM4 qM5 qM6 qM7 qM8 qM12 qM13 qM15 qM16 qM17 qM18 qM19 qM20 qM21 : Nat) (M : zMem) (a1 : Int32) (a2 : Int32) (a3 : Int32) (a4 : Int32) (post : zMem → Prop) (hF : zw_X6_add M a1 a2 a3 a4 post) (sz : Nat) : Met l yX6_add wsX6_add rmX6_add (va_Pc [.ref adM, .int a1, .int a2, .int a3, .int a4] (zv_in G cI (zd_X6_add cI adM qM1 qM2 qM3 qM4 qM5 qM6 qM7 qM8 qM12 qM13 qM15 qM16 qM17 qM18 qM19 qM20 qM21 M) sz)) (va_Qv (fun uz : zMem => post uz) (fun (uz : zMem) t => zv_out G cI (va_A (zd_X6_add cI adM qM1 qM2 qM3 qM4 qM5 qM6 qM7 qM8 qM12 qM13 qM15 qM16 qM17 qM18 qM19 qM20 qM21 M) sz) (zd_X6_add cI adM qM1 qM2 qM3 qM4 qM5 qM6 qM7 qM8 qM12 qM13 qM15 qM16 qM17 qM18 qM19 qM20 qM21 uz) t) (va_A (zd_X6_add cI adM qM1 qM2 qM3 qM4 qM5 qM6 qM7 qM8 qM12 qM13 qM15 qM16 qM17 qM18 qM19 qM20 qM21 M) sz)) 0 0 (va_A (zd_X6_add cI adM qM1 qM2 qM3 qM4 qM5 qM6 qM7 qM8 qM12 qM13 qM15 qM16 qM17 qM18 qM19 qM20 qM21 M) sz) := by
  refine zv_met (cc := cX6_add) (maxL := 13) (ret := none) (lv0 := [(0, .ref adM), (1, .int a1), (2, .int a2), (3, .int a3), (4, .int a4)]) (Qc := fun A => va_Qv (fun uz : zMem => post uz) (fun (uz : zMem) t => zv_out G cI A (zd_X6_add cI adM qM1 qM2 qM3 qM4 qM5 qM6 qM7 qM8 qM12 qM13 qM15 qM16 qM17 qM18 qM19 qM20 qM21 uz) t) A) (by decide) rfl (Nat.le_of_ble_eq_true rfl) rfl ?_ sz
  intro p e s m below meth c A C hr hlk
  clear sz
  refine zv_iload (pc := 0) C 4 rfl dX6_add_0 ?_
  refine zv_if_ne (pc := 2) (tgt := 17) C dX6_add_2 (by decide) (fun c_1 => ?_) (fun c_1 => ?_)
  · replace hF := And.left hF c_1
    refine zv_aload_n (pc := 17) C rfl 0 rfl dX6_add_17 ?_
    refine zv_get (pc := 18) (CC := RX6) (T := TX6) (N := 22) (ci := 5) (v := .ref qM21) C zi_X6_add_X6 0 rfl 21 (by decide) zf_X6_add_62 rfl rfl dX6_add_18 ?_
    refine zv_iload_n (pc := 21) C rfl 2 rfl dX6_add_21 ?_
    obtain ⟨h_2, hF⟩ := hF
    refine zv_iald (pc := 22) (n := 60) (f := (M 21)) C 17 h_2 rfl dX6_add_22 ?_
    obtain ⟨KJ_5, h0KJ_5, hF⟩ := hF
    refine zv_join (α := Int32) (KK := fun uz => KJ_5 uz) (wsJ := fun uz => (zd_X6_add cI adM qM1 qM2 qM3 qM4 qM5 qM6 qM7 qM8 qM12 qM13 qM15 qM16 qM17 qM18 qM19 qM20 qM21 M)) (pcJ := 37) (lvJ := fun uz => [(0, .ref adM), (1, .int a1), (2, .int a2), (3, .int a3), (4, .int a4)]) (stJ := fun uz => [.int uz]) ?_ (fun hKJ_5 => ?_)
    · rintro v_4 hF
      replace hF := h0KJ_5 v_4 hF
      refine zv_istore (pc := 37) (lv' := [(5, .int v_4), (0, .ref adM), (1, .int a1), (2, .int a2), (3, .int a3), (4, .int a4)]) C (by decide) rfl dX6_add_37 ?_
      refine zv_aload_n (pc := 39) C rfl 1 rfl dX6_add_39 ?_
      refine zv_get (pc := 40) (CC := RX6) (T := TX6) (N := 22) (ci := 5) (v := .ref qM20) C zi_X6_add_X6 0 rfl 20 (by decide) zf_X6_add_59 rfl rfl dX6_add_40 ?_
      refine zv_iload_n (pc := 43) C rfl 3 rfl dX6_add_43 ?_
      obtain ⟨h_6, hF⟩ := hF
      refine zv_iald (pc := 44) (n := 60) (f := (M 20)) C 16 h_6 rfl dX6_add_44 ?_
      refine zv_aload_n (pc := 45) C rfl 1 rfl dX6_add_45 ?_
      refine zv_get (pc := 46) (CC := RX6) (T := TX6) (N := 22) (ci := 5) (v := .ref qM20) C zi_X6_add_X6 0 rfl 20 (by decide) zf_X6_add_59 rfl rfl dX6_add_46 ?_
      refine zv_iload_n (pc := 49) C rfl 4 rfl dX6_add_49 ?_
      obtain ⟨h_7, hF⟩ := hF
      refine zv_iald (pc := 50) (n := 60) (f := (M 20)) C 16 h_7 rfl dX6_add_50 ?_
      obtain ⟨KJ_10, h0KJ_10, hF⟩ := hF
      refine zv_join (α := Int32) (KK := fun uz => KJ_10 uz) (wsJ := fun uz => (zd_X6_add cI adM qM1 qM2 qM3 qM4 qM5 qM6 qM7 qM8 qM12 qM13 qM15 qM16 qM17 qM18 qM19 qM20 qM21 M)) (pcJ := 69) (lvJ := fun uz => [(0, .ref adM), (1, .int a1), (2, .int a2), (3, .int a3), (4, .int a4), (5, .int v_4)]) (stJ := fun uz => [.int uz]) ?_ (fun hKJ_10 => ?_)
      · rintro v_9 hF
        replace hF := h0KJ_10 v_9 hF
        refine zv_istore (pc := 69) (lv' := [(6, .int v_9), (0, .ref adM), (1, .int a1), (2, .int a2), (3, .int a3), (4, .int a4), (5, .int v_4)]) C (by decide) rfl dX6_add_69 ?_
        refine zv_iconst (pc := 71) (v := 0) C (by decide) dX6_add_71 ?_
        refine zv_istore (pc := 72) (lv' := [(7, .int (0 : Int32)), (6, .int v_9), (0, .ref adM), (1, .int a1), (2, .int a2), (3, .int a3), (4, .int a4), (5, .int v_4)]) C (by decide) rfl dX6_add_72 ?_
        refine zv_iload (pc := 74) C 7 rfl dX6_add_74 ?_
        refine zv_iload (pc := 76) C 6 rfl dX6_add_76 ?_
        refine zv_icmp_ne (pc := 78) (tgt := 176) C dX6_add_78 (by decide) (fun c_11 => ?_) (fun c_11 => ?_)
        · replace hF := And.left hF c_11
          refine zv_aload_n (pc := 176) C rfl 2 rfl dX6_add_176 ?_
          refine zv_iload_n (pc := 177) C rfl 4 rfl dX6_add_177 ?_
          refine zv_iload_n (pc := 178) C rfl 5 rfl dX6_add_178 ?_
          refine zv_ci0 (pc := 179) (ws' := (fun uz : Unit => (zd_X6_add cI adM qM1 qM2 qM3 qM4 qM5 qM6 qM7 qM8 qM12 qM13 qM15 qM16 qM17 qM18 qM19 qM20 qM21 M))) C (zv_runV (As := [.int a2, .int a3]) (b := adM) (rest := []) (ci := 5) (q0 := 0) C (zc_X6_compareSizes l G cI adM qM1 qM2 qM3 qM4 qM5 qM6 qM7 qM8 qM12 qM13 qM15 qM16 qM17 qM18 qM19 qM20 qM21 M a2 a3 _ hF) (cwV 2 C.2.2.2.2.1 gX6_add_X6_compareSizes rfl rfl rfl zy_X6_compareSizes ⟨Nat.le_of_ble_eq_true rfl, Nat.le_of_ble_eq_true rfl⟩) rfl rfl rfl rfl rfl (Nat.le_of_ble_eq_true rfl) ⟨Nat.zero_le _, Nat.zero_le _⟩ dX6_add_179) [0, 1, 2, 3, 4, 5, 6, 7, 8, 9, 10, 11, 12, 13, 14, 15, 16, 17] [] rfl rfl rfl rfl rfl (fun _ => rfl) (fun _ => rfl) (fun _ => rfl) (fun v_12 uz hF => ?_)
          obtain ⟨KJ_15, h0KJ_15, hF⟩ := hF
          refine zv_join (α := Int32) (KK := fun uz => KJ_15 uz) (wsJ := fun uz => (zd_X6_add cI adM qM1 qM2 qM3 qM4 qM5 qM6 qM7 qM8 qM12 qM13 qM15 qM16 qM17 qM18 qM19 qM20 qM21 M)) (pcJ := 190) (lvJ := fun uz => [(0, .ref adM), (1, .int a1), (2, .int a2), (3, .int a3), (4, .int a4), (5, .int v_4), (6, .int v_9), (7, .int (0 : Int32))]) (stJ := fun uz => [.int uz]) ?_ (fun hKJ_15 => ?_)
          · rintro v_14 hF
            replace hF := h0KJ_15 v_14 hF
            refine zv_istore (pc := 190) (lv' := [(8, .int v_14), (0, .ref adM), (1, .int a1), (2, .int a2), (3, .int a3), (4, .int a4), (5, .int v_4), (6, .int v_9), (7, .int (0 : Int32))]) C (by decide) rfl dX6_add_190 ?_
            refine zv_iload (pc := 192) C 0 rfl dX6_add_192 ?_
            obtain ⟨KJ_18, h0KJ_18, hF⟩ := hF
            refine zv_join (α := Int32) (KK := fun uz => KJ_18 uz) (wsJ := fun uz => (zd_X6_add cI adM qM1 qM2 qM3 qM4 qM5 qM6 qM7 qM8 qM12 qM13 qM15 qM16 qM17 qM18 qM19 qM20 qM21 M)) (pcJ := 202) (lvJ := fun uz => [(0, .ref adM), (1, .int a1), (2, .int a2), (3, .int a3), (4, .int a4), (5, .int v_4), (6, .int v_9), (7, .int (0 : Int32)), (8, .int v_14)]) (stJ := fun uz => [.int uz]) ?_ (fun hKJ_18 => ?_)
            · rintro v_17 hF
              replace hF := h0KJ_18 v_17 hF
              refine zv_istore (pc := 202) (lv' := [(9, .int v_17), (0, .ref adM), (1, .int a1), (2, .int a2), (3, .int a3), (4, .int a4), (5, .int v_4), (6, .int v_9), (7, .int (0 : Int32)), (8, .int v_14)]) C (by decide) rfl dX6_add_202 ?_
              refine zv_iload (pc := 204) C 9 rfl dX6_add_204 ?_
              obtain ⟨KJ_21, h0KJ_21, hF⟩ := hF
              refine zv_join (α := Int32) (KK := fun uz => KJ_21 uz) (wsJ := fun uz => (zd_X6_add cI adM qM1 qM2 qM3 qM4 qM5 qM6 qM7 qM8 qM12 qM13 qM15 qM16 qM17 qM18 qM19 qM20 qM21 M)) (pcJ := 214) (lvJ := fun uz => [(0, .ref adM), (1, .int a1), (4, .int a4), (5, .int v_4), (6, .int v_9), (7, .int (0 : Int32)), (8, .int v_14), (9, .int v_17)]) (stJ := fun uz => [.int uz]) ?_ (fun hKJ_21 => ?_)
              · rintro v_20 hF
                replace hF := h0KJ_21 v_20 hF
                refine zv_istore (pc := 214) (lv' := [(10, .int v_20), (0, .ref adM), (1, .int a1), (4, .int a4), (5, .int v_4), (6, .int v_9), (7, .int (0 : Int32)), (8, .int v_14), (9, .int v_17)]) C (by decide) rfl dX6_add_214 ?_
                refine zv_iconst (pc := 216) (v := 0) C (by decide) dX6_add_216 ?_
                refine zv_istore (pc := 217) (lv' := [(11, .int (0 : Int32)), (10, .int v_20), (0, .ref adM), (1, .int a1), (4, .int a4), (5, .int v_4), (6, .int v_9), (7, .int (0 : Int32)), (8, .int v_14), (9, .int v_17)]) C (by decide) rfl dX6_add_217 ?_
                obtain ⟨kf, hF⟩ := hF
                refine zv_lvs [2, 3, 4, 5, 6, 7, 8, 9, 1, 0] rfl (zl_X6_add_219 adM qM1 qM2 qM3 qM4 qM5 qM6 qM7 qM8 qM12 qM13 qM15 qM16 qM17 qM18 qM19 qM20 qM21 a1 a4 v_4 v_9 v_14 v_17 v_20 _ C ?_ kf (0 : Int32) (0 : Int32) M hF)
                · intro T_30 hF
                  refine zv_aload_n (pc := 280) C rfl 0 rfl dX6_add_280 ?_
                  refine zv_get (pc := 281) (CC := RX6) (T := TX6) (N := 22) (ci := 5) (v := .ref qM21) C zi_X6_add_X6 0 rfl 21 (by decide) zf_X6_add_62 rfl rfl dX6_add_281 ?_
                  refine zv_iload_n (pc := 284) C rfl 1 rfl dX6_add_284 ?_
                  refine zv_iload (pc := 285) C 5 rfl dX6_add_285 ?_
                  refine zv_if_eq (pc := 287) (tgt := 295) C dX6_add_287 (by decide) (fun c_31 => ?_) (fun c_31 => ?_)
                  · replace hF := And.left hF c_31
                    refine zv_iload (pc := 295) C 3 rfl dX6_add_295 ?_
                    obtain ⟨h_32, hF⟩ := hF
                    obtain ⟨r_33, er_33⟩ : ∃ y : zRow, y = (upd (T_30 21) (Int32.toNatClampNeg a1) v_4) := ⟨_, rfl⟩
                    replace hF := hF r_33 er_33
                    refine zv_iast (pc := 297) (n := 60) (f := (T_30 21)) (ws' := (zd_X6_add cI adM qM1 qM2 qM3 qM4 qM5 qM6 qM7 qM8 qM12 qM13 qM15 qM16 qM17 qM18 qM19 qM20 qM21 (zset T_30 21 r_33))) C 17 h_32 rfl (by rw [er_33]; rfl) dX6_add_297 ?_
                    refine zv_aload_n (pc := 298) C rfl 0 rfl dX6_add_298 ?_
                    refine zv_iload_n (pc := 299) C rfl 1 rfl dX6_add_299 ?_
                    refine zv_iload (pc := 300) C 4 rfl dX6_add_300 ?_
                    refine zv_cv0 (pc := 302) (ws' := (fun uz : zMem => (zd_X6_add cI adM qM1 qM2 qM3 qM4 qM5 qM6 qM7 qM8 qM12 qM13 qM15 qM16 qM17 qM18 qM19 qM20 qM21 uz))) C (zv_runV (As := [.int a1, .int v_9]) (b := adM) (rest := []) (ci := 5) (q0 := 0) C (zc_X6_trim l G cI adM qM1 qM2 qM3 qM4 qM5 qM6 qM7 qM8 qM12 qM13 qM15 qM16 qM17 qM18 qM19 qM20 qM21 (zset T_30 21 r_33) a1 v_9 _ hF) (cwV 2 C.2.2.2.2.1 gX6_add_X6_trim rfl rfl rfl zy_X6_trim ⟨Nat.le_of_ble_eq_true rfl, Nat.le_of_ble_eq_true rfl⟩) rfl rfl rfl rfl rfl (Nat.le_of_ble_eq_true rfl) ⟨Nat.zero_le _, Nat.zero_le _⟩ dX6_add_302) [0, 1, 2, 3, 4, 5, 6, 7, 8, 9, 10, 11, 12, 13, 14, 15, 16, 17] [] rfl rfl rfl rfl rfl (fun _ => rfl) (fun _ => rfl) (fun _ => rfl) (fun uz hF => ?_)
                    obtain ⟨T_34, hE⟩ : ∃ z, z = uz := ⟨_, rfl⟩; subst hE
                    exact zv_vret (pc := 305) C hr hlk T_34 hF rfl dX6_add_305
                  · replace hF := And.right hF c_31
                    refine zv_iload (pc := 290) C 2 rfl dX6_add_290 ?_
                    refine zv_goto (pc := 292) (tgt := 297) C dX6_add_292 (by decide) ?_
                    obtain ⟨h_35, hF⟩ := hF
                    obtain ⟨r_36, er_36⟩ : ∃ y : zRow, y = (upd (T_30 21) (Int32.toNatClampNeg a1) a4) := ⟨_, rfl⟩
                    replace hF := hF r_36 er_36
                    refine zv_iast (pc := 297) (n := 60) (f := (T_30 21)) (ws' := (zd_X6_add cI adM qM1 qM2 qM3 qM4 qM5 qM6 qM7 qM8 qM12 qM13 qM15 qM16 qM17 qM18 qM19 qM20 qM21 (zset T_30 21 r_36))) C 17 h_35 rfl (by rw [er_36]; rfl) dX6_add_297 ?_
                    refine zv_aload_n (pc := 298) C rfl 0 rfl dX6_add_298 ?_
                    refine zv_iload_n (pc := 299) C rfl 1 rfl dX6_add_299 ?_
                    refine zv_iload (pc := 300) C 4 rfl dX6_add_300 ?_
                    refine zv_cv0 (pc := 302) (ws' := (fun uz : zMem => (zd_X6_add cI adM qM1 qM2 qM3 qM4 qM5 qM6 qM7 qM8 qM12 qM13 qM15 qM16 qM17 qM18 qM19 qM20 qM21 uz))) C (zv_runV (As := [.int a1, .int v_9]) (b := adM) (rest := []) (ci := 5) (q0 := 0) C (zc_X6_trim l G cI adM qM1 qM2 qM3 qM4 qM5 qM6 qM7 qM8 qM12 qM13 qM15 qM16 qM17 qM18 qM19 qM20 qM21 (zset T_30 21 r_36) a1 v_9 _ hF) (cwV 2 C.2.2.2.2.1 gX6_add_X6_trim rfl rfl rfl zy_X6_trim ⟨Nat.le_of_ble_eq_true rfl, Nat.le_of_ble_eq_true rfl⟩) rfl rfl rfl rfl rfl (Nat.le_of_ble_eq_true rfl) ⟨Nat.zero_le _, Nat.zero_le _⟩ dX6_add_302) [0, 1, 2, 3, 4, 5, 6, 7, 8, 9, 10, 11, 12, 13, 14, 15, 16, 17] [] rfl rfl rfl rfl rfl (fun _ => rfl) (fun _ => rfl) (fun _ => rfl) (fun uz hF => ?_)
                    obtain ⟨T_37, hE⟩ : ∃ z, z = uz := ⟨_, rfl⟩; subst hE
                    exact zv_vret (pc := 305) C hr hlk T_37 hF rfl dX6_add_305
              · skip
                refine zv_if_eq (pc := 206) (tgt := 213) C dX6_add_206 (by decide) (fun c_19 => ?_) (fun c_19 => ?_)
                · replace hF := And.left hF c_19
                  refine zv_iload_n (pc := 213) C rfl 4 rfl dX6_add_213 ?_
                  exact zv_lvs [1, 2, 5, 6, 7, 8, 9, 0] rfl (hKJ_21 a3 hF)
                · replace hF := And.right hF c_19
                  refine zv_iload_n (pc := 209) C rfl 3 rfl dX6_add_209 ?_
                  refine zv_goto (pc := 210) (tgt := 214) C dX6_add_210 (by decide) ?_
                  exact zv_lvs [1, 2, 5, 6, 7, 8, 9, 0] rfl (hKJ_21 a2 hF)
            · skip
              refine zv_if_eq (pc := 194) (tgt := 201) C dX6_add_194 (by decide) (fun c_16 => ?_) (fun c_16 => ?_)
              · replace hF := And.left hF c_16
                refine zv_iload_n (pc := 201) C rfl 3 rfl dX6_add_201 ?_
                exact zv_lvs [1, 2, 3, 4, 5, 6, 7, 8, 0] rfl (hKJ_18 a2 hF)
              · replace hF := And.right hF c_16
                refine zv_iload_n (pc := 197) C rfl 4 rfl dX6_add_197 ?_
                refine zv_goto (pc := 198) (tgt := 202) C dX6_add_198 (by decide) ?_
                exact zv_lvs [1, 2, 3, 4, 5, 6, 7, 8, 0] rfl (hKJ_18 a3 hF)
          · skip
            refine zv_if_ge (pc := 182) (tgt := 189) C dX6_add_182 (by decide) (fun c_13 => ?_) (fun c_13 => ?_)
            · replace hF := And.left hF c_13
              refine zv_iconst (pc := 189) (v := 0) C (by decide) dX6_add_189 ?_
              exact zv_lvs [2, 3, 4, 5, 6, 7, 1, 0] rfl (hKJ_15 (0 : Int32) hF)
            · replace hF := And.right hF c_13
              refine zv_iconst (pc := 185) (v := 1) C (by decide) dX6_add_185 ?_
              refine zv_goto (pc := 186) (tgt := 190) C dX6_add_186 (by decide) ?_
              exact zv_lvs [2, 3, 4, 5, 6, 7, 1, 0] rfl (hKJ_15 (1 : Int32) hF)
        · replace hF := And.right hF c_11
          refine zv_iconst (pc := 81) (v := 0) C (by decide) dX6_add_81 ?_
          refine zv_istore (pc := 82) (lv' := [(8, .int (0 : Int32)), (7, .int (0 : Int32)), (6, .int v_9), (0, .ref adM), (1, .int a1), (2, .int a2), (3, .int a3), (4, .int a4), (5, .int v_4)]) C (by decide) rfl dX6_add_82 ?_
          obtain ⟨kf, hF⟩ := hF
          refine zv_lvs [3, 4, 5, 6, 8, 2, 1, 0] rfl (zl_X6_add_84 adM qM1 qM2 qM3 qM4 qM5 qM6 qM7 qM8 qM12 qM13 qM15 qM16 qM17 qM18 qM19 qM20 qM21 a1 a2 a3 v_4 v_9 _ C ?_ kf (0 : Int32) (0 : Int32) M hF)
          · intro x7_46 T_47 hF
            refine zv_aload_n (pc := 143) C rfl 0 rfl dX6_add_143 ?_
            refine zv_get (pc := 144) (CC := RX6) (T := TX6) (N := 22) (ci := 5) (v := .ref qM19) C zi_X6_add_X6 0 rfl 19 (by decide) zf_X6_add_56 rfl rfl dX6_add_144 ?_
            refine zv_sipush (pc := 147) (v := 200) C (by decide) dX6_add_147 ?_
            refine zv_iload_n (pc := 150) C rfl 1 rfl dX6_add_150 ?_
            refine zv_imul (pc := 151) C  dX6_add_151 ?_
            refine zv_iload (pc := 152) C 3 rfl dX6_add_152 ?_
            refine zv_iadd (pc := 154) C  dX6_add_154 ?_
            refine zv_iload (pc := 155) C 4 rfl dX6_add_155 ?_
            obtain ⟨h_48, hF⟩ := hF
            obtain ⟨r_49, er_49⟩ : ∃ y : zRow, y = (upd (T_47 19) (Int32.toNatClampNeg (((200 : Int32) * a1) + v_9)) x7_46) := ⟨_, rfl⟩
            replace hF := hF r_49 er_49
            refine zv_iast (pc := 157) (n := 12000) (f := (T_47 19)) (ws' := (zd_X6_add cI adM qM1 qM2 qM3 qM4 qM5 qM6 qM7 qM8 qM12 qM13 qM15 qM16 qM17 qM18 qM19 qM20 qM21 (zset T_47 19 r_49))) C 15 h_48 rfl (by rw [er_49]; rfl) dX6_add_157 ?_
            refine zv_aload_n (pc := 158) C rfl 0 rfl dX6_add_158 ?_
            refine zv_get (pc := 159) (CC := RX6) (T := TX6) (N := 22) (ci := 5) (v := .ref qM21) C zi_X6_add_X6 0 rfl 21 (by decide) zf_X6_add_62 rfl rfl dX6_add_159 ?_
            refine zv_iload_n (pc := 162) C rfl 1 rfl dX6_add_162 ?_
            refine zv_iload (pc := 163) C 2 rfl dX6_add_163 ?_
            obtain ⟨h_50, hF⟩ := hF
            obtain ⟨r_51, er_51⟩ : ∃ y : zRow, y = (upd (T_47 21) (Int32.toNatClampNeg a1) v_4) := ⟨_, rfl⟩
            replace hF := hF r_51 er_51
            refine zv_iast (pc := 165) (n := 60) (f := (T_47 21)) (ws' := (zd_X6_add cI adM qM1 qM2 qM3 qM4 qM5 qM6 qM7 qM8 qM12 qM13 qM15 qM16 qM17 qM18 qM19 qM20 qM21 (zset (zset T_47 19 r_49) 21 r_51))) C 17 h_50 rfl (by rw [er_51]; rfl) dX6_add_165 ?_
            refine zv_aload_n (pc := 166) C rfl 0 rfl dX6_add_166 ?_
            refine zv_iload_n (pc := 167) C rfl 1 rfl dX6_add_167 ?_
            refine zv_iload (pc := 168) C 3 rfl dX6_add_168 ?_
            refine zv_iconst (pc := 170) (v := 1) C (by decide) dX6_add_170 ?_
            refine zv_iadd (pc := 171) C  dX6_add_171 ?_
            refine zv_cv0 (pc := 172) (ws' := (fun uz : zMem => (zd_X6_add cI adM qM1 qM2 qM3 qM4 qM5 qM6 qM7 qM8 qM12 qM13 qM15 qM16 qM17 qM18 qM19 qM20 qM21 uz))) C (zv_runV (As := [.int a1, .int (v_9 + (1 : Int32))]) (b := adM) (rest := []) (ci := 5) (q0 := 0) C (zc_X6_trim l G cI adM qM1 qM2 qM3 qM4 qM5 qM6 qM7 qM8 qM12 qM13 qM15 qM16 qM17 qM18 qM19 qM20 qM21 (zset (zset T_47 19 r_49) 21 r_51) a1 (v_9 + (1 : Int32)) _ hF) (cwV 2 C.2.2.2.2.1 gX6_add_X6_trim rfl rfl rfl zy_X6_trim ⟨Nat.le_of_ble_eq_true rfl, Nat.le_of_ble_eq_true rfl⟩) rfl rfl rfl rfl rfl (Nat.le_of_ble_eq_true rfl) ⟨Nat.zero_le _, Nat.zero_le _⟩ dX6_add_172) [0, 1, 2, 3, 4, 5, 6, 7, 8, 9, 10, 11, 12, 13, 14, 15, 16, 17] [] rfl rfl rfl rfl rfl (fun _ => rfl) (fun _ => rfl) (fun _ => rfl) (fun uz hF => ?_)
            obtain ⟨T_52, hE⟩ : ∃ z, z = uz := ⟨_, rfl⟩; subst hE
            exact zv_vret (pc := 175) C hr hlk T_52 hF rfl dX6_add_175
      · skip
        refine zv_icmp_le (pc := 51) (tgt := 63) C dX6_add_51 (by decide) (fun c_8 => ?_) (fun c_8 => ?_)
        · replace hF := And.left hF c_8
          refine zv_aload_n (pc := 63) C rfl 1 rfl dX6_add_63 ?_
          refine zv_get (pc := 64) (CC := RX6) (T := TX6) (N := 22) (ci := 5) (v := .ref qM20) C zi_X6_add_X6 0 rfl 20 (by decide) zf_X6_add_59 rfl rfl dX6_add_64 ?_
          refine zv_iload_n (pc := 67) C rfl 4 rfl dX6_add_67 ?_
          obtain ⟨h_53, hF⟩ := hF
          refine zv_iald (pc := 68) (n := 60) (f := (M 20)) C 16 h_53 rfl dX6_add_68 ?_
          exact zv_lvs [1, 2, 3, 4, 5, 0] rfl (hKJ_10 ((M 20) (Int32.toNatClampNeg a3)) hF)
        · replace hF := And.right hF c_8
          refine zv_aload_n (pc := 54) C rfl 1 rfl dX6_add_54 ?_
          refine zv_get (pc := 55) (CC := RX6) (T := TX6) (N := 22) (ci := 5) (v := .ref qM20) C zi_X6_add_X6 0 rfl 20 (by decide) zf_X6_add_59 rfl rfl dX6_add_55 ?_
          refine zv_iload_n (pc := 58) C rfl 3 rfl dX6_add_58 ?_
          obtain ⟨h_54, hF⟩ := hF
          refine zv_iald (pc := 59) (n := 60) (f := (M 20)) C 16 h_54 rfl dX6_add_59 ?_
          refine zv_goto (pc := 60) (tgt := 69) C dX6_add_60 (by decide) ?_
          exact zv_lvs [1, 2, 3, 4, 5, 0] rfl (hKJ_10 ((M 20) (Int32.toNatClampNeg a2)) hF)
    · skip
      refine zv_if_ne (pc := 23) (tgt := 31) C dX6_add_23 (by decide) (fun c_3 => ?_) (fun c_3 => ?_)
      · replace hF := And.left hF c_3
        refine zv_aload_n (pc := 31) C rfl 0 rfl dX6_add_31 ?_
        refine zv_get (pc := 32) (CC := RX6) (T := TX6) (N := 22) (ci := 5) (v := .ref qM21) C zi_X6_add_X6 0 rfl 21 (by decide) zf_X6_add_62 rfl rfl dX6_add_32 ?_
        refine zv_iload_n (pc := 35) C rfl 2 rfl dX6_add_35 ?_
        obtain ⟨h_55, hF⟩ := hF
        refine zv_iald (pc := 36) (n := 60) (f := (M 21)) C 17 h_55 rfl dX6_add_36 ?_
        exact zv_lvs [0, 1, 2, 3, 4] rfl (hKJ_5 ((M 21) (Int32.toNatClampNeg a2)) hF)
      · replace hF := And.right hF c_3
        refine zv_iload (pc := 26) C 4 rfl dX6_add_26 ?_
        refine zv_goto (pc := 28) (tgt := 37) C dX6_add_28 (by decide) ?_
        exact zv_lvs [0, 1, 2, 3, 4] rfl (hKJ_5 a4 hF)
  · replace hF := And.right hF c_1
    refine zv_iload_n (pc := 5) C rfl 1 rfl dX6_add_5 ?_
    refine zv_iload_n (pc := 6) C rfl 2 rfl dX6_add_6 ?_
    refine zv_icmp_eq (pc := 7) (tgt := 16) C dX6_add_7 (by decide) (fun c_56 => ?_) (fun c_56 => ?_)
    · replace hF := And.left hF c_56
      exact zv_vret (pc := 16) C hr hlk M hF rfl dX6_add_16
    · replace hF := And.right hF c_56
      refine zv_aload_n (pc := 10) C rfl 0 rfl dX6_add_10 ?_
      refine zv_iload_n (pc := 11) C rfl 1 rfl dX6_add_11 ?_
      refine zv_iload_n (pc := 12) C rfl 2 rfl dX6_add_12 ?_
      refine zv_cv0 (pc := 13) (ws' := (fun uz : zMem => (zd_X6_add cI adM qM1 qM2 qM3 qM4 qM5 qM6 qM7 qM8 qM12 qM13 qM15 qM16 qM17 qM18 qM19 qM20 qM21 uz))) C (zv_runV (As := [.int a1, .int a2]) (b := adM) (rest := []) (ci := 5) (q0 := 0) C (zc_X6_copy l G cI adM qM1 qM2 qM3 qM4 qM5 qM6 qM7 qM8 qM12 qM13 qM15 qM16 qM17 qM18 qM19 qM20 qM21 M a1 a2 _ hF) (cwV 2 C.2.2.2.2.1 gX6_add_X6_copy rfl rfl rfl zy_X6_copy ⟨Nat.le_of_ble_eq_true rfl, Nat.le_of_ble_eq_true rfl⟩) rfl rfl rfl rfl rfl (Nat.le_of_ble_eq_true rfl) ⟨Nat.zero_le _, Nat.zero_le _⟩ dX6_add_13) [0, 1, 2, 3, 4, 5, 6, 7, 8, 9, 10, 11, 12, 13, 14, 15, 16, 17] [] rfl rfl rfl rfl rfl (fun _ => rfl) (fun _ => rfl) (fun _ => rfl) (fun uz hF => ?_)
      obtain ⟨T_57, hE⟩ : ∃ z, z = uz := ⟨_, rfl⟩; subst hE
      exact zv_vret (pc := 16) C hr hlk T_57 hF rfl dX6_add_16
theorem zf_X6_plus_62 : Cond.fieldLink RX6 62 "GlassStackModel" "sign" "[I" ∈ wsX6_plus := (List.mem_of_getElem? (i := 1) rfl)
theorem zi_X6_plus_X6 : ∀ w ∈ wsX60, w ∈ wsX6_plus := fun w h => List.mem_cons_of_mem _ (List.mem_append_right _ h)
theorem zy_X6_plus : yX6_plus.cls = RX6 ∧ yX6_plus.cls ≠ "java/lang/invoke/MethodHandle" ∧ yX6_plus.cls ≠ "java/lang/invoke/VarHandle" ∧ (parseMethodDescriptor yX6_plus.desc).map (fun d => d.parameters.length) = some 3 := by decide +kernel
set_option maxHeartbeats 4000000 in
set_option maxRecDepth 100000 in
theorem zc_X6_plus (l : Launch) (G : va_G) (cI : ClassId) (adM qM1 qM2 qM3 qM4 qM5 qM6 qM7 qM8 qM12 qM13 qM15 qM16 qM17 qM18 qM19 qM20 qM21 : Nat) (M : zMem) (a1 : Int32) (a2 : Int32) (a3 : Int32) (post : zMem → Prop) (hF : zw_X6_plus M a1 a2 a3 post) (sz : Nat) : Met l yX6_plus wsX6_plus rmX6_plus (va_Pc [.ref adM, .int a1, .int a2, .int a3] (zv_in G cI (zd_X6_plus cI adM qM1 qM2 qM3 qM4 qM5 qM6 qM7 qM8 qM12 qM13 qM15 qM16 qM17 qM18 qM19 qM20 qM21 M) sz)) (va_Qv (fun uz : zMem => post uz) (fun (uz : zMem) t => zv_out G cI (va_A (zd_X6_plus cI adM qM1 qM2 qM3 qM4 qM5 qM6 qM7 qM8 qM12 qM13 qM15 qM16 qM17 qM18 qM19 qM20 qM21 M) sz) (zd_X6_plus cI adM qM1 qM2 qM3 qM4 qM5 qM6 qM7 qM8 qM12 qM13 qM15 qM16 qM17 qM18 qM19 qM20 qM21 uz) t) (va_A (zd_X6_plus cI adM qM1 qM2 qM3 qM4 qM5 qM6 qM7 qM8 qM12 qM13 qM15 qM16 qM17 qM18 qM19 qM20 qM21 M) sz)) 0 0 (va_A (zd_X6_plus cI adM qM1 qM2 qM3 qM4 qM5 qM6 qM7 qM8 qM12 qM13 qM15 qM16 qM17 qM18 qM19 qM20 qM21 M) sz) := by
  refine zv_met (cc := cX6_plus) (maxL := 4) (ret := none) (lv0 := [(0, .ref adM), (1, .int a1), (2, .int a2), (3, .int a3)]) (Qc := fun A => va_Qv (fun uz : zMem => post uz) (fun (uz : zMem) t => zv_out G cI A (zd_X6_plus cI adM qM1 qM2 qM3 qM4 qM5 qM6 qM7 qM8 qM12 qM13 qM15 qM16 qM17 qM18 qM19 qM20 qM21 uz) t) A) (by decide) rfl (Nat.le_of_ble_eq_true rfl) rfl ?_ sz
  intro p e s m below meth c A C hr hlk
  clear sz
  refine zv_aload_n (pc := 0) C rfl 0 rfl dX6_plus_0 ?_
  refine zv_iload_n (pc := 1) C rfl 1 rfl dX6_plus_1 ?_
  refine zv_iload_n (pc := 2) C rfl 2 rfl dX6_plus_2 ?_
  refine zv_iload_n (pc := 3) C rfl 3 rfl dX6_plus_3 ?_
  refine zv_aload_n (pc := 4) C rfl 0 rfl dX6_plus_4 ?_
  refine zv_get (pc := 5) (CC := RX6) (T := TX6) (N := 22) (ci := 5) (v := .ref qM21) C zi_X6_plus_X6 0 rfl 21 (by decide) zf_X6_plus_62 rfl rfl dX6_plus_5 ?_
  refine zv_iload_n (pc := 8) C rfl 3 rfl dX6_plus_8 ?_
  obtain ⟨h_1, hF⟩ := hF
  refine zv_iald (pc := 9) (n := 60) (f := (M 21)) C 17 h_1 rfl dX6_plus_9 ?_
  refine zv_cv0 (pc := 10) (ws' := (fun uz : zMem => (zd_X6_plus cI adM qM1 qM2 qM3 qM4 qM5 qM6 qM7 qM8 qM12 qM13 qM15 qM16 qM17 qM18 qM19 qM20 qM21 uz))) C (zv_runV (As := [.int a1, .int a2, .int a3, .int ((M 21) (Int32.toNatClampNeg a3))]) (b := adM) (rest := []) (ci := 5) (q0 := 0) C (zc_X6_add l G cI adM qM1 qM2 qM3 qM4 qM5 qM6 qM7 qM8 qM12 qM13 qM15 qM16 qM17 qM18 qM19 qM20 qM21 M a1 a2 a3 ((M 21) (Int32.toNatClampNeg a3)) _ hF) (cwV 4 C.2.2.2.2.1 gX6_plus_X6_add rfl rfl rfl zy_X6_add ⟨Nat.le_of_ble_eq_true rfl, Nat.le_of_ble_eq_true rfl⟩) rfl rfl rfl rfl rfl (Nat.le_of_ble_eq_true rfl) ⟨Nat.zero_le _, Nat.zero_le _⟩ dX6_plus_10) [0, 1, 2, 3, 4, 5, 6, 7, 8, 9, 10, 11, 12, 13, 14, 15, 16, 17] [] rfl rfl rfl rfl rfl (fun _ => rfl) (fun _ => rfl) (fun _ => rfl) (fun uz hF => ?_)
  obtain ⟨T_2, hE⟩ : ∃ z, z = uz := ⟨_, rfl⟩; subst hE
  exact zv_vret (pc := 13) C hr hlk T_2 hF rfl dX6_plus_13
theorem zf_X6_minus_62 : Cond.fieldLink RX6 62 "GlassStackModel" "sign" "[I" ∈ wsX6_minus := (List.mem_of_getElem? (i := 1) rfl)
theorem zi_X6_minus_X6 : ∀ w ∈ wsX60, w ∈ wsX6_minus := fun w h => List.mem_cons_of_mem _ (List.mem_append_right _ h)
theorem zy_X6_minus : yX6_minus.cls = RX6 ∧ yX6_minus.cls ≠ "java/lang/invoke/MethodHandle" ∧ yX6_minus.cls ≠ "java/lang/invoke/VarHandle" ∧ (parseMethodDescriptor yX6_minus.desc).map (fun d => d.parameters.length) = some 3 := by decide +kernel
set_option maxHeartbeats 4000000 in
set_option maxRecDepth 100000 in
theorem zc_X6_minus (l : Launch) (G : va_G) (cI : ClassId) (adM qM1 qM2 qM3 qM4 qM5 qM6 qM7 qM8 qM12 qM13 qM15 qM16 qM17 qM18 qM19 qM20 qM21 : Nat) (M : zMem) (a1 : Int32) (a2 : Int32) (a3 : Int32) (post : zMem → Prop) (hF : zw_X6_minus M a1 a2 a3 post) (sz : Nat) : Met l yX6_minus wsX6_minus rmX6_minus (va_Pc [.ref adM, .int a1, .int a2, .int a3] (zv_in G cI (zd_X6_minus cI adM qM1 qM2 qM3 qM4 qM5 qM6 qM7 qM8 qM12 qM13 qM15 qM16 qM17 qM18 qM19 qM20 qM21 M) sz)) (va_Qv (fun uz : zMem => post uz) (fun (uz : zMem) t => zv_out G cI (va_A (zd_X6_minus cI adM qM1 qM2 qM3 qM4 qM5 qM6 qM7 qM8 qM12 qM13 qM15 qM16 qM17 qM18 qM19 qM20 qM21 M) sz) (zd_X6_minus cI adM qM1 qM2 qM3 qM4 qM5 qM6 qM7 qM8 qM12 qM13 qM15 qM16 qM17 qM18 qM19 qM20 qM21 uz) t) (va_A (zd_X6_minus cI adM qM1 qM2 qM3 qM4 qM5 qM6 qM7 qM8 qM12 qM13 qM15 qM16 qM17 qM18 qM19 qM20 qM21 M) sz)) 0 0 (va_A (zd_X6_minus cI adM qM1 qM2 qM3 qM4 qM5 qM6 qM7 qM8 qM12 qM13 qM15 qM16 qM17 qM18 qM19 qM20 qM21 M) sz) := by
  refine zv_met (cc := cX6_minus) (maxL := 4) (ret := none) (lv0 := [(0, .ref adM), (1, .int a1), (2, .int a2), (3, .int a3)]) (Qc := fun A => va_Qv (fun uz : zMem => post uz) (fun (uz : zMem) t => zv_out G cI A (zd_X6_minus cI adM qM1 qM2 qM3 qM4 qM5 qM6 qM7 qM8 qM12 qM13 qM15 qM16 qM17 qM18 qM19 qM20 qM21 uz) t) A) (by decide) rfl (Nat.le_of_ble_eq_true rfl) rfl ?_ sz
  intro p e s m below meth c A C hr hlk
  clear sz
  refine zv_aload_n (pc := 0) C rfl 0 rfl dX6_minus_0 ?_
  refine zv_iload_n (pc := 1) C rfl 1 rfl dX6_minus_1 ?_
  refine zv_iload_n (pc := 2) C rfl 2 rfl dX6_minus_2 ?_
  refine zv_iload_n (pc := 3) C rfl 3 rfl dX6_minus_3 ?_
  refine zv_aload_n (pc := 4) C rfl 0 rfl dX6_minus_4 ?_
  refine zv_get (pc := 5) (CC := RX6) (T := TX6) (N := 22) (ci := 5) (v := .ref qM21) C zi_X6_minus_X6 0 rfl 21 (by decide) zf_X6_minus_62 rfl rfl dX6_minus_5 ?_
  refine zv_iload_n (pc := 8) C rfl 3 rfl dX6_minus_8 ?_
  obtain ⟨h_1, hF⟩ := hF
  refine zv_iald (pc := 9) (n := 60) (f := (M 21)) C 17 h_1 rfl dX6_minus_9 ?_
  refine zv_ineg (pc := 10) C  dX6_minus_10 ?_
  refine zv_cv0 (pc := 11) (ws' := (fun uz : zMem => (zd_X6_minus cI adM qM1 qM2 qM3 qM4 qM5 qM6 qM7 qM8 qM12 qM13 qM15 qM16 qM17 qM18 qM19 qM20 qM21 uz))) C (zv_runV (As := [.int a1, .int a2, .int a3, .int (-((M 21) (Int32.toNatClampNeg a3)))]) (b := adM) (rest := []) (ci := 5) (q0 := 0) C (zc_X6_add l G cI adM qM1 qM2 qM3 qM4 qM5 qM6 qM7 qM8 qM12 qM13 qM15 qM16 qM17 qM18 qM19 qM20 qM21 M a1 a2 a3 (-((M 21) (Int32.toNatClampNeg a3))) _ hF) (cwV 4 C.2.2.2.2.1 gX6_minus_X6_add rfl rfl rfl zy_X6_add ⟨Nat.le_of_ble_eq_true rfl, Nat.le_of_ble_eq_true rfl⟩) rfl rfl rfl rfl rfl (Nat.le_of_ble_eq_true rfl) ⟨Nat.zero_le _, Nat.zero_le _⟩ dX6_minus_11) [0, 1, 2, 3, 4, 5, 6, 7, 8, 9, 10, 11, 12, 13, 14, 15, 16, 17] [] rfl rfl rfl rfl rfl (fun _ => rfl) (fun _ => rfl) (fun _ => rfl) (fun uz hF => ?_)
  obtain ⟨T_2, hE⟩ : ∃ z, z = uz := ⟨_, rfl⟩; subst hE
  exact zv_vret (pc := 14) C hr hlk T_2 hF rfl dX6_minus_14
theorem zf_X6_times_56 : Cond.fieldLink RX6 56 "GlassStackModel" "limb" "[I" ∈ wsX6_times := (List.mem_of_getElem? (i := 2) rfl)
theorem zf_X6_times_59 : Cond.fieldLink RX6 59 "GlassStackModel" "size" "[I" ∈ wsX6_times := (List.mem_of_getElem? (i := 1) rfl)
theorem zf_X6_times_62 : Cond.fieldLink RX6 62 "GlassStackModel" "sign" "[I" ∈ wsX6_times := (List.mem_of_getElem? (i := 4) rfl)
theorem zi_X6_times_X6 : ∀ w ∈ wsX60, w ∈ wsX6_times := fun w h => List.mem_cons_of_mem _ (List.mem_append_right _ h)
theorem zy_X6_times : yX6_times.cls = RX6 ∧ yX6_times.cls ≠ "java/lang/invoke/MethodHandle" ∧ yX6_times.cls ≠ "java/lang/invoke/VarHandle" ∧ (parseMethodDescriptor yX6_times.desc).map (fun d => d.parameters.length) = some 3 := by decide +kernel
set_option maxHeartbeats 4000000 in
set_option maxRecDepth 100000 in
theorem zl_X6_times_18 {p : Program} {l : Launch} {e : Env} {s : State} {m : MethodId} {args : Array Value} {below : List Frame} {meth : Method} {c : Code} {G : va_G} {cI : ClassId} {A : Nat → Prop} {Q : State → Prop} (adM qM1 qM2 qM3 qM4 qM5 qM6 qM7 qM8 qM12 qM13 qM15 qM16 qM17 qM18 qM19 qM20 qM21 : Nat) (c1 : Int32) (c2 : Int32) (c3 : Int32) (c4 : Int32) (K45 : zMem → Prop) (C : zv_C p s m args c cX6_times 11 RX6 wsX6_times G cI A) (hK45 : ∀ (M : zMem), K45 M → zv_V p l e (headSpec wsX6_times rmX6_times).room s m args below meth c Q G A 11 0 0 (zd_X6_times cI adM qM1 qM2 qM3 qM4 qM5 qM6 qM7 qM8 qM12 qM13 qM15 qM16 qM17 qM18 qM19 qM20 qM21 M) 45 [(0, .ref adM), (1, .int c1), (2, .int c2), (3, .int c3), (4, .int c4)] []) : ∀ (k : Nat) (p5 : Int32) (M : zMem), zw_X6_times_18 c1 c2 c3 c4 K45 k p5 M → zv_V p l e (headSpec wsX6_times rmX6_times).room s m args below meth c Q G A 11 0 0 (zd_X6_times cI adM qM1 qM2 qM3 qM4 qM5 qM6 qM7 qM8 qM12 qM13 qM15 qM16 qM17 qM18 qM19 qM20 qM21 M) 18 [(0, .ref adM), (1, .int c1), (2, .int c2), (3, .int c3), (4, .int c4), (5, .int p5)] [] := by
  intro k
  induction k with
  | zero => intro p5 M hF; exact (show False from hF).elim
  | succ k ih =>
    intro p5 M hF
    refine zv_iload (pc := 18) C 5 rfl dX6_times_18 ?_
    refine zv_iload (pc := 20) C 4 rfl dX6_times_20 ?_
    refine zv_icmp_ge (pc := 22) (tgt := 45) C dX6_times_22 (by decide) (fun c_4 => ?_) (fun c_4 => ?_)
    · replace hF := And.left hF c_4
      exact zv_lvs [0, 1, 2, 3, 4] rfl (hK45 M hF)
    · replace hF := And.right hF c_4
      refine zv_aload_n (pc := 25) C rfl 0 rfl dX6_times_25 ?_
      refine zv_get (pc := 26) (CC := RX6) (T := TX6) (N := 22) (ci := 5) (v := .ref qM19) C zi_X6_times_X6 0 rfl 19 (by decide) zf_X6_times_56 rfl rfl dX6_times_26 ?_
      refine zv_sipush (pc := 29) (v := 200) C (by decide) dX6_times_29 ?_
      refine zv_iload_n (pc := 32) C rfl 1 rfl dX6_times_32 ?_
      refine zv_imul (pc := 33) C  dX6_times_33 ?_
      refine zv_iload (pc := 34) C 5 rfl dX6_times_34 ?_
      refine zv_iadd (pc := 36) C  dX6_times_36 ?_
      refine zv_iconst (pc := 37) (v := 0) C (by decide) dX6_times_37 ?_
      obtain ⟨h_5, hF⟩ := hF
      obtain ⟨r_6, er_6⟩ : ∃ y : zRow, y = (upd (M 19) (Int32.toNatClampNeg (((200 : Int32) * c1) + p5)) (0 : Int32)) := ⟨_, rfl⟩
      replace hF := hF r_6 er_6
      refine zv_iast (pc := 38) (n := 12000) (f := (M 19)) (ws' := (zd_X6_times cI adM qM1 qM2 qM3 qM4 qM5 qM6 qM7 qM8 qM12 qM13 qM15 qM16 qM17 qM18 qM19 qM20 qM21 (zset M 19 r_6))) C 15 h_5 rfl (by rw [er_6]; rfl) dX6_times_38 ?_
      obtain ⟨x5_7, ex5_7⟩ : ∃ y : Int32, y = p5 + (1 : Int32) := ⟨_, rfl⟩
      replace hF := hF x5_7 ex5_7
      refine zv_iinc (pc := 39) (v := x5_7) (lv' := [(5, .int x5_7), (0, .ref adM), (1, .int c1), (2, .int c2), (3, .int c3), (4, .int c4)]) C 5 rfl (by rw [ex5_7]; rfl) (by decide) rfl dX6_times_39 ?_
      refine zv_goto (pc := 42) (tgt := 18) C dX6_times_42 (by decide) ?_
      exact zv_lvs [1, 2, 3, 4, 5, 0] rfl (ih x5_7 (zset M 19 r_6) hF)
set_option maxHeartbeats 4000000 in
set_option maxRecDepth 100000 in
theorem zl_X6_times_65 {p : Program} {l : Launch} {e : Env} {s : State} {m : MethodId} {args : Array Value} {below : List Frame} {meth : Method} {c : Code} {G : va_G} {cI : ClassId} {A : Nat → Prop} {Q : State → Prop} (adM qM1 qM2 qM3 qM4 qM5 qM6 qM7 qM8 qM12 qM13 qM15 qM16 qM17 qM18 qM19 qM20 qM21 : Nat) (c1 : Int32) (c2 : Int32) (c3 : Int32) (c4 : Int32) (c5 : Int32) (K152 : Int64 → zMem → Prop) (C : zv_C p s m args c cX6_times 11 RX6 wsX6_times G cI A) (hK152 : ∀ (p6 : Int64) (M : zMem), K152 p6 M → zv_V p l e (headSpec wsX6_times rmX6_times).room s m args below meth c Q G A 11 0 0 (zd_X6_times cI adM qM1 qM2 qM3 qM4 qM5 qM6 qM7 qM8 qM12 qM13 qM15 qM16 qM17 qM18 qM19 qM20 qM21 M) 152 [(0, .ref adM), (1, .int c1), (2, .int c2), (3, .int c3), (4, .int c4), (5, .int c5), (6, .long p6)] []) : ∀ (k : Nat) (p6 : Int64) (p8 : Int32) (M : zMem), zw_X6_times_65 c1 c2 c3 c4 c5 K152 k p6 p8 M → zv_V p l e (headSpec wsX6_times rmX6_times).room s m args below meth c Q G A 11 0 0 (zd_X6_times cI adM qM1 qM2 qM3 qM4 qM5 qM6 qM7 qM8 qM12 qM13 qM15 qM16 qM17 qM18 qM19 qM20 qM21 M) 65 [(0, .ref adM), (1, .int c1), (2, .int c2), (3, .int c3), (4, .int c4), (5, .int c5), (6, .long p6), (8, .int p8)] [] := by
  intro k
  induction k with
  | zero => intro p6 p8 M hF; exact (show False from hF).elim
  | succ k ih =>
    intro p6 p8 M hF
    refine zv_iload (pc := 65) C 7 rfl dX6_times_65 ?_
    refine zv_aload_n (pc := 67) C rfl 0 rfl dX6_times_67 ?_
    refine zv_get (pc := 68) (CC := RX6) (T := TX6) (N := 22) (ci := 5) (v := .ref qM20) C zi_X6_times_X6 0 rfl 20 (by decide) zf_X6_times_59 rfl rfl dX6_times_68 ?_
    refine zv_iload_n (pc := 71) C rfl 3 rfl dX6_times_71 ?_
    obtain ⟨h_11, hF⟩ := hF
    refine zv_iald (pc := 72) (n := 60) (f := (M 20)) C 16 h_11 rfl dX6_times_72 ?_
    refine zv_icmp_ge (pc := 73) (tgt := 152) C dX6_times_73 (by decide) (fun c_12 => ?_) (fun c_12 => ?_)
    · replace hF := And.left hF c_12
      exact zv_lvs [0, 1, 2, 3, 4, 5, 6] rfl (hK152 p6 M hF)
    · replace hF := And.right hF c_12
      refine zv_aload_n (pc := 76) C rfl 0 rfl dX6_times_76 ?_
      refine zv_iload_n (pc := 77) C rfl 2 rfl dX6_times_77 ?_
      refine zv_iload (pc := 78) C 5 rfl dX6_times_78 ?_
      refine zv_ci0 (pc := 80) (ws' := (fun uz : Unit => (zd_X6_times cI adM qM1 qM2 qM3 qM4 qM5 qM6 qM7 qM8 qM12 qM13 qM15 qM16 qM17 qM18 qM19 qM20 qM21 M))) C (zv_runV (As := [.int c2, .int c5]) (b := adM) (rest := []) (ci := 5) (q0 := 0) C (zc_X6_at l G cI adM qM1 qM2 qM3 qM4 qM5 qM6 qM7 qM8 qM12 qM13 qM15 qM16 qM17 qM18 qM19 qM20 qM21 M c2 c5 _ hF) (cwV 2 C.2.2.2.2.1 gX6_times_X6_at rfl rfl rfl zy_X6_at ⟨Nat.le_of_ble_eq_true rfl, Nat.le_of_ble_eq_true rfl⟩) rfl rfl rfl rfl rfl (Nat.le_of_ble_eq_true rfl) ⟨Nat.zero_le _, Nat.zero_le _⟩ dX6_times_80) [0, 1, 2, 3, 4, 5, 6, 7, 8, 9, 10, 11, 12, 13, 14, 15, 16, 17] [] rfl rfl rfl rfl rfl (fun _ => rfl) (fun _ => rfl) (fun _ => rfl) (fun v_13 uz hF => ?_)
      refine zv_i2l (pc := 83) C  dX6_times_83 ?_
      refine zv_aload_n (pc := 84) C rfl 0 rfl dX6_times_84 ?_
      refine zv_iload_n (pc := 85) C rfl 3 rfl dX6_times_85 ?_
      refine zv_iload (pc := 86) C 7 rfl dX6_times_86 ?_
      refine zv_ci0 (pc := 88) (ws' := (fun uz : Unit => (zd_X6_times cI adM qM1 qM2 qM3 qM4 qM5 qM6 qM7 qM8 qM12 qM13 qM15 qM16 qM17 qM18 qM19 qM20 qM21 M))) C (zv_runV (As := [.int c3, .int p8]) (b := adM) (rest := [.long (Int32.toInt64 v_13)]) (ci := 5) (q0 := 0) C (zc_X6_at l G cI adM qM1 qM2 qM3 qM4 qM5 qM6 qM7 qM8 qM12 qM13 qM15 qM16 qM17 qM18 qM19 qM20 qM21 M c3 p8 _ hF) (cwV 2 C.2.2.2.2.1 gX6_times_X6_at rfl rfl rfl zy_X6_at ⟨Nat.le_of_ble_eq_true rfl, Nat.le_of_ble_eq_true rfl⟩) rfl rfl rfl rfl rfl (Nat.le_of_ble_eq_true rfl) ⟨Nat.zero_le _, Nat.zero_le _⟩ dX6_times_88) [0, 1, 2, 3, 4, 5, 6, 7, 8, 9, 10, 11, 12, 13, 14, 15, 16, 17] [] rfl rfl rfl rfl rfl (fun _ => rfl) (fun _ => rfl) (fun _ => rfl) (fun v_14 uz hF => ?_)
      refine zv_i2l (pc := 91) C  dX6_times_91 ?_
      refine zv_lmul (pc := 92) C  dX6_times_92 ?_
      refine zv_aload_n (pc := 93) C rfl 0 rfl dX6_times_93 ?_
      refine zv_get (pc := 94) (CC := RX6) (T := TX6) (N := 22) (ci := 5) (v := .ref qM19) C zi_X6_times_X6 0 rfl 19 (by decide) zf_X6_times_56 rfl rfl dX6_times_94 ?_
      refine zv_sipush (pc := 97) (v := 200) C (by decide) dX6_times_97 ?_
      refine zv_iload_n (pc := 100) C rfl 1 rfl dX6_times_100 ?_
      refine zv_imul (pc := 101) C  dX6_times_101 ?_
      refine zv_iload (pc := 102) C 5 rfl dX6_times_102 ?_
      refine zv_iadd (pc := 104) C  dX6_times_104 ?_
      refine zv_iload (pc := 105) C 7 rfl dX6_times_105 ?_
      refine zv_iadd (pc := 107) C  dX6_times_107 ?_
      obtain ⟨h_15, hF⟩ := hF
      refine zv_iald (pc := 108) (n := 12000) (f := (M 19)) C 15 h_15 rfl dX6_times_108 ?_
      refine zv_i2l (pc := 109) C  dX6_times_109 ?_
      refine zv_ladd (pc := 110) C  dX6_times_110 ?_
      refine zv_lload (pc := 111) C 6 rfl dX6_times_111 ?_
      refine zv_ladd (pc := 113) C  dX6_times_113 ?_
      refine zv_topl (fun x9_16 ex9_16 => ?_)
      replace hF := hF x9_16 ex9_16
      refine zv_lstore (pc := 114) (lv' := [(9, .long x9_16), (0, .ref adM), (1, .int c1), (2, .int c2), (3, .int c3), (4, .int c4), (5, .int c5), (6, .long p6), (8, .int p8)]) C (by decide) rfl dX6_times_114 ?_
      refine zv_aload_n (pc := 116) C rfl 1 rfl dX6_times_116 ?_
      refine zv_get (pc := 117) (CC := RX6) (T := TX6) (N := 22) (ci := 5) (v := .ref qM19) C zi_X6_times_X6 0 rfl 19 (by decide) zf_X6_times_56 rfl rfl dX6_times_117 ?_
      refine zv_sipush (pc := 120) (v := 200) C (by decide) dX6_times_120 ?_
      refine zv_iload_n (pc := 123) C rfl 2 rfl dX6_times_123 ?_
      refine zv_imul (pc := 124) C  dX6_times_124 ?_
      refine zv_iload (pc := 125) C 6 rfl dX6_times_125 ?_
      refine zv_iadd (pc := 127) C  dX6_times_127 ?_
      refine zv_iload (pc := 128) C 8 rfl dX6_times_128 ?_
      refine zv_iadd (pc := 130) C  dX6_times_130 ?_
      refine zv_lload (pc := 131) C 0 rfl dX6_times_131 ?_
      refine zv_ldc2 (pc := 133) C (v := 32767) (List.mem_of_getElem? (i := 3) rfl) dX6_times_133 ?_
      refine zv_land (pc := 136) C  dX6_times_136 ?_
      refine zv_l2i (pc := 137) C  dX6_times_137 ?_
      obtain ⟨h_17, hF⟩ := hF
      obtain ⟨r_18, er_18⟩ : ∃ y : zRow, y = (upd (M 19) (Int32.toNatClampNeg ((((200 : Int32) * c1) + c5) + p8)) (Int64.toInt32 (x9_16 &&& (32767 : Int64)))) := ⟨_, rfl⟩
      replace hF := hF r_18 er_18
      refine zv_iast (pc := 138) (n := 12000) (f := (M 19)) (ws' := (zd_X6_times cI adM qM1 qM2 qM3 qM4 qM5 qM6 qM7 qM8 qM12 qM13 qM15 qM16 qM17 qM18 qM19 qM20 qM21 (zset M 19 r_18))) C 15 h_17 rfl (by rw [er_18]; rfl) dX6_times_138 ?_
      refine zv_lload (pc := 139) C 0 rfl dX6_times_139 ?_
      refine zv_bipush (pc := 141) (v := 15) C (by decide) dX6_times_141 ?_
      refine zv_lshr (pc := 143) C  dX6_times_143 ?_
      refine zv_topl (fun x6_19 ex6_19 => ?_)
      replace hF := hF x6_19 ex6_19
      refine zv_lstore (pc := 144) (lv' := [(6, .long x6_19), (9, .long x9_16), (0, .ref adM), (1, .int c1), (2, .int c2), (3, .int c3), (4, .int c4), (5, .int c5), (8, .int p8)]) C (by decide) rfl dX6_times_144 ?_
      obtain ⟨x8_20, ex8_20⟩ : ∃ y : Int32, y = p8 + (1 : Int32) := ⟨_, rfl⟩
      replace hF := hF x8_20 ex8_20
      refine zv_iinc (pc := 146) (v := x8_20) (lv' := [(8, .int x8_20), (6, .long x6_19), (9, .long x9_16), (0, .ref adM), (1, .int c1), (2, .int c2), (3, .int c3), (4, .int c4), (5, .int c5)]) C 8 rfl (by rw [ex8_20]; rfl) (by decide) rfl dX6_times_146 ?_
      refine zv_goto (pc := 149) (tgt := 65) C dX6_times_149 (by decide) ?_
      exact zv_lvs [3, 4, 5, 6, 7, 8, 1, 0] rfl (ih x6_19 x8_20 (zset M 19 r_18) hF)
set_option maxHeartbeats 4000000 in
set_option maxRecDepth 100000 in
theorem zl_X6_times_48 {p : Program} {l : Launch} {e : Env} {s : State} {m : MethodId} {args : Array Value} {below : List Frame} {meth : Method} {c : Code} {G : va_G} {cI : ClassId} {A : Nat → Prop} {Q : State → Prop} (adM qM1 qM2 qM3 qM4 qM5 qM6 qM7 qM8 qM12 qM13 qM15 qM16 qM17 qM18 qM19 qM20 qM21 : Nat) (c1 : Int32) (c2 : Int32) (c3 : Int32) (c4 : Int32) (K181 : zMem → Prop) (C : zv_C p s m args c cX6_times 11 RX6 wsX6_times G cI A) (hK181 : ∀ (M : zMem), K181 M → zv_V p l e (headSpec wsX6_times rmX6_times).room s m args below meth c Q G A 11 0 0 (zd_X6_times cI adM qM1 qM2 qM3 qM4 qM5 qM6 qM7 qM8 qM12 qM13 qM15 qM16 qM17 qM18 qM19 qM20 qM21 M) 181 [(0, .ref adM), (1, .int c1), (2, .int c2), (3, .int c3), (4, .int c4)] []) : ∀ (k : Nat) (p5 : Int32) (M : zMem), zw_X6_times_48 c1 c2 c3 c4 K181 k p5 M → zv_V p l e (headSpec wsX6_times rmX6_times).room s m args below meth c Q G A 11 0 0 (zd_X6_times cI adM qM1 qM2 qM3 qM4 qM5 qM6 qM7 qM8 qM12 qM13 qM15 qM16 qM17 qM18 qM19 qM20 qM21 M) 48 [(0, .ref adM), (1, .int c1), (2, .int c2), (3, .int c3), (4, .int c4), (5, .int p5)] [] := by
  intro k
  induction k with
  | zero => intro p5 M hF; exact (show False from hF).elim
  | succ k ih =>
    intro p5 M hF
    refine zv_iload (pc := 48) C 5 rfl dX6_times_48 ?_
    refine zv_aload_n (pc := 50) C rfl 0 rfl dX6_times_50 ?_
    refine zv_get (pc := 51) (CC := RX6) (T := TX6) (N := 22) (ci := 5) (v := .ref qM20) C zi_X6_times_X6 0 rfl 20 (by decide) zf_X6_times_59 rfl rfl dX6_times_51 ?_
    refine zv_iload_n (pc := 54) C rfl 2 rfl dX6_times_54 ?_
    obtain ⟨h_9, hF⟩ := hF
    refine zv_iald (pc := 55) (n := 60) (f := (M 20)) C 16 h_9 rfl dX6_times_55 ?_
    refine zv_icmp_ge (pc := 56) (tgt := 181) C dX6_times_56 (by decide) (fun c_10 => ?_) (fun c_10 => ?_)
    · replace hF := And.left hF c_10
      exact zv_lvs [0, 1, 2, 3, 4] rfl (hK181 M hF)
    · replace hF := And.right hF c_10
      refine zv_lconst (pc := 59) (v := 0) C (by decide) dX6_times_59 ?_
      refine zv_lstore (pc := 60) (lv' := [(6, .long (0 : Int64)), (0, .ref adM), (1, .int c1), (2, .int c2), (3, .int c3), (4, .int c4), (5, .int p5)]) C (by decide) rfl dX6_times_60 ?_
      refine zv_iconst (pc := 62) (v := 0) C (by decide) dX6_times_62 ?_
      refine zv_istore (pc := 63) (lv' := [(8, .int (0 : Int32)), (6, .long (0 : Int64)), (0, .ref adM), (1, .int c1), (2, .int c2), (3, .int c3), (4, .int c4), (5, .int p5)]) C (by decide) rfl dX6_times_63 ?_
      obtain ⟨kf, hF⟩ := hF
      refine zv_lvs [2, 3, 4, 5, 6, 7, 1, 0] rfl (zl_X6_times_65 adM qM1 qM2 qM3 qM4 qM5 qM6 qM7 qM8 qM12 qM13 qM15 qM16 qM17 qM18 qM19 qM20 qM21 c1 c2 c3 c4 p5 _ C ?_ kf (0 : Int64) (0 : Int32) M hF)
      · intro x6_21 T_22 hF
        refine zv_aload_n (pc := 152) C rfl 0 rfl dX6_times_152 ?_
        refine zv_get (pc := 153) (CC := RX6) (T := TX6) (N := 22) (ci := 5) (v := .ref qM19) C zi_X6_times_X6 0 rfl 19 (by decide) zf_X6_times_56 rfl rfl dX6_times_153 ?_
        refine zv_sipush (pc := 156) (v := 200) C (by decide) dX6_times_156 ?_
        refine zv_iload_n (pc := 159) C rfl 1 rfl dX6_times_159 ?_
        refine zv_imul (pc := 160) C  dX6_times_160 ?_
        refine zv_iload (pc := 161) C 5 rfl dX6_times_161 ?_
        refine zv_iadd (pc := 163) C  dX6_times_163 ?_
        refine zv_aload_n (pc := 164) C rfl 0 rfl dX6_times_164 ?_
        refine zv_get (pc := 165) (CC := RX6) (T := TX6) (N := 22) (ci := 5) (v := .ref qM20) C zi_X6_times_X6 0 rfl 20 (by decide) zf_X6_times_59 rfl rfl dX6_times_165 ?_
        refine zv_iload_n (pc := 168) C rfl 3 rfl dX6_times_168 ?_
        obtain ⟨h_23, hF⟩ := hF
        refine zv_iald (pc := 169) (n := 60) (f := (T_22 20)) C 16 h_23 rfl dX6_times_169 ?_
        refine zv_iadd (pc := 170) C  dX6_times_170 ?_
        refine zv_lload (pc := 171) C 6 rfl dX6_times_171 ?_
        refine zv_l2i (pc := 173) C  dX6_times_173 ?_
        obtain ⟨h_24, hF⟩ := hF
        obtain ⟨r_25, er_25⟩ : ∃ y : zRow, y = (upd (T_22 19) (Int32.toNatClampNeg ((((200 : Int32) * c1) + p5) + ((T_22 20) (Int32.toNatClampNeg c3)))) (Int64.toInt32 x6_21)) := ⟨_, rfl⟩
        replace hF := hF r_25 er_25
        refine zv_iast (pc := 174) (n := 12000) (f := (T_22 19)) (ws' := (zd_X6_times cI adM qM1 qM2 qM3 qM4 qM5 qM6 qM7 qM8 qM12 qM13 qM15 qM16 qM17 qM18 qM19 qM20 qM21 (zset T_22 19 r_25))) C 15 h_24 rfl (by rw [er_25]; rfl) dX6_times_174 ?_
        obtain ⟨x5_26, ex5_26⟩ : ∃ y : Int32, y = p5 + (1 : Int32) := ⟨_, rfl⟩
        replace hF := hF x5_26 ex5_26
        refine zv_iinc (pc := 175) (v := x5_26) (lv' := [(5, .int x5_26), (0, .ref adM), (1, .int c1), (2, .int c2), (3, .int c3), (4, .int c4), (6, .long x6_21)]) C 5 rfl (by rw [ex5_26]; rfl) (by decide) rfl dX6_times_175 ?_
        refine zv_goto (pc := 178) (tgt := 48) C dX6_times_178 (by decide) ?_
        exact zv_lvs [1, 2, 3, 4, 5, 0] rfl (ih x5_26 (zset T_22 19 r_25) hF)
set_option maxHeartbeats 4000000 in
set_option maxRecDepth 100000 in
theorem zc_X6_times (l : Launch) (G : va_G) (cI : ClassId) (adM qM1 qM2 qM3 qM4 qM5 qM6 qM7 qM8 qM12 qM13 qM15 qM16 qM17 qM18 qM19 qM20 qM21 : Nat) (M : zMem) (a1 : Int32) (a2 : Int32) (a3 : Int32) (post : zMem → Prop) (hF : zw_X6_times M a1 a2 a3 post) (sz : Nat) : Met l yX6_times wsX6_times rmX6_times (va_Pc [.ref adM, .int a1, .int a2, .int a3] (zv_in G cI (zd_X6_times cI adM qM1 qM2 qM3 qM4 qM5 qM6 qM7 qM8 qM12 qM13 qM15 qM16 qM17 qM18 qM19 qM20 qM21 M) sz)) (va_Qv (fun uz : zMem => post uz) (fun (uz : zMem) t => zv_out G cI (va_A (zd_X6_times cI adM qM1 qM2 qM3 qM4 qM5 qM6 qM7 qM8 qM12 qM13 qM15 qM16 qM17 qM18 qM19 qM20 qM21 M) sz) (zd_X6_times cI adM qM1 qM2 qM3 qM4 qM5 qM6 qM7 qM8 qM12 qM13 qM15 qM16 qM17 qM18 qM19 qM20 qM21 uz) t) (va_A (zd_X6_times cI adM qM1 qM2 qM3 qM4 qM5 qM6 qM7 qM8 qM12 qM13 qM15 qM16 qM17 qM18 qM19 qM20 qM21 M) sz)) 0 0 (va_A (zd_X6_times cI adM qM1 qM2 qM3 qM4 qM5 qM6 qM7 qM8 qM12 qM13 qM15 qM16 qM17 qM18 qM19 qM20 qM21 M) sz) := by
  refine zv_met (cc := cX6_times) (maxL := 11) (ret := none) (lv0 := [(0, .ref adM), (1, .int a1), (2, .int a2), (3, .int a3)]) (Qc := fun A => va_Qv (fun uz : zMem => post uz) (fun (uz : zMem) t => zv_out G cI A (zd_X6_times cI adM qM1 qM2 qM3 qM4 qM5 qM6 qM7 qM8 qM12 qM13 qM15 qM16 qM17 qM18 qM19 qM20 qM21 uz) t) A) (by decide) rfl (Nat.le_of_ble_eq_true rfl) rfl ?_ sz
  intro p e s m below meth c A C hr hlk
  clear sz
  refine zv_aload_n (pc := 0) C rfl 0 rfl dX6_times_0 ?_
  refine zv_get (pc := 1) (CC := RX6) (T := TX6) (N := 22) (ci := 5) (v := .ref qM20) C zi_X6_times_X6 0 rfl 20 (by decide) zf_X6_times_59 rfl rfl dX6_times_1 ?_
  refine zv_iload_n (pc := 4) C rfl 2 rfl dX6_times_4 ?_
  obtain ⟨h_1, hF⟩ := hF
  refine zv_iald (pc := 5) (n := 60) (f := (M 20)) C 16 h_1 rfl dX6_times_5 ?_
  refine zv_aload_n (pc := 6) C rfl 0 rfl dX6_times_6 ?_
  refine zv_get (pc := 7) (CC := RX6) (T := TX6) (N := 22) (ci := 5) (v := .ref qM20) C zi_X6_times_X6 0 rfl 20 (by decide) zf_X6_times_59 rfl rfl dX6_times_7 ?_
  refine zv_iload_n (pc := 10) C rfl 3 rfl dX6_times_10 ?_
  obtain ⟨h_2, hF⟩ := hF
  refine zv_iald (pc := 11) (n := 60) (f := (M 20)) C 16 h_2 rfl dX6_times_11 ?_
  refine zv_iadd (pc := 12) C  dX6_times_12 ?_
  refine zv_topi (fun x4_3 ex4_3 => ?_)
  replace hF := hF x4_3 ex4_3
  refine zv_istore (pc := 13) (lv' := [(4, .int x4_3), (0, .ref adM), (1, .int a1), (2, .int a2), (3, .int a3)]) C (by decide) rfl dX6_times_13 ?_
  refine zv_iconst (pc := 15) (v := 0) C (by decide) dX6_times_15 ?_
  refine zv_istore (pc := 16) (lv' := [(5, .int (0 : Int32)), (4, .int x4_3), (0, .ref adM), (1, .int a1), (2, .int a2), (3, .int a3)]) C (by decide) rfl dX6_times_16 ?_
  obtain ⟨kf, hF⟩ := hF
  refine zv_lvs [2, 3, 4, 5, 1, 0] rfl (zl_X6_times_18 adM qM1 qM2 qM3 qM4 qM5 qM6 qM7 qM8 qM12 qM13 qM15 qM16 qM17 qM18 qM19 qM20 qM21 a1 a2 a3 x4_3 _ C ?_ kf (0 : Int32) M hF)
  · intro T_8 hF
    refine zv_iconst (pc := 45) (v := 0) C (by decide) dX6_times_45 ?_
    refine zv_istore (pc := 46) (lv' := [(5, .int (0 : Int32)), (0, .ref adM), (1, .int a1), (2, .int a2), (3, .int a3), (4, .int x4_3)]) C (by decide) rfl dX6_times_46 ?_
    obtain ⟨kf, hF⟩ := hF
    refine zv_lvs [1, 2, 3, 4, 5, 0] rfl (zl_X6_times_48 adM qM1 qM2 qM3 qM4 qM5 qM6 qM7 qM8 qM12 qM13 qM15 qM16 qM17 qM18 qM19 qM20 qM21 a1 a2 a3 x4_3 _ C ?_ kf (0 : Int32) T_8 hF)
    · intro T_27 hF
      refine zv_aload_n (pc := 181) C rfl 0 rfl dX6_times_181 ?_
      refine zv_get (pc := 182) (CC := RX6) (T := TX6) (N := 22) (ci := 5) (v := .ref qM21) C zi_X6_times_X6 0 rfl 21 (by decide) zf_X6_times_62 rfl rfl dX6_times_182 ?_
      refine zv_iload_n (pc := 185) C rfl 1 rfl dX6_times_185 ?_
      refine zv_aload_n (pc := 186) C rfl 0 rfl dX6_times_186 ?_
      refine zv_get (pc := 187) (CC := RX6) (T := TX6) (N := 22) (ci := 5) (v := .ref qM21) C zi_X6_times_X6 0 rfl 21 (by decide) zf_X6_times_62 rfl rfl dX6_times_187 ?_
      refine zv_iload_n (pc := 190) C rfl 2 rfl dX6_times_190 ?_
      obtain ⟨h_28, hF⟩ := hF
      refine zv_iald (pc := 191) (n := 60) (f := (T_27 21)) C 17 h_28 rfl dX6_times_191 ?_
      refine zv_aload_n (pc := 192) C rfl 0 rfl dX6_times_192 ?_
      refine zv_get (pc := 193) (CC := RX6) (T := TX6) (N := 22) (ci := 5) (v := .ref qM21) C zi_X6_times_X6 0 rfl 21 (by decide) zf_X6_times_62 rfl rfl dX6_times_193 ?_
      refine zv_iload_n (pc := 196) C rfl 3 rfl dX6_times_196 ?_
      obtain ⟨h_29, hF⟩ := hF
      refine zv_iald (pc := 197) (n := 60) (f := (T_27 21)) C 17 h_29 rfl dX6_times_197 ?_
      refine zv_imul (pc := 198) C  dX6_times_198 ?_
      obtain ⟨h_30, hF⟩ := hF
      obtain ⟨r_31, er_31⟩ : ∃ y : zRow, y = (upd (T_27 21) (Int32.toNatClampNeg a1) (((T_27 21) (Int32.toNatClampNeg a2)) * ((T_27 21) (Int32.toNatClampNeg a3)))) := ⟨_, rfl⟩
      replace hF := hF r_31 er_31
      refine zv_iast (pc := 199) (n := 60) (f := (T_27 21)) (ws' := (zd_X6_times cI adM qM1 qM2 qM3 qM4 qM5 qM6 qM7 qM8 qM12 qM13 qM15 qM16 qM17 qM18 qM19 qM20 qM21 (zset T_27 21 r_31))) C 17 h_30 rfl (by rw [er_31]; rfl) dX6_times_199 ?_
      refine zv_aload_n (pc := 200) C rfl 0 rfl dX6_times_200 ?_
      refine zv_iload_n (pc := 201) C rfl 1 rfl dX6_times_201 ?_
      refine zv_iload (pc := 202) C 4 rfl dX6_times_202 ?_
      refine zv_cv0 (pc := 204) (ws' := (fun uz : zMem => (zd_X6_times cI adM qM1 qM2 qM3 qM4 qM5 qM6 qM7 qM8 qM12 qM13 qM15 qM16 qM17 qM18 qM19 qM20 qM21 uz))) C (zv_runV (As := [.int a1, .int x4_3]) (b := adM) (rest := []) (ci := 5) (q0 := 0) C (zc_X6_trim l G cI adM qM1 qM2 qM3 qM4 qM5 qM6 qM7 qM8 qM12 qM13 qM15 qM16 qM17 qM18 qM19 qM20 qM21 (zset T_27 21 r_31) a1 x4_3 _ hF) (cwV 2 C.2.2.2.2.1 gX6_times_X6_trim rfl rfl rfl zy_X6_trim ⟨Nat.le_of_ble_eq_true rfl, Nat.le_of_ble_eq_true rfl⟩) rfl rfl rfl rfl rfl (Nat.le_of_ble_eq_true rfl) ⟨Nat.zero_le _, Nat.zero_le _⟩ dX6_times_204) [0, 1, 2, 3, 4, 5, 6, 7, 8, 9, 10, 11, 12, 13, 14, 15, 16, 17] [] rfl rfl rfl rfl rfl (fun _ => rfl) (fun _ => rfl) (fun _ => rfl) (fun uz hF => ?_)
      obtain ⟨T_32, hE⟩ : ∃ z, z = uz := ⟨_, rfl⟩; subst hE
      exact zv_vret (pc := 207) C hr hlk T_32 hF rfl dX6_times_207
theorem zy_X6_by : yX6_by.cls = RX6 ∧ yX6_by.cls ≠ "java/lang/invoke/MethodHandle" ∧ yX6_by.cls ≠ "java/lang/invoke/VarHandle" ∧ (parseMethodDescriptor yX6_by.desc).map (fun d => d.parameters.length) = some 2 := by decide +kernel
set_option maxHeartbeats 4000000 in
set_option maxRecDepth 100000 in
theorem zc_X6_by (l : Launch) (G : va_G) (cI : ClassId) (adM qM1 qM2 qM3 qM4 qM5 qM6 qM7 qM8 qM12 qM13 qM15 qM16 qM17 qM18 qM19 qM20 qM21 : Nat) (M : zMem) (a1 : Int32) (a2 : Int64) (post : zMem → Prop) (hF : zw_X6_by M a1 a2 post) (sz : Nat) : Met l yX6_by wsX6_by rmX6_by (va_Pc [.ref adM, .int a1, .long a2] (zv_in G cI (zd_X6_by cI adM qM1 qM2 qM3 qM4 qM5 qM6 qM7 qM8 qM12 qM13 qM15 qM16 qM17 qM18 qM19 qM20 qM21 M) sz)) (va_Qv (fun uz : zMem => post uz) (fun (uz : zMem) t => zv_out G cI (va_A (zd_X6_by cI adM qM1 qM2 qM3 qM4 qM5 qM6 qM7 qM8 qM12 qM13 qM15 qM16 qM17 qM18 qM19 qM20 qM21 M) sz) (zd_X6_by cI adM qM1 qM2 qM3 qM4 qM5 qM6 qM7 qM8 qM12 qM13 qM15 qM16 qM17 qM18 qM19 qM20 qM21 uz) t) (va_A (zd_X6_by cI adM qM1 qM2 qM3 qM4 qM5 qM6 qM7 qM8 qM12 qM13 qM15 qM16 qM17 qM18 qM19 qM20 qM21 M) sz)) 0 0 (va_A (zd_X6_by cI adM qM1 qM2 qM3 qM4 qM5 qM6 qM7 qM8 qM12 qM13 qM15 qM16 qM17 qM18 qM19 qM20 qM21 M) sz) := by
  refine zv_met (cc := cX6_by) (maxL := 4) (ret := none) (lv0 := [(0, .ref adM), (1, .int a1), (2, .long a2)]) (Qc := fun A => va_Qv (fun uz : zMem => post uz) (fun (uz : zMem) t => zv_out G cI A (zd_X6_by cI adM qM1 qM2 qM3 qM4 qM5 qM6 qM7 qM8 qM12 qM13 qM15 qM16 qM17 qM18 qM19 qM20 qM21 uz) t) A) (by decide) rfl (Nat.le_of_ble_eq_true rfl) rfl ?_ sz
  intro p e s m below meth c A C hr hlk
  clear sz
  refine zv_aload_n (pc := 0) C rfl 0 rfl dX6_by_0 ?_
  refine zv_bipush (pc := 1) (v := 39) C (by decide) dX6_by_1 ?_
  refine zv_lload_n (pc := 3) C rfl 2 rfl dX6_by_3 ?_
  refine zv_cv0 (pc := 4) (ws' := (fun uz : zMem => (zd_X6_by cI adM qM1 qM2 qM3 qM4 qM5 qM6 qM7 qM8 qM12 qM13 qM15 qM16 qM17 qM18 qM19 qM20 qM21 uz))) C (zv_runV (As := [.int (39 : Int32), .long a2]) (b := adM) (rest := []) (ci := 5) (q0 := 0) C (zc_X6_set l G cI adM qM1 qM2 qM3 qM4 qM5 qM6 qM7 qM8 qM12 qM13 qM15 qM16 qM17 qM18 qM19 qM20 qM21 M (39 : Int32) a2 _ hF) (cwV 2 C.2.2.2.2.1 gX6_by_X6_set rfl rfl rfl zy_X6_set ⟨Nat.le_of_ble_eq_true rfl, Nat.le_of_ble_eq_true rfl⟩) rfl rfl rfl rfl rfl (Nat.le_of_ble_eq_true rfl) ⟨Nat.zero_le _, Nat.zero_le _⟩ dX6_by_4) [0, 1, 2, 3, 4, 5, 6, 7, 8, 9, 10, 11, 12, 13, 14, 15, 16, 17] [] rfl rfl rfl rfl rfl (fun _ => rfl) (fun _ => rfl) (fun _ => rfl) (fun uz hF => ?_)
  obtain ⟨T_1, hE⟩ : ∃ z, z = uz := ⟨_, rfl⟩; subst hE
  refine zv_aload_n (pc := 7) C rfl 0 rfl dX6_by_7 ?_
  refine zv_bipush (pc := 8) (v := 37) C (by decide) dX6_by_8 ?_
  refine zv_iload_n (pc := 10) C rfl 1 rfl dX6_by_10 ?_
  refine zv_bipush (pc := 11) (v := 39) C (by decide) dX6_by_11 ?_
  refine zv_cv0 (pc := 13) (ws' := (fun uz : zMem => (zd_X6_by cI adM qM1 qM2 qM3 qM4 qM5 qM6 qM7 qM8 qM12 qM13 qM15 qM16 qM17 qM18 qM19 qM20 qM21 uz))) C (zv_runV (As := [.int (37 : Int32), .int a1, .int (39 : Int32)]) (b := adM) (rest := []) (ci := 5) (q0 := 0) C (zc_X6_times l G cI adM qM1 qM2 qM3 qM4 qM5 qM6 qM7 qM8 qM12 qM13 qM15 qM16 qM17 qM18 qM19 qM20 qM21 T_1 (37 : Int32) a1 (39 : Int32) _ hF) (cwV 3 C.2.2.2.2.1 gX6_by_X6_times rfl rfl rfl zy_X6_times ⟨Nat.le_of_ble_eq_true rfl, Nat.le_of_ble_eq_true rfl⟩) rfl rfl rfl rfl rfl (Nat.le_of_ble_eq_true rfl) ⟨Nat.zero_le _, Nat.zero_le _⟩ dX6_by_13) [0, 1, 2, 3, 4, 5, 6, 7, 8, 9, 10, 11, 12, 13, 14, 15, 16, 17] [] rfl rfl rfl rfl rfl (fun _ => rfl) (fun _ => rfl) (fun _ => rfl) (fun uz hF => ?_)
  obtain ⟨T_2, hE⟩ : ∃ z, z = uz := ⟨_, rfl⟩; subst hE
  refine zv_aload_n (pc := 16) C rfl 0 rfl dX6_by_16 ?_
  refine zv_iload_n (pc := 17) C rfl 1 rfl dX6_by_17 ?_
  refine zv_bipush (pc := 18) (v := 37) C (by decide) dX6_by_18 ?_
  refine zv_cv0 (pc := 20) (ws' := (fun uz : zMem => (zd_X6_by cI adM qM1 qM2 qM3 qM4 qM5 qM6 qM7 qM8 qM12 qM13 qM15 qM16 qM17 qM18 qM19 qM20 qM21 uz))) C (zv_runV (As := [.int a1, .int (37 : Int32)]) (b := adM) (rest := []) (ci := 5) (q0 := 0) C (zc_X6_copy l G cI adM qM1 qM2 qM3 qM4 qM5 qM6 qM7 qM8 qM12 qM13 qM15 qM16 qM17 qM18 qM19 qM20 qM21 T_2 a1 (37 : Int32) _ hF) (cwV 2 C.2.2.2.2.1 gX6_by_X6_copy rfl rfl rfl zy_X6_copy ⟨Nat.le_of_ble_eq_true rfl, Nat.le_of_ble_eq_true rfl⟩) rfl rfl rfl rfl rfl (Nat.le_of_ble_eq_true rfl) ⟨Nat.zero_le _, Nat.zero_le _⟩ dX6_by_20) [0, 1, 2, 3, 4, 5, 6, 7, 8, 9, 10, 11, 12, 13, 14, 15, 16, 17] [] rfl rfl rfl rfl rfl (fun _ => rfl) (fun _ => rfl) (fun _ => rfl) (fun uz hF => ?_)
  obtain ⟨T_3, hE⟩ : ∃ z, z = uz := ⟨_, rfl⟩; subst hE
  exact zv_vret (pc := 23) C hr hlk T_3 hF rfl dX6_by_23
theorem zy_X6_isEven : yX6_isEven.cls = RX6 ∧ yX6_isEven.cls ≠ "java/lang/invoke/MethodHandle" ∧ yX6_isEven.cls ≠ "java/lang/invoke/VarHandle" ∧ (parseMethodDescriptor yX6_isEven.desc).map (fun d => d.parameters.length) = some 1 := by decide +kernel
set_option maxHeartbeats 4000000 in
set_option maxRecDepth 100000 in
theorem zc_X6_isEven (l : Launch) (G : va_G) (cI : ClassId) (adM qM1 qM2 qM3 qM4 qM5 qM6 qM7 qM8 qM12 qM13 qM15 qM16 qM17 qM18 qM19 qM20 qM21 : Nat) (M : zMem) (a1 : Int32) (post : Int32 → Prop) (hF : zw_X6_isEven M a1 post) (sz : Nat) : Met l yX6_isEven wsX6_isEven rmX6_isEven (va_Pc [.ref adM, .int a1] (zv_in G cI (zd_X6_isEven cI adM qM1 qM2 qM3 qM4 qM5 qM6 qM7 qM8 qM12 qM13 qM15 qM16 qM17 qM18 qM19 qM20 qM21 M) sz)) (va_Qi (fun (rz : Int32) (uz : Unit) => post rz ) (fun (uz : Unit) t => zv_out G cI (va_A (zd_X6_isEven cI adM qM1 qM2 qM3 qM4 qM5 qM6 qM7 qM8 qM12 qM13 qM15 qM16 qM17 qM18 qM19 qM20 qM21 M) sz) (zd_X6_isEven cI adM qM1 qM2 qM3 qM4 qM5 qM6 qM7 qM8 qM12 qM13 qM15 qM16 qM17 qM18 qM19 qM20 qM21 M) t) (va_A (zd_X6_isEven cI adM qM1 qM2 qM3 qM4 qM5 qM6 qM7 qM8 qM12 qM13 qM15 qM16 qM17 qM18 qM19 qM20 qM21 M) sz)) 0 0 (va_A (zd_X6_isEven cI adM qM1 qM2 qM3 qM4 qM5 qM6 qM7 qM8 qM12 qM13 qM15 qM16 qM17 qM18 qM19 qM20 qM21 M) sz) := by
  refine zv_met (cc := cX6_isEven) (maxL := 2) (ret := (some .boolean)) (lv0 := [(0, .ref adM), (1, .int a1)]) (Qc := fun A => va_Qi (fun (rz : Int32) (uz : Unit) => post rz ) (fun (uz : Unit) t => zv_out G cI A (zd_X6_isEven cI adM qM1 qM2 qM3 qM4 qM5 qM6 qM7 qM8 qM12 qM13 qM15 qM16 qM17 qM18 qM19 qM20 qM21 M) t) A) (by decide) rfl (Nat.le_of_ble_eq_true rfl) rfl ?_ sz
  intro p e s m below meth c A C hr hlk
  clear sz
  refine zv_aload_n (pc := 0) C rfl 0 rfl dX6_isEven_0 ?_
  refine zv_iload_n (pc := 1) C rfl 1 rfl dX6_isEven_1 ?_
  refine zv_iconst (pc := 2) (v := 0) C (by decide) dX6_isEven_2 ?_
  refine zv_ci0 (pc := 3) (ws' := (fun uz : Unit => (zd_X6_isEven cI adM qM1 qM2 qM3 qM4 qM5 qM6 qM7 qM8 qM12 qM13 qM15 qM16 qM17 qM18 qM19 qM20 qM21 M))) C (zv_runV (As := [.int a1, .int (0 : Int32)]) (b := adM) (rest := []) (ci := 5) (q0 := 0) C (zc_X6_at l G cI adM qM1 qM2 qM3 qM4 qM5 qM6 qM7 qM8 qM12 qM13 qM15 qM16 qM17 qM18 qM19 qM20 qM21 M a1 (0 : Int32) _ hF) (cwV 2 C.2.2.2.2.1 gX6_isEven_X6_at rfl rfl rfl zy_X6_at ⟨Nat.le_of_ble_eq_true rfl, Nat.le_of_ble_eq_true rfl⟩) rfl rfl rfl rfl rfl (Nat.le_of_ble_eq_true rfl) ⟨Nat.zero_le _, Nat.zero_le _⟩ dX6_isEven_3) [0, 1, 2, 3, 4, 5, 6, 7, 8, 9, 10, 11, 12, 13, 14, 15, 16, 17] [] rfl rfl rfl rfl rfl (fun _ => rfl) (fun _ => rfl) (fun _ => rfl) (fun v_1 uz hF => ?_)
  refine zv_iconst (pc := 6) (v := 1) C (by decide) dX6_isEven_6 ?_
  refine zv_iand (pc := 7) C  dX6_isEven_7 ?_
  refine zv_if_ne (pc := 8) (tgt := 15) C dX6_isEven_8 (by decide) (fun c_2 => ?_) (fun c_2 => ?_)
  · replace hF := And.left hF c_2
    refine zv_iconst (pc := 15) (v := 0) C (by decide) dX6_isEven_15 ?_
    obtain ⟨hn_3, hF⟩ := hF
    exact zv_zret (pc := 16) C hr hlk (0 : Int32) () hn_3 hF rfl dX6_isEven_16
  · replace hF := And.right hF c_2
    refine zv_iconst (pc := 11) (v := 1) C (by decide) dX6_isEven_11 ?_
    refine zv_goto (pc := 12) (tgt := 16) C dX6_isEven_12 (by decide) ?_
    obtain ⟨hn_4, hF⟩ := hF
    exact zv_zret (pc := 16) C hr hlk (1 : Int32) () hn_4 hF rfl dX6_isEven_16
theorem zf_X6_halve_56 : Cond.fieldLink RX6 56 "GlassStackModel" "limb" "[I" ∈ wsX6_halve := (List.mem_of_getElem? (i := 2) rfl)
theorem zf_X6_halve_59 : Cond.fieldLink RX6 59 "GlassStackModel" "size" "[I" ∈ wsX6_halve := (List.mem_of_getElem? (i := 1) rfl)
theorem zi_X6_halve_X6 : ∀ w ∈ wsX60, w ∈ wsX6_halve := fun w h => List.mem_cons_of_mem _ (List.mem_append_right _ h)
theorem zy_X6_halve : yX6_halve.cls = RX6 ∧ yX6_halve.cls ≠ "java/lang/invoke/MethodHandle" ∧ yX6_halve.cls ≠ "java/lang/invoke/VarHandle" ∧ (parseMethodDescriptor yX6_halve.desc).map (fun d => d.parameters.length) = some 1 := by decide +kernel
set_option maxHeartbeats 4000000 in
set_option maxRecDepth 100000 in
theorem zl_X6_halve_2 {p : Program} {l : Launch} {e : Env} {s : State} {m : MethodId} {args : Array Value} {below : List Frame} {meth : Method} {c : Code} {G : va_G} {cI : ClassId} {A : Nat → Prop} {Q : State → Prop} (adM qM1 qM2 qM3 qM4 qM5 qM6 qM7 qM8 qM12 qM13 qM15 qM16 qM17 qM18 qM19 qM20 qM21 : Nat) (c1 : Int32) (K52 : zMem → Prop) (C : zv_C p s m args c cX6_halve 3 RX6 wsX6_halve G cI A) (hK52 : ∀ (M : zMem), K52 M → zv_V p l e (headSpec wsX6_halve rmX6_halve).room s m args below meth c Q G A 3 0 0 (zd_X6_halve cI adM qM1 qM2 qM3 qM4 qM5 qM6 qM7 qM8 qM12 qM13 qM15 qM16 qM17 qM18 qM19 qM20 qM21 M) 52 [(0, .ref adM), (1, .int c1)] []) : ∀ (k : Nat) (p2 : Int32) (M : zMem), zw_X6_halve_2 c1 K52 k p2 M → zv_V p l e (headSpec wsX6_halve rmX6_halve).room s m args below meth c Q G A 3 0 0 (zd_X6_halve cI adM qM1 qM2 qM3 qM4 qM5 qM6 qM7 qM8 qM12 qM13 qM15 qM16 qM17 qM18 qM19 qM20 qM21 M) 2 [(0, .ref adM), (1, .int c1), (2, .int p2)] [] := by
  intro k
  induction k with
  | zero => intro p2 M hF; exact (show False from hF).elim
  | succ k ih =>
    intro p2 M hF
    refine zv_iload_n (pc := 2) C rfl 2 rfl dX6_halve_2 ?_
    refine zv_aload_n (pc := 3) C rfl 0 rfl dX6_halve_3 ?_
    refine zv_get (pc := 4) (CC := RX6) (T := TX6) (N := 22) (ci := 5) (v := .ref qM20) C zi_X6_halve_X6 0 rfl 20 (by decide) zf_X6_halve_59 rfl rfl dX6_halve_4 ?_
    refine zv_iload_n (pc := 7) C rfl 1 rfl dX6_halve_7 ?_
    obtain ⟨h_1, hF⟩ := hF
    refine zv_iald (pc := 8) (n := 60) (f := (M 20)) C 16 h_1 rfl dX6_halve_8 ?_
    refine zv_icmp_ge (pc := 9) (tgt := 52) C dX6_halve_9 (by decide) (fun c_2 => ?_) (fun c_2 => ?_)
    · replace hF := And.left hF c_2
      exact zv_lvs [0, 1] rfl (hK52 M hF)
    · replace hF := And.right hF c_2
      refine zv_aload_n (pc := 12) C rfl 0 rfl dX6_halve_12 ?_
      refine zv_get (pc := 13) (CC := RX6) (T := TX6) (N := 22) (ci := 5) (v := .ref qM19) C zi_X6_halve_X6 0 rfl 19 (by decide) zf_X6_halve_56 rfl rfl dX6_halve_13 ?_
      refine zv_sipush (pc := 16) (v := 200) C (by decide) dX6_halve_16 ?_
      refine zv_iload_n (pc := 19) C rfl 1 rfl dX6_halve_19 ?_
      refine zv_imul (pc := 20) C  dX6_halve_20 ?_
      refine zv_iload_n (pc := 21) C rfl 2 rfl dX6_halve_21 ?_
      refine zv_iadd (pc := 22) C  dX6_halve_22 ?_
      refine zv_aload_n (pc := 23) C rfl 0 rfl dX6_halve_23 ?_
      refine zv_iload_n (pc := 24) C rfl 1 rfl dX6_halve_24 ?_
      refine zv_iload_n (pc := 25) C rfl 2 rfl dX6_halve_25 ?_
      refine zv_ci0 (pc := 26) (ws' := (fun uz : Unit => (zd_X6_halve cI adM qM1 qM2 qM3 qM4 qM5 qM6 qM7 qM8 qM12 qM13 qM15 qM16 qM17 qM18 qM19 qM20 qM21 M))) C (zv_runV (As := [.int c1, .int p2]) (b := adM) (rest := [.int (((200 : Int32) * c1) + p2), .ref qM19]) (ci := 5) (q0 := 0) C (zc_X6_at l G cI adM qM1 qM2 qM3 qM4 qM5 qM6 qM7 qM8 qM12 qM13 qM15 qM16 qM17 qM18 qM19 qM20 qM21 M c1 p2 _ hF) (cwV 2 C.2.2.2.2.1 gX6_halve_X6_at rfl rfl rfl zy_X6_at ⟨Nat.le_of_ble_eq_true rfl, Nat.le_of_ble_eq_true rfl⟩) rfl rfl rfl rfl rfl (Nat.le_of_ble_eq_true rfl) ⟨Nat.zero_le _, Nat.zero_le _⟩ dX6_halve_26) [0, 1, 2, 3, 4, 5, 6, 7, 8, 9, 10, 11, 12, 13, 14, 15, 16, 17] [] rfl rfl rfl rfl rfl (fun _ => rfl) (fun _ => rfl) (fun _ => rfl) (fun v_3 uz hF => ?_)
      refine zv_iconst (pc := 29) (v := 1) C (by decide) dX6_halve_29 ?_
      refine zv_ishr (pc := 30) C  dX6_halve_30 ?_
      refine zv_aload_n (pc := 31) C rfl 0 rfl dX6_halve_31 ?_
      refine zv_iload_n (pc := 32) C rfl 1 rfl dX6_halve_32 ?_
      refine zv_iload_n (pc := 33) C rfl 2 rfl dX6_halve_33 ?_
      refine zv_iconst (pc := 34) (v := 1) C (by decide) dX6_halve_34 ?_
      refine zv_iadd (pc := 35) C  dX6_halve_35 ?_
      refine zv_ci0 (pc := 36) (ws' := (fun uz : Unit => (zd_X6_halve cI adM qM1 qM2 qM3 qM4 qM5 qM6 qM7 qM8 qM12 qM13 qM15 qM16 qM17 qM18 qM19 qM20 qM21 M))) C (zv_runV (As := [.int c1, .int (p2 + (1 : Int32))]) (b := adM) (rest := [.int (v_3 >>> ((1 : Int32) &&& 31)), .int (((200 : Int32) * c1) + p2), .ref qM19]) (ci := 5) (q0 := 0) C (zc_X6_at l G cI adM qM1 qM2 qM3 qM4 qM5 qM6 qM7 qM8 qM12 qM13 qM15 qM16 qM17 qM18 qM19 qM20 qM21 M c1 (p2 + (1 : Int32)) _ hF) (cwV 2 C.2.2.2.2.1 gX6_halve_X6_at rfl rfl rfl zy_X6_at ⟨Nat.le_of_ble_eq_true rfl, Nat.le_of_ble_eq_true rfl⟩) rfl rfl rfl rfl rfl (Nat.le_of_ble_eq_true rfl) ⟨Nat.zero_le _, Nat.zero_le _⟩ dX6_halve_36) [0, 1, 2, 3, 4, 5, 6, 7, 8, 9, 10, 11, 12, 13, 14, 15, 16, 17] [] rfl rfl rfl rfl rfl (fun _ => rfl) (fun _ => rfl) (fun _ => rfl) (fun v_4 uz hF => ?_)
      refine zv_iconst (pc := 39) (v := 1) C (by decide) dX6_halve_39 ?_
      refine zv_iand (pc := 40) C  dX6_halve_40 ?_
      refine zv_bipush (pc := 41) (v := 14) C (by decide) dX6_halve_41 ?_
      refine zv_ishl (pc := 43) C  dX6_halve_43 ?_
      refine zv_ior (pc := 44) C  dX6_halve_44 ?_
      obtain ⟨h_5, hF⟩ := hF
      obtain ⟨r_6, er_6⟩ : ∃ y : zRow, y = (upd (M 19) (Int32.toNatClampNeg (((200 : Int32) * c1) + p2)) ((v_3 >>> ((1 : Int32) &&& 31)) ||| ((v_4 &&& (1 : Int32)) <<< ((14 : Int32) &&& 31)))) := ⟨_, rfl⟩
      replace hF := hF r_6 er_6
      refine zv_iast (pc := 45) (n := 12000) (f := (M 19)) (ws' := (zd_X6_halve cI adM qM1 qM2 qM3 qM4 qM5 qM6 qM7 qM8 qM12 qM13 qM15 qM16 qM17 qM18 qM19 qM20 qM21 (zset M 19 r_6))) C 15 h_5 rfl (by rw [er_6]; rfl) dX6_halve_45 ?_
      obtain ⟨x2_7, ex2_7⟩ : ∃ y : Int32, y = p2 + (1 : Int32) := ⟨_, rfl⟩
      replace hF := hF x2_7 ex2_7
      refine zv_iinc (pc := 46) (v := x2_7) (lv' := [(2, .int x2_7), (0, .ref adM), (1, .int c1)]) C 2 rfl (by rw [ex2_7]; rfl) (by decide) rfl dX6_halve_46 ?_
      refine zv_goto (pc := 49) (tgt := 2) C dX6_halve_49 (by decide) ?_
      exact zv_lvs [1, 2, 0] rfl (ih x2_7 (zset M 19 r_6) hF)
set_option maxHeartbeats 4000000 in
set_option maxRecDepth 100000 in
theorem zc_X6_halve (l : Launch) (G : va_G) (cI : ClassId) (adM qM1 qM2 qM3 qM4 qM5 qM6 qM7 qM8 qM12 qM13 qM15 qM16 qM17 qM18 qM19 qM20 qM21 : Nat) (M : zMem) (a1 : Int32) (post : zMem → Prop) (hF : zw_X6_halve M a1 post) (sz : Nat) : Met l yX6_halve wsX6_halve rmX6_halve (va_Pc [.ref adM, .int a1] (zv_in G cI (zd_X6_halve cI adM qM1 qM2 qM3 qM4 qM5 qM6 qM7 qM8 qM12 qM13 qM15 qM16 qM17 qM18 qM19 qM20 qM21 M) sz)) (va_Qv (fun uz : zMem => post uz) (fun (uz : zMem) t => zv_out G cI (va_A (zd_X6_halve cI adM qM1 qM2 qM3 qM4 qM5 qM6 qM7 qM8 qM12 qM13 qM15 qM16 qM17 qM18 qM19 qM20 qM21 M) sz) (zd_X6_halve cI adM qM1 qM2 qM3 qM4 qM5 qM6 qM7 qM8 qM12 qM13 qM15 qM16 qM17 qM18 qM19 qM20 qM21 uz) t) (va_A (zd_X6_halve cI adM qM1 qM2 qM3 qM4 qM5 qM6 qM7 qM8 qM12 qM13 qM15 qM16 qM17 qM18 qM19 qM20 qM21 M) sz)) 0 0 (va_A (zd_X6_halve cI adM qM1 qM2 qM3 qM4 qM5 qM6 qM7 qM8 qM12 qM13 qM15 qM16 qM17 qM18 qM19 qM20 qM21 M) sz) := by
  refine zv_met (cc := cX6_halve) (maxL := 3) (ret := none) (lv0 := [(0, .ref adM), (1, .int a1)]) (Qc := fun A => va_Qv (fun uz : zMem => post uz) (fun (uz : zMem) t => zv_out G cI A (zd_X6_halve cI adM qM1 qM2 qM3 qM4 qM5 qM6 qM7 qM8 qM12 qM13 qM15 qM16 qM17 qM18 qM19 qM20 qM21 uz) t) A) (by decide) rfl (Nat.le_of_ble_eq_true rfl) rfl ?_ sz
  intro p e s m below meth c A C hr hlk
  clear sz
  refine zv_iconst (pc := 0) (v := 0) C (by decide) dX6_halve_0 ?_
  refine zv_istore_n (pc := 1) (lv' := [(2, .int (0 : Int32)), (0, .ref adM), (1, .int a1)]) C rfl (by decide) rfl dX6_halve_1 ?_
  obtain ⟨kf, hF⟩ := hF
  refine zv_lvs [1, 2, 0] rfl (zl_X6_halve_2 adM qM1 qM2 qM3 qM4 qM5 qM6 qM7 qM8 qM12 qM13 qM15 qM16 qM17 qM18 qM19 qM20 qM21 a1 _ C ?_ kf (0 : Int32) M hF)
  · intro T_8 hF
    refine zv_aload_n (pc := 52) C rfl 0 rfl dX6_halve_52 ?_
    refine zv_iload_n (pc := 53) C rfl 1 rfl dX6_halve_53 ?_
    refine zv_aload_n (pc := 54) C rfl 0 rfl dX6_halve_54 ?_
    refine zv_get (pc := 55) (CC := RX6) (T := TX6) (N := 22) (ci := 5) (v := .ref qM20) C zi_X6_halve_X6 0 rfl 20 (by decide) zf_X6_halve_59 rfl rfl dX6_halve_55 ?_
    refine zv_iload_n (pc := 58) C rfl 1 rfl dX6_halve_58 ?_
    obtain ⟨h_9, hF⟩ := hF
    refine zv_iald (pc := 59) (n := 60) (f := (T_8 20)) C 16 h_9 rfl dX6_halve_59 ?_
    refine zv_cv0 (pc := 60) (ws' := (fun uz : zMem => (zd_X6_halve cI adM qM1 qM2 qM3 qM4 qM5 qM6 qM7 qM8 qM12 qM13 qM15 qM16 qM17 qM18 qM19 qM20 qM21 uz))) C (zv_runV (As := [.int a1, .int ((T_8 20) (Int32.toNatClampNeg a1))]) (b := adM) (rest := []) (ci := 5) (q0 := 0) C (zc_X6_trim l G cI adM qM1 qM2 qM3 qM4 qM5 qM6 qM7 qM8 qM12 qM13 qM15 qM16 qM17 qM18 qM19 qM20 qM21 T_8 a1 ((T_8 20) (Int32.toNatClampNeg a1)) _ hF) (cwV 2 C.2.2.2.2.1 gX6_halve_X6_trim rfl rfl rfl zy_X6_trim ⟨Nat.le_of_ble_eq_true rfl, Nat.le_of_ble_eq_true rfl⟩) rfl rfl rfl rfl rfl (Nat.le_of_ble_eq_true rfl) ⟨Nat.zero_le _, Nat.zero_le _⟩ dX6_halve_60) [0, 1, 2, 3, 4, 5, 6, 7, 8, 9, 10, 11, 12, 13, 14, 15, 16, 17] [] rfl rfl rfl rfl rfl (fun _ => rfl) (fun _ => rfl) (fun _ => rfl) (fun uz hF => ?_)
    obtain ⟨T_10, hE⟩ : ∃ z, z = uz := ⟨_, rfl⟩; subst hE
    exact zv_vret (pc := 63) C hr hlk T_10 hF rfl dX6_halve_63
theorem zf_X6_common_62 : Cond.fieldLink RX6 62 "GlassStackModel" "sign" "[I" ∈ wsX6_common := (List.mem_of_getElem? (i := 1) rfl)
theorem zi_X6_common_X6 : ∀ w ∈ wsX60, w ∈ wsX6_common := fun w h => List.mem_cons_of_mem _ (List.mem_append_right _ h)
theorem zy_X6_common : yX6_common.cls = RX6 ∧ yX6_common.cls ≠ "java/lang/invoke/MethodHandle" ∧ yX6_common.cls ≠ "java/lang/invoke/VarHandle" ∧ (parseMethodDescriptor yX6_common.desc).map (fun d => d.parameters.length) = some 2 := by decide +kernel
set_option maxHeartbeats 4000000 in
set_option maxRecDepth 100000 in
theorem zl_X6_common_32 {p : Program} {l : Launch} {e : Env} {s : State} {m : MethodId} {args : Array Value} {below : List Frame} {meth : Method} {c : Code} {G : va_G} {cI : ClassId} {A : Nat → Prop} {Q : State → Prop} (adM qM1 qM2 qM3 qM4 qM5 qM6 qM7 qM8 qM12 qM13 qM15 qM16 qM17 qM18 qM19 qM20 qM21 : Nat) (K68 : Int32 → zMem → Prop) (C : zv_C p s m args c cX6_common 5 RX6 wsX6_common G cI A) (hK68 : ∀ (p3 : Int32) (M : zMem), K68 p3 M → zv_V p l e (headSpec wsX6_common rmX6_common).room s m args below meth c Q G A 5 0 0 (zd_X6_common cI adM qM1 qM2 qM3 qM4 qM5 qM6 qM7 qM8 qM12 qM13 qM15 qM16 qM17 qM18 qM19 qM20 qM21 M) 68 [(0, .ref adM), (3, .int p3)] []) : ∀ (k : Nat) (p3 : Int32) (M : zMem), zw_X6_common_32 K68 k p3 M → zv_V p l e (headSpec wsX6_common rmX6_common).room s m args below meth c Q G A 5 0 0 (zd_X6_common cI adM qM1 qM2 qM3 qM4 qM5 qM6 qM7 qM8 qM12 qM13 qM15 qM16 qM17 qM18 qM19 qM20 qM21 M) 32 [(0, .ref adM), (3, .int p3)] [] := by
  intro k
  induction k with
  | zero => intro p3 M hF; exact (show False from hF).elim
  | succ k ih =>
    intro p3 M hF
    refine zv_aload_n (pc := 32) C rfl 0 rfl dX6_common_32 ?_
    refine zv_bipush (pc := 33) (v := 20) C (by decide) dX6_common_33 ?_
    refine zv_ci0 (pc := 35) (ws' := (fun uz : Unit => (zd_X6_common cI adM qM1 qM2 qM3 qM4 qM5 qM6 qM7 qM8 qM12 qM13 qM15 qM16 qM17 qM18 qM19 qM20 qM21 M))) C (zv_runV (As := [.int (20 : Int32)]) (b := adM) (rest := []) (ci := 5) (q0 := 0) C (zc_X6_isEven l G cI adM qM1 qM2 qM3 qM4 qM5 qM6 qM7 qM8 qM12 qM13 qM15 qM16 qM17 qM18 qM19 qM20 qM21 M (20 : Int32) _ hF) (cwV 1 C.2.2.2.2.1 gX6_common_X6_isEven rfl rfl rfl zy_X6_isEven ⟨Nat.le_of_ble_eq_true rfl, Nat.le_of_ble_eq_true rfl⟩) rfl rfl rfl rfl rfl (Nat.le_of_ble_eq_true rfl) ⟨Nat.zero_le _, Nat.zero_le _⟩ dX6_common_35) [0, 1, 2, 3, 4, 5, 6, 7, 8, 9, 10, 11, 12, 13, 14, 15, 16, 17] [] rfl rfl rfl rfl rfl (fun _ => rfl) (fun _ => rfl) (fun _ => rfl) (fun v_7 uz hF => ?_)
    refine zv_if_eq (pc := 38) (tgt := 68) C dX6_common_38 (by decide) (fun c_8 => ?_) (fun c_8 => ?_)
    · replace hF := And.left hF c_8
      exact zv_lvs [0, 1] rfl (hK68 p3 M hF)
    · replace hF := And.right hF c_8
      refine zv_aload_n (pc := 41) C rfl 0 rfl dX6_common_41 ?_
      refine zv_bipush (pc := 42) (v := 21) C (by decide) dX6_common_42 ?_
      refine zv_ci0 (pc := 44) (ws' := (fun uz : Unit => (zd_X6_common cI adM qM1 qM2 qM3 qM4 qM5 qM6 qM7 qM8 qM12 qM13 qM15 qM16 qM17 qM18 qM19 qM20 qM21 M))) C (zv_runV (As := [.int (21 : Int32)]) (b := adM) (rest := []) (ci := 5) (q0 := 0) C (zc_X6_isEven l G cI adM qM1 qM2 qM3 qM4 qM5 qM6 qM7 qM8 qM12 qM13 qM15 qM16 qM17 qM18 qM19 qM20 qM21 M (21 : Int32) _ hF) (cwV 1 C.2.2.2.2.1 gX6_common_X6_isEven rfl rfl rfl zy_X6_isEven ⟨Nat.le_of_ble_eq_true rfl, Nat.le_of_ble_eq_true rfl⟩) rfl rfl rfl rfl rfl (Nat.le_of_ble_eq_true rfl) ⟨Nat.zero_le _, Nat.zero_le _⟩ dX6_common_44) [0, 1, 2, 3, 4, 5, 6, 7, 8, 9, 10, 11, 12, 13, 14, 15, 16, 17] [] rfl rfl rfl rfl rfl (fun _ => rfl) (fun _ => rfl) (fun _ => rfl) (fun v_9 uz hF => ?_)
      refine zv_if_eq (pc := 47) (tgt := 68) C dX6_common_47 (by decide) (fun c_10 => ?_) (fun c_10 => ?_)
      · replace hF := And.left hF c_10
        exact zv_lvs [0, 1] rfl (hK68 p3 M hF)
      · replace hF := And.right hF c_10
        refine zv_aload_n (pc := 50) C rfl 0 rfl dX6_common_50 ?_
        refine zv_bipush (pc := 51) (v := 20) C (by decide) dX6_common_51 ?_
        refine zv_cv0 (pc := 53) (ws' := (fun uz : zMem => (zd_X6_common cI adM qM1 qM2 qM3 qM4 qM5 qM6 qM7 qM8 qM12 qM13 qM15 qM16 qM17 qM18 qM19 qM20 qM21 uz))) C (zv_runV (As := [.int (20 : Int32)]) (b := adM) (rest := []) (ci := 5) (q0 := 0) C (zc_X6_halve l G cI adM qM1 qM2 qM3 qM4 qM5 qM6 qM7 qM8 qM12 qM13 qM15 qM16 qM17 qM18 qM19 qM20 qM21 M (20 : Int32) _ hF) (cwV 1 C.2.2.2.2.1 gX6_common_X6_halve rfl rfl rfl zy_X6_halve ⟨Nat.le_of_ble_eq_true rfl, Nat.le_of_ble_eq_true rfl⟩) rfl rfl rfl rfl rfl (Nat.le_of_ble_eq_true rfl) ⟨Nat.zero_le _, Nat.zero_le _⟩ dX6_common_53) [0, 1, 2, 3, 4, 5, 6, 7, 8, 9, 10, 11, 12, 13, 14, 15, 16, 17] [] rfl rfl rfl rfl rfl (fun _ => rfl) (fun _ => rfl) (fun _ => rfl) (fun uz hF => ?_)
        obtain ⟨T_11, hE⟩ : ∃ z, z = uz := ⟨_, rfl⟩; subst hE
        refine zv_aload_n (pc := 56) C rfl 0 rfl dX6_common_56 ?_
        refine zv_bipush (pc := 57) (v := 21) C (by decide) dX6_common_57 ?_
        refine zv_cv0 (pc := 59) (ws' := (fun uz : zMem => (zd_X6_common cI adM qM1 qM2 qM3 qM4 qM5 qM6 qM7 qM8 qM12 qM13 qM15 qM16 qM17 qM18 qM19 qM20 qM21 uz))) C (zv_runV (As := [.int (21 : Int32)]) (b := adM) (rest := []) (ci := 5) (q0 := 0) C (zc_X6_halve l G cI adM qM1 qM2 qM3 qM4 qM5 qM6 qM7 qM8 qM12 qM13 qM15 qM16 qM17 qM18 qM19 qM20 qM21 T_11 (21 : Int32) _ hF) (cwV 1 C.2.2.2.2.1 gX6_common_X6_halve rfl rfl rfl zy_X6_halve ⟨Nat.le_of_ble_eq_true rfl, Nat.le_of_ble_eq_true rfl⟩) rfl rfl rfl rfl rfl (Nat.le_of_ble_eq_true rfl) ⟨Nat.zero_le _, Nat.zero_le _⟩ dX6_common_59) [0, 1, 2, 3, 4, 5, 6, 7, 8, 9, 10, 11, 12, 13, 14, 15, 16, 17] [] rfl rfl rfl rfl rfl (fun _ => rfl) (fun _ => rfl) (fun _ => rfl) (fun uz hF => ?_)
        obtain ⟨T_12, hE⟩ : ∃ z, z = uz := ⟨_, rfl⟩; subst hE
        obtain ⟨x3_13, ex3_13⟩ : ∃ y : Int32, y = p3 + (1 : Int32) := ⟨_, rfl⟩
        replace hF := hF x3_13 ex3_13
        refine zv_iinc (pc := 62) (v := x3_13) (lv' := [(3, .int x3_13), (0, .ref adM)]) C 1 rfl (by rw [ex3_13]; rfl) (by decide) rfl dX6_common_62 ?_
        refine zv_goto (pc := 65) (tgt := 32) C dX6_common_65 (by decide) ?_
        exact zv_lvs [1, 0] rfl (ih x3_13 T_12 hF)
set_option maxHeartbeats 4000000 in
set_option maxRecDepth 100000 in
theorem zl_X6_common_78 {p : Program} {l : Launch} {e : Env} {s : State} {m : MethodId} {args : Array Value} {below : List Frame} {meth : Method} {c : Code} {G : va_G} {cI : ClassId} {A : Nat → Prop} {Q : State → Prop} (adM qM1 qM2 qM3 qM4 qM5 qM6 qM7 qM8 qM12 qM13 qM15 qM16 qM17 qM18 qM19 qM20 qM21 : Nat) (c3 : Int32) (K96 : zMem → Prop) (C : zv_C p s m args c cX6_common 5 RX6 wsX6_common G cI A) (hK96 : ∀ (M : zMem), K96 M → zv_V p l e (headSpec wsX6_common rmX6_common).room s m args below meth c Q G A 5 0 0 (zd_X6_common cI adM qM1 qM2 qM3 qM4 qM5 qM6 qM7 qM8 qM12 qM13 qM15 qM16 qM17 qM18 qM19 qM20 qM21 M) 96 [(0, .ref adM), (3, .int c3)] []) : ∀ (k : Nat) (M : zMem), zw_X6_common_78 c3 K96 k M → zv_V p l e (headSpec wsX6_common rmX6_common).room s m args below meth c Q G A 5 0 0 (zd_X6_common cI adM qM1 qM2 qM3 qM4 qM5 qM6 qM7 qM8 qM12 qM13 qM15 qM16 qM17 qM18 qM19 qM20 qM21 M) 78 [(0, .ref adM), (3, .int c3)] [] := by
  intro k
  induction k with
  | zero => intro M hF; exact (show False from hF).elim
  | succ k ih =>
    intro M hF
    refine zv_aload_n (pc := 78) C rfl 0 rfl dX6_common_78 ?_
    refine zv_bipush (pc := 79) (v := 20) C (by decide) dX6_common_79 ?_
    refine zv_ci0 (pc := 81) (ws' := (fun uz : Unit => (zd_X6_common cI adM qM1 qM2 qM3 qM4 qM5 qM6 qM7 qM8 qM12 qM13 qM15 qM16 qM17 qM18 qM19 qM20 qM21 M))) C (zv_runV (As := [.int (20 : Int32)]) (b := adM) (rest := []) (ci := 5) (q0 := 0) C (zc_X6_isEven l G cI adM qM1 qM2 qM3 qM4 qM5 qM6 qM7 qM8 qM12 qM13 qM15 qM16 qM17 qM18 qM19 qM20 qM21 M (20 : Int32) _ hF) (cwV 1 C.2.2.2.2.1 gX6_common_X6_isEven rfl rfl rfl zy_X6_isEven ⟨Nat.le_of_ble_eq_true rfl, Nat.le_of_ble_eq_true rfl⟩) rfl rfl rfl rfl rfl (Nat.le_of_ble_eq_true rfl) ⟨Nat.zero_le _, Nat.zero_le _⟩ dX6_common_81) [0, 1, 2, 3, 4, 5, 6, 7, 8, 9, 10, 11, 12, 13, 14, 15, 16, 17] [] rfl rfl rfl rfl rfl (fun _ => rfl) (fun _ => rfl) (fun _ => rfl) (fun v_18 uz hF => ?_)
    refine zv_if_eq (pc := 84) (tgt := 96) C dX6_common_84 (by decide) (fun c_19 => ?_) (fun c_19 => ?_)
    · replace hF := And.left hF c_19
      exact zv_lvs [0, 1] rfl (hK96 M hF)
    · replace hF := And.right hF c_19
      refine zv_aload_n (pc := 87) C rfl 0 rfl dX6_common_87 ?_
      refine zv_bipush (pc := 88) (v := 20) C (by decide) dX6_common_88 ?_
      refine zv_cv0 (pc := 90) (ws' := (fun uz : zMem => (zd_X6_common cI adM qM1 qM2 qM3 qM4 qM5 qM6 qM7 qM8 qM12 qM13 qM15 qM16 qM17 qM18 qM19 qM20 qM21 uz))) C (zv_runV (As := [.int (20 : Int32)]) (b := adM) (rest := []) (ci := 5) (q0 := 0) C (zc_X6_halve l G cI adM qM1 qM2 qM3 qM4 qM5 qM6 qM7 qM8 qM12 qM13 qM15 qM16 qM17 qM18 qM19 qM20 qM21 M (20 : Int32) _ hF) (cwV 1 C.2.2.2.2.1 gX6_common_X6_halve rfl rfl rfl zy_X6_halve ⟨Nat.le_of_ble_eq_true rfl, Nat.le_of_ble_eq_true rfl⟩) rfl rfl rfl rfl rfl (Nat.le_of_ble_eq_true rfl) ⟨Nat.zero_le _, Nat.zero_le _⟩ dX6_common_90) [0, 1, 2, 3, 4, 5, 6, 7, 8, 9, 10, 11, 12, 13, 14, 15, 16, 17] [] rfl rfl rfl rfl rfl (fun _ => rfl) (fun _ => rfl) (fun _ => rfl) (fun uz hF => ?_)
      obtain ⟨T_20, hE⟩ : ∃ z, z = uz := ⟨_, rfl⟩; subst hE
      refine zv_goto (pc := 93) (tgt := 78) C dX6_common_93 (by decide) ?_
      exact zv_lvs [0, 1] rfl (ih T_20 hF)
set_option maxHeartbeats 4000000 in
set_option maxRecDepth 100000 in
theorem zl_X6_common_96 {p : Program} {l : Launch} {e : Env} {s : State} {m : MethodId} {args : Array Value} {below : List Frame} {meth : Method} {c : Code} {G : va_G} {cI : ClassId} {A : Nat → Prop} {Q : State → Prop} (adM qM1 qM2 qM3 qM4 qM5 qM6 qM7 qM8 qM12 qM13 qM15 qM16 qM17 qM18 qM19 qM20 qM21 : Nat) (c3 : Int32) (K114 : zMem → Prop) (C : zv_C p s m args c cX6_common 5 RX6 wsX6_common G cI A) (hK114 : ∀ (M : zMem), K114 M → zv_V p l e (headSpec wsX6_common rmX6_common).room s m args below meth c Q G A 5 0 0 (zd_X6_common cI adM qM1 qM2 qM3 qM4 qM5 qM6 qM7 qM8 qM12 qM13 qM15 qM16 qM17 qM18 qM19 qM20 qM21 M) 114 [(0, .ref adM), (3, .int c3)] []) : ∀ (k : Nat) (M : zMem), zw_X6_common_96 c3 K114 k M → zv_V p l e (headSpec wsX6_common rmX6_common).room s m args below meth c Q G A 5 0 0 (zd_X6_common cI adM qM1 qM2 qM3 qM4 qM5 qM6 qM7 qM8 qM12 qM13 qM15 qM16 qM17 qM18 qM19 qM20 qM21 M) 96 [(0, .ref adM), (3, .int c3)] [] := by
  intro k
  induction k with
  | zero => intro M hF; exact (show False from hF).elim
  | succ k ih =>
    intro M hF
    refine zv_aload_n (pc := 96) C rfl 0 rfl dX6_common_96 ?_
    refine zv_bipush (pc := 97) (v := 21) C (by decide) dX6_common_97 ?_
    refine zv_ci0 (pc := 99) (ws' := (fun uz : Unit => (zd_X6_common cI adM qM1 qM2 qM3 qM4 qM5 qM6 qM7 qM8 qM12 qM13 qM15 qM16 qM17 qM18 qM19 qM20 qM21 M))) C (zv_runV (As := [.int (21 : Int32)]) (b := adM) (rest := []) (ci := 5) (q0 := 0) C (zc_X6_isEven l G cI adM qM1 qM2 qM3 qM4 qM5 qM6 qM7 qM8 qM12 qM13 qM15 qM16 qM17 qM18 qM19 qM20 qM21 M (21 : Int32) _ hF) (cwV 1 C.2.2.2.2.1 gX6_common_X6_isEven rfl rfl rfl zy_X6_isEven ⟨Nat.le_of_ble_eq_true rfl, Nat.le_of_ble_eq_true rfl⟩) rfl rfl rfl rfl rfl (Nat.le_of_ble_eq_true rfl) ⟨Nat.zero_le _, Nat.zero_le _⟩ dX6_common_99) [0, 1, 2, 3, 4, 5, 6, 7, 8, 9, 10, 11, 12, 13, 14, 15, 16, 17] [] rfl rfl rfl rfl rfl (fun _ => rfl) (fun _ => rfl) (fun _ => rfl) (fun v_22 uz hF => ?_)
    refine zv_if_eq (pc := 102) (tgt := 114) C dX6_common_102 (by decide) (fun c_23 => ?_) (fun c_23 => ?_)
    · replace hF := And.left hF c_23
      exact zv_lvs [0, 1] rfl (hK114 M hF)
    · replace hF := And.right hF c_23
      refine zv_aload_n (pc := 105) C rfl 0 rfl dX6_common_105 ?_
      refine zv_bipush (pc := 106) (v := 21) C (by decide) dX6_common_106 ?_
      refine zv_cv0 (pc := 108) (ws' := (fun uz : zMem => (zd_X6_common cI adM qM1 qM2 qM3 qM4 qM5 qM6 qM7 qM8 qM12 qM13 qM15 qM16 qM17 qM18 qM19 qM20 qM21 uz))) C (zv_runV (As := [.int (21 : Int32)]) (b := adM) (rest := []) (ci := 5) (q0 := 0) C (zc_X6_halve l G cI adM qM1 qM2 qM3 qM4 qM5 qM6 qM7 qM8 qM12 qM13 qM15 qM16 qM17 qM18 qM19 qM20 qM21 M (21 : Int32) _ hF) (cwV 1 C.2.2.2.2.1 gX6_common_X6_halve rfl rfl rfl zy_X6_halve ⟨Nat.le_of_ble_eq_true rfl, Nat.le_of_ble_eq_true rfl⟩) rfl rfl rfl rfl rfl (Nat.le_of_ble_eq_true rfl) ⟨Nat.zero_le _, Nat.zero_le _⟩ dX6_common_108) [0, 1, 2, 3, 4, 5, 6, 7, 8, 9, 10, 11, 12, 13, 14, 15, 16, 17] [] rfl rfl rfl rfl rfl (fun _ => rfl) (fun _ => rfl) (fun _ => rfl) (fun uz hF => ?_)
      obtain ⟨T_24, hE⟩ : ∃ z, z = uz := ⟨_, rfl⟩; subst hE
      refine zv_goto (pc := 111) (tgt := 96) C dX6_common_111 (by decide) ?_
      exact zv_lvs [0, 1] rfl (ih T_24 hF)
set_option maxHeartbeats 4000000 in
set_option maxRecDepth 100000 in
theorem zl_X6_common_68 {p : Program} {l : Launch} {e : Env} {s : State} {m : MethodId} {args : Array Value} {below : List Frame} {meth : Method} {c : Code} {G : va_G} {cI : ClassId} {A : Nat → Prop} {Q : State → Prop} (adM qM1 qM2 qM3 qM4 qM5 qM6 qM7 qM8 qM12 qM13 qM15 qM16 qM17 qM18 qM19 qM20 qM21 : Nat) (c3 : Int32) (K162 : zMem → Prop) (C : zv_C p s m args c cX6_common 5 RX6 wsX6_common G cI A) (hK162 : ∀ (M : zMem), K162 M → zv_V p l e (headSpec wsX6_common rmX6_common).room s m args below meth c Q G A 5 0 0 (zd_X6_common cI adM qM1 qM2 qM3 qM4 qM5 qM6 qM7 qM8 qM12 qM13 qM15 qM16 qM17 qM18 qM19 qM20 qM21 M) 162 [(0, .ref adM), (3, .int c3)] []) : ∀ (k : Nat) (M : zMem), zw_X6_common_68 c3 K162 k M → zv_V p l e (headSpec wsX6_common rmX6_common).room s m args below meth c Q G A 5 0 0 (zd_X6_common cI adM qM1 qM2 qM3 qM4 qM5 qM6 qM7 qM8 qM12 qM13 qM15 qM16 qM17 qM18 qM19 qM20 qM21 M) 68 [(0, .ref adM), (3, .int c3)] [] := by
  intro k
  induction k with
  | zero => intro M hF; exact (show False from hF).elim
  | succ k ih =>
    intro M hF
    refine zv_aload_n (pc := 68) C rfl 0 rfl dX6_common_68 ?_
    refine zv_get (pc := 69) (CC := RX6) (T := TX6) (N := 22) (ci := 5) (v := .ref qM21) C zi_X6_common_X6 0 rfl 21 (by decide) zf_X6_common_62 rfl rfl dX6_common_69 ?_
    refine zv_bipush (pc := 72) (v := 21) C (by decide) dX6_common_72 ?_
    obtain ⟨h_16, hF⟩ := hF
    refine zv_iald (pc := 74) (n := 60) (f := (M 21)) C 17 h_16 rfl dX6_common_74 ?_
    refine zv_if_eq (pc := 75) (tgt := 162) C dX6_common_75 (by decide) (fun c_17 => ?_) (fun c_17 => ?_)
    · replace hF := And.left hF c_17
      exact zv_lvs [0, 1] rfl (hK162 M hF)
    · replace hF := And.right hF c_17
      obtain ⟨kf, hF⟩ := hF
      refine zv_lvs [0, 1] rfl (zl_X6_common_78 adM qM1 qM2 qM3 qM4 qM5 qM6 qM7 qM8 qM12 qM13 qM15 qM16 qM17 qM18 qM19 qM20 qM21 c3 _ C ?_ kf M hF)
      · intro T_21 hF
        obtain ⟨kf, hF⟩ := hF
        refine zv_lvs [0, 1] rfl (zl_X6_common_96 adM qM1 qM2 qM3 qM4 qM5 qM6 qM7 qM8 qM12 qM13 qM15 qM16 qM17 qM18 qM19 qM20 qM21 c3 _ C ?_ kf T_21 hF)
        · intro T_25 hF
          refine zv_aload_n (pc := 114) C rfl 0 rfl dX6_common_114 ?_
          refine zv_bipush (pc := 115) (v := 20) C (by decide) dX6_common_115 ?_
          refine zv_bipush (pc := 117) (v := 21) C (by decide) dX6_common_117 ?_
          refine zv_ci0 (pc := 119) (ws' := (fun uz : Unit => (zd_X6_common cI adM qM1 qM2 qM3 qM4 qM5 qM6 qM7 qM8 qM12 qM13 qM15 qM16 qM17 qM18 qM19 qM20 qM21 T_25))) C (zv_runV (As := [.int (20 : Int32), .int (21 : Int32)]) (b := adM) (rest := []) (ci := 5) (q0 := 0) C (zc_X6_compareSizes l G cI adM qM1 qM2 qM3 qM4 qM5 qM6 qM7 qM8 qM12 qM13 qM15 qM16 qM17 qM18 qM19 qM20 qM21 T_25 (20 : Int32) (21 : Int32) _ hF) (cwV 2 C.2.2.2.2.1 gX6_common_X6_compareSizes rfl rfl rfl zy_X6_compareSizes ⟨Nat.le_of_ble_eq_true rfl, Nat.le_of_ble_eq_true rfl⟩) rfl rfl rfl rfl rfl (Nat.le_of_ble_eq_true rfl) ⟨Nat.zero_le _, Nat.zero_le _⟩ dX6_common_119) [0, 1, 2, 3, 4, 5, 6, 7, 8, 9, 10, 11, 12, 13, 14, 15, 16, 17] [] rfl rfl rfl rfl rfl (fun _ => rfl) (fun _ => rfl) (fun _ => rfl) (fun v_26 uz hF => ?_)
          refine zv_if_le (pc := 122) (tgt := 149) C dX6_common_122 (by decide) (fun c_27 => ?_) (fun c_27 => ?_)
          · replace hF := And.left hF c_27
            refine zv_aload_n (pc := 149) C rfl 0 rfl dX6_common_149 ?_
            refine zv_bipush (pc := 150) (v := 21) C (by decide) dX6_common_150 ?_
            refine zv_bipush (pc := 152) (v := 21) C (by decide) dX6_common_152 ?_
            refine zv_bipush (pc := 154) (v := 20) C (by decide) dX6_common_154 ?_
            refine zv_cv0 (pc := 156) (ws' := (fun uz : zMem => (zd_X6_common cI adM qM1 qM2 qM3 qM4 qM5 qM6 qM7 qM8 qM12 qM13 qM15 qM16 qM17 qM18 qM19 qM20 qM21 uz))) C (zv_runV (As := [.int (21 : Int32), .int (21 : Int32), .int (20 : Int32)]) (b := adM) (rest := []) (ci := 5) (q0 := 0) C (zc_X6_minus l G cI adM qM1 qM2 qM3 qM4 qM5 qM6 qM7 qM8 qM12 qM13 qM15 qM16 qM17 qM18 qM19 qM20 qM21 T_25 (21 : Int32) (21 : Int32) (20 : Int32) _ hF) (cwV 3 C.2.2.2.2.1 gX6_common_X6_minus rfl rfl rfl zy_X6_minus ⟨Nat.le_of_ble_eq_true rfl, Nat.le_of_ble_eq_true rfl⟩) rfl rfl rfl rfl rfl (Nat.le_of_ble_eq_true rfl) ⟨Nat.zero_le _, Nat.zero_le _⟩ dX6_common_156) [0, 1, 2, 3, 4, 5, 6, 7, 8, 9, 10, 11, 12, 13, 14, 15, 16, 17] [] rfl rfl rfl rfl rfl (fun _ => rfl) (fun _ => rfl) (fun _ => rfl) (fun uz hF => ?_)
            obtain ⟨T_28, hE⟩ : ∃ z, z = uz := ⟨_, rfl⟩; subst hE
            refine zv_goto (pc := 159) (tgt := 68) C dX6_common_159 (by decide) ?_
            exact zv_lvs [0, 1] rfl (ih T_28 hF)
          · replace hF := And.right hF c_27
            refine zv_aload_n (pc := 125) C rfl 0 rfl dX6_common_125 ?_
            refine zv_bipush (pc := 126) (v := 22) C (by decide) dX6_common_126 ?_
            refine zv_bipush (pc := 128) (v := 20) C (by decide) dX6_common_128 ?_
            refine zv_cv0 (pc := 130) (ws' := (fun uz : zMem => (zd_X6_common cI adM qM1 qM2 qM3 qM4 qM5 qM6 qM7 qM8 qM12 qM13 qM15 qM16 qM17 qM18 qM19 qM20 qM21 uz))) C (zv_runV (As := [.int (22 : Int32), .int (20 : Int32)]) (b := adM) (rest := []) (ci := 5) (q0 := 0) C (zc_X6_copy l G cI adM qM1 qM2 qM3 qM4 qM5 qM6 qM7 qM8 qM12 qM13 qM15 qM16 qM17 qM18 qM19 qM20 qM21 T_25 (22 : Int32) (20 : Int32) _ hF) (cwV 2 C.2.2.2.2.1 gX6_common_X6_copy rfl rfl rfl zy_X6_copy ⟨Nat.le_of_ble_eq_true rfl, Nat.le_of_ble_eq_true rfl⟩) rfl rfl rfl rfl rfl (Nat.le_of_ble_eq_true rfl) ⟨Nat.zero_le _, Nat.zero_le _⟩ dX6_common_130) [0, 1, 2, 3, 4, 5, 6, 7, 8, 9, 10, 11, 12, 13, 14, 15, 16, 17] [] rfl rfl rfl rfl rfl (fun _ => rfl) (fun _ => rfl) (fun _ => rfl) (fun uz hF => ?_)
            obtain ⟨T_29, hE⟩ : ∃ z, z = uz := ⟨_, rfl⟩; subst hE
            refine zv_aload_n (pc := 133) C rfl 0 rfl dX6_common_133 ?_
            refine zv_bipush (pc := 134) (v := 20) C (by decide) dX6_common_134 ?_
            refine zv_bipush (pc := 136) (v := 21) C (by decide) dX6_common_136 ?_
            refine zv_cv0 (pc := 138) (ws' := (fun uz : zMem => (zd_X6_common cI adM qM1 qM2 qM3 qM4 qM5 qM6 qM7 qM8 qM12 qM13 qM15 qM16 qM17 qM18 qM19 qM20 qM21 uz))) C (zv_runV (As := [.int (20 : Int32), .int (21 : Int32)]) (b := adM) (rest := []) (ci := 5) (q0 := 0) C (zc_X6_copy l G cI adM qM1 qM2 qM3 qM4 qM5 qM6 qM7 qM8 qM12 qM13 qM15 qM16 qM17 qM18 qM19 qM20 qM21 T_29 (20 : Int32) (21 : Int32) _ hF) (cwV 2 C.2.2.2.2.1 gX6_common_X6_copy rfl rfl rfl zy_X6_copy ⟨Nat.le_of_ble_eq_true rfl, Nat.le_of_ble_eq_true rfl⟩) rfl rfl rfl rfl rfl (Nat.le_of_ble_eq_true rfl) ⟨Nat.zero_le _, Nat.zero_le _⟩ dX6_common_138) [0, 1, 2, 3, 4, 5, 6, 7, 8, 9, 10, 11, 12, 13, 14, 15, 16, 17] [] rfl rfl rfl rfl rfl (fun _ => rfl) (fun _ => rfl) (fun _ => rfl) (fun uz hF => ?_)
            obtain ⟨T_30, hE⟩ : ∃ z, z = uz := ⟨_, rfl⟩; subst hE
            refine zv_aload_n (pc := 141) C rfl 0 rfl dX6_common_141 ?_
            refine zv_bipush (pc := 142) (v := 21) C (by decide) dX6_common_142 ?_
            refine zv_bipush (pc := 144) (v := 22) C (by decide) dX6_common_144 ?_
            refine zv_cv0 (pc := 146) (ws' := (fun uz : zMem => (zd_X6_common cI adM qM1 qM2 qM3 qM4 qM5 qM6 qM7 qM8 qM12 qM13 qM15 qM16 qM17 qM18 qM19 qM20 qM21 uz))) C (zv_runV (As := [.int (21 : Int32), .int (22 : Int32)]) (b := adM) (rest := []) (ci := 5) (q0 := 0) C (zc_X6_copy l G cI adM qM1 qM2 qM3 qM4 qM5 qM6 qM7 qM8 qM12 qM13 qM15 qM16 qM17 qM18 qM19 qM20 qM21 T_30 (21 : Int32) (22 : Int32) _ hF) (cwV 2 C.2.2.2.2.1 gX6_common_X6_copy rfl rfl rfl zy_X6_copy ⟨Nat.le_of_ble_eq_true rfl, Nat.le_of_ble_eq_true rfl⟩) rfl rfl rfl rfl rfl (Nat.le_of_ble_eq_true rfl) ⟨Nat.zero_le _, Nat.zero_le _⟩ dX6_common_146) [0, 1, 2, 3, 4, 5, 6, 7, 8, 9, 10, 11, 12, 13, 14, 15, 16, 17] [] rfl rfl rfl rfl rfl (fun _ => rfl) (fun _ => rfl) (fun _ => rfl) (fun uz hF => ?_)
            obtain ⟨T_31, hE⟩ : ∃ z, z = uz := ⟨_, rfl⟩; subst hE
            refine zv_aload_n (pc := 149) C rfl 0 rfl dX6_common_149 ?_
            refine zv_bipush (pc := 150) (v := 21) C (by decide) dX6_common_150 ?_
            refine zv_bipush (pc := 152) (v := 21) C (by decide) dX6_common_152 ?_
            refine zv_bipush (pc := 154) (v := 20) C (by decide) dX6_common_154 ?_
            refine zv_cv0 (pc := 156) (ws' := (fun uz : zMem => (zd_X6_common cI adM qM1 qM2 qM3 qM4 qM5 qM6 qM7 qM8 qM12 qM13 qM15 qM16 qM17 qM18 qM19 qM20 qM21 uz))) C (zv_runV (As := [.int (21 : Int32), .int (21 : Int32), .int (20 : Int32)]) (b := adM) (rest := []) (ci := 5) (q0 := 0) C (zc_X6_minus l G cI adM qM1 qM2 qM3 qM4 qM5 qM6 qM7 qM8 qM12 qM13 qM15 qM16 qM17 qM18 qM19 qM20 qM21 T_31 (21 : Int32) (21 : Int32) (20 : Int32) _ hF) (cwV 3 C.2.2.2.2.1 gX6_common_X6_minus rfl rfl rfl zy_X6_minus ⟨Nat.le_of_ble_eq_true rfl, Nat.le_of_ble_eq_true rfl⟩) rfl rfl rfl rfl rfl (Nat.le_of_ble_eq_true rfl) ⟨Nat.zero_le _, Nat.zero_le _⟩ dX6_common_156) [0, 1, 2, 3, 4, 5, 6, 7, 8, 9, 10, 11, 12, 13, 14, 15, 16, 17] [] rfl rfl rfl rfl rfl (fun _ => rfl) (fun _ => rfl) (fun _ => rfl) (fun uz hF => ?_)
            obtain ⟨T_32, hE⟩ : ∃ z, z = uz := ⟨_, rfl⟩; subst hE
            refine zv_goto (pc := 159) (tgt := 68) C dX6_common_159 (by decide) ?_
            exact zv_lvs [0, 1] rfl (ih T_32 hF)
set_option maxHeartbeats 4000000 in
set_option maxRecDepth 100000 in
theorem zl_X6_common_165 {p : Program} {l : Launch} {e : Env} {s : State} {m : MethodId} {args : Array Value} {below : List Frame} {meth : Method} {c : Code} {G : va_G} {cI : ClassId} {A : Nat → Prop} {Q : State → Prop} (adM qM1 qM2 qM3 qM4 qM5 qM6 qM7 qM8 qM12 qM13 qM15 qM16 qM17 qM18 qM19 qM20 qM21 : Nat) (c3 : Int32) (K187 : zMem → Prop) (C : zv_C p s m args c cX6_common 5 RX6 wsX6_common G cI A) (hK187 : ∀ (M : zMem), K187 M → zv_V p l e (headSpec wsX6_common rmX6_common).room s m args below meth c Q G A 5 0 0 (zd_X6_common cI adM qM1 qM2 qM3 qM4 qM5 qM6 qM7 qM8 qM12 qM13 qM15 qM16 qM17 qM18 qM19 qM20 qM21 M) 187 [] []) : ∀ (k : Nat) (p4 : Int32) (M : zMem), zw_X6_common_165 c3 K187 k p4 M → zv_V p l e (headSpec wsX6_common rmX6_common).room s m args below meth c Q G A 5 0 0 (zd_X6_common cI adM qM1 qM2 qM3 qM4 qM5 qM6 qM7 qM8 qM12 qM13 qM15 qM16 qM17 qM18 qM19 qM20 qM21 M) 165 [(0, .ref adM), (3, .int c3), (4, .int p4)] [] := by
  intro k
  induction k with
  | zero => intro p4 M hF; exact (show False from hF).elim
  | succ k ih =>
    intro p4 M hF
    refine zv_iload (pc := 165) C 2 rfl dX6_common_165 ?_
    refine zv_iload_n (pc := 167) C rfl 1 rfl dX6_common_167 ?_
    refine zv_icmp_ge (pc := 168) (tgt := 187) C dX6_common_168 (by decide) (fun c_34 => ?_) (fun c_34 => ?_)
    · replace hF := And.left hF c_34
      exact zv_lvs [] rfl (hK187 M hF)
    · replace hF := And.right hF c_34
      refine zv_aload_n (pc := 171) C rfl 0 rfl dX6_common_171 ?_
      refine zv_bipush (pc := 172) (v := 20) C (by decide) dX6_common_172 ?_
      refine zv_bipush (pc := 174) (v := 20) C (by decide) dX6_common_174 ?_
      refine zv_bipush (pc := 176) (v := 20) C (by decide) dX6_common_176 ?_
      refine zv_cv0 (pc := 178) (ws' := (fun uz : zMem => (zd_X6_common cI adM qM1 qM2 qM3 qM4 qM5 qM6 qM7 qM8 qM12 qM13 qM15 qM16 qM17 qM18 qM19 qM20 qM21 uz))) C (zv_runV (As := [.int (20 : Int32), .int (20 : Int32), .int (20 : Int32)]) (b := adM) (rest := []) (ci := 5) (q0 := 0) C (zc_X6_plus l G cI adM qM1 qM2 qM3 qM4 qM5 qM6 qM7 qM8 qM12 qM13 qM15 qM16 qM17 qM18 qM19 qM20 qM21 M (20 : Int32) (20 : Int32) (20 : Int32) _ hF) (cwV 3 C.2.2.2.2.1 gX6_common_X6_plus rfl rfl rfl zy_X6_plus ⟨Nat.le_of_ble_eq_true rfl, Nat.le_of_ble_eq_true rfl⟩) rfl rfl rfl rfl rfl (Nat.le_of_ble_eq_true rfl) ⟨Nat.zero_le _, Nat.zero_le _⟩ dX6_common_178) [0, 1, 2, 3, 4, 5, 6, 7, 8, 9, 10, 11, 12, 13, 14, 15, 16, 17] [] rfl rfl rfl rfl rfl (fun _ => rfl) (fun _ => rfl) (fun _ => rfl) (fun uz hF => ?_)
      obtain ⟨T_35, hE⟩ : ∃ z, z = uz := ⟨_, rfl⟩; subst hE
      obtain ⟨x4_36, ex4_36⟩ : ∃ y : Int32, y = p4 + (1 : Int32) := ⟨_, rfl⟩
      replace hF := hF x4_36 ex4_36
      refine zv_iinc (pc := 181) (v := x4_36) (lv' := [(4, .int x4_36), (0, .ref adM), (3, .int c3)]) C 2 rfl (by rw [ex4_36]; rfl) (by decide) rfl dX6_common_181 ?_
      refine zv_goto (pc := 184) (tgt := 165) C dX6_common_184 (by decide) ?_
      exact zv_lvs [1, 2, 0] rfl (ih x4_36 T_35 hF)
set_option maxHeartbeats 4000000 in
set_option maxRecDepth 100000 in
theorem zc_X6_common (l : Launch) (G : va_G) (cI : ClassId) (adM qM1 qM2 qM3 qM4 qM5 qM6 qM7 qM8 qM12 qM13 qM15 qM16 qM17 qM18 qM19 qM20 qM21 : Nat) (M : zMem) (a1 : Int32) (a2 : Int32) (post : zMem → Prop) (hF : zw_X6_common M a1 a2 post) (sz : Nat) : Met l yX6_common wsX6_common rmX6_common (va_Pc [.ref adM, .int a1, .int a2] (zv_in G cI (zd_X6_common cI adM qM1 qM2 qM3 qM4 qM5 qM6 qM7 qM8 qM12 qM13 qM15 qM16 qM17 qM18 qM19 qM20 qM21 M) sz)) (va_Qv (fun uz : zMem => post uz) (fun (uz : zMem) t => zv_out G cI (va_A (zd_X6_common cI adM qM1 qM2 qM3 qM4 qM5 qM6 qM7 qM8 qM12 qM13 qM15 qM16 qM17 qM18 qM19 qM20 qM21 M) sz) (zd_X6_common cI adM qM1 qM2 qM3 qM4 qM5 qM6 qM7 qM8 qM12 qM13 qM15 qM16 qM17 qM18 qM19 qM20 qM21 uz) t) (va_A (zd_X6_common cI adM qM1 qM2 qM3 qM4 qM5 qM6 qM7 qM8 qM12 qM13 qM15 qM16 qM17 qM18 qM19 qM20 qM21 M) sz)) 0 0 (va_A (zd_X6_common cI adM qM1 qM2 qM3 qM4 qM5 qM6 qM7 qM8 qM12 qM13 qM15 qM16 qM17 qM18 qM19 qM20 qM21 M) sz) := by
  refine zv_met (cc := cX6_common) (maxL := 5) (ret := none) (lv0 := [(0, .ref adM), (1, .int a1), (2, .int a2)]) (Qc := fun A => va_Qv (fun uz : zMem => post uz) (fun (uz : zMem) t => zv_out G cI A (zd_X6_common cI adM qM1 qM2 qM3 qM4 qM5 qM6 qM7 qM8 qM12 qM13 qM15 qM16 qM17 qM18 qM19 qM20 qM21 uz) t) A) (by decide) rfl (Nat.le_of_ble_eq_true rfl) rfl ?_ sz
  intro p e s m below meth c A C hr hlk
  clear sz
  refine zv_aload_n (pc := 0) C rfl 0 rfl dX6_common_0 ?_
  refine zv_bipush (pc := 1) (v := 20) C (by decide) dX6_common_1 ?_
  refine zv_iload_n (pc := 3) C rfl 1 rfl dX6_common_3 ?_
  refine zv_cv0 (pc := 4) (ws' := (fun uz : zMem => (zd_X6_common cI adM qM1 qM2 qM3 qM4 qM5 qM6 qM7 qM8 qM12 qM13 qM15 qM16 qM17 qM18 qM19 qM20 qM21 uz))) C (zv_runV (As := [.int (20 : Int32), .int a1]) (b := adM) (rest := []) (ci := 5) (q0 := 0) C (zc_X6_copy l G cI adM qM1 qM2 qM3 qM4 qM5 qM6 qM7 qM8 qM12 qM13 qM15 qM16 qM17 qM18 qM19 qM20 qM21 M (20 : Int32) a1 _ hF) (cwV 2 C.2.2.2.2.1 gX6_common_X6_copy rfl rfl rfl zy_X6_copy ⟨Nat.le_of_ble_eq_true rfl, Nat.le_of_ble_eq_true rfl⟩) rfl rfl rfl rfl rfl (Nat.le_of_ble_eq_true rfl) ⟨Nat.zero_le _, Nat.zero_le _⟩ dX6_common_4) [0, 1, 2, 3, 4, 5, 6, 7, 8, 9, 10, 11, 12, 13, 14, 15, 16, 17] [] rfl rfl rfl rfl rfl (fun _ => rfl) (fun _ => rfl) (fun _ => rfl) (fun uz hF => ?_)
  obtain ⟨T_1, hE⟩ : ∃ z, z = uz := ⟨_, rfl⟩; subst hE
  refine zv_aload_n (pc := 7) C rfl 0 rfl dX6_common_7 ?_
  refine zv_bipush (pc := 8) (v := 21) C (by decide) dX6_common_8 ?_
  refine zv_iload_n (pc := 10) C rfl 2 rfl dX6_common_10 ?_
  refine zv_cv0 (pc := 11) (ws' := (fun uz : zMem => (zd_X6_common cI adM qM1 qM2 qM3 qM4 qM5 qM6 qM7 qM8 qM12 qM13 qM15 qM16 qM17 qM18 qM19 qM20 qM21 uz))) C (zv_runV (As := [.int (21 : Int32), .int a2]) (b := adM) (rest := []) (ci := 5) (q0 := 0) C (zc_X6_copy l G cI adM qM1 qM2 qM3 qM4 qM5 qM6 qM7 qM8 qM12 qM13 qM15 qM16 qM17 qM18 qM19 qM20 qM21 T_1 (21 : Int32) a2 _ hF) (cwV 2 C.2.2.2.2.1 gX6_common_X6_copy rfl rfl rfl zy_X6_copy ⟨Nat.le_of_ble_eq_true rfl, Nat.le_of_ble_eq_true rfl⟩) rfl rfl rfl rfl rfl (Nat.le_of_ble_eq_true rfl) ⟨Nat.zero_le _, Nat.zero_le _⟩ dX6_common_11) [0, 1, 2, 3, 4, 5, 6, 7, 8, 9, 10, 11, 12, 13, 14, 15, 16, 17] [] rfl rfl rfl rfl rfl (fun _ => rfl) (fun _ => rfl) (fun _ => rfl) (fun uz hF => ?_)
  obtain ⟨T_2, hE⟩ : ∃ z, z = uz := ⟨_, rfl⟩; subst hE
  refine zv_aload_n (pc := 14) C rfl 0 rfl dX6_common_14 ?_
  refine zv_get (pc := 15) (CC := RX6) (T := TX6) (N := 22) (ci := 5) (v := .ref qM21) C zi_X6_common_X6 0 rfl 21 (by decide) zf_X6_common_62 rfl rfl dX6_common_15 ?_
  refine zv_bipush (pc := 18) (v := 20) C (by decide) dX6_common_18 ?_
  refine zv_iconst (pc := 20) (v := 1) C (by decide) dX6_common_20 ?_
  obtain ⟨h_3, hF⟩ := hF
  obtain ⟨r_4, er_4⟩ : ∃ y : zRow, y = (upd (T_2 21) (Int32.toNatClampNeg (20 : Int32)) (1 : Int32)) := ⟨_, rfl⟩
  replace hF := hF r_4 er_4
  refine zv_iast (pc := 21) (n := 60) (f := (T_2 21)) (ws' := (zd_X6_common cI adM qM1 qM2 qM3 qM4 qM5 qM6 qM7 qM8 qM12 qM13 qM15 qM16 qM17 qM18 qM19 qM20 qM21 (zset T_2 21 r_4))) C 17 h_3 rfl (by rw [er_4]; rfl) dX6_common_21 ?_
  refine zv_aload_n (pc := 22) C rfl 0 rfl dX6_common_22 ?_
  refine zv_get (pc := 23) (CC := RX6) (T := TX6) (N := 22) (ci := 5) (v := .ref qM21) C zi_X6_common_X6 0 rfl 21 (by decide) zf_X6_common_62 rfl rfl dX6_common_23 ?_
  refine zv_bipush (pc := 26) (v := 21) C (by decide) dX6_common_26 ?_
  refine zv_iconst (pc := 28) (v := 1) C (by decide) dX6_common_28 ?_
  obtain ⟨h_5, hF⟩ := hF
  obtain ⟨r_6, er_6⟩ : ∃ y : zRow, y = (upd r_4 (Int32.toNatClampNeg (21 : Int32)) (1 : Int32)) := ⟨_, rfl⟩
  replace hF := hF r_6 er_6
  refine zv_iast (pc := 29) (n := 60) (f := r_4) (ws' := (zd_X6_common cI adM qM1 qM2 qM3 qM4 qM5 qM6 qM7 qM8 qM12 qM13 qM15 qM16 qM17 qM18 qM19 qM20 qM21 (zset T_2 21 r_6))) C 17 h_5 rfl (by rw [er_6]; rfl) dX6_common_29 ?_
  refine zv_iconst (pc := 30) (v := 0) C (by decide) dX6_common_30 ?_
  refine zv_istore_n (pc := 31) (lv' := [(3, .int (0 : Int32)), (0, .ref adM), (1, .int a1), (2, .int a2)]) C rfl (by decide) rfl dX6_common_31 ?_
  obtain ⟨kf, hF⟩ := hF
  refine zv_lvs [1, 0] rfl (zl_X6_common_32 adM qM1 qM2 qM3 qM4 qM5 qM6 qM7 qM8 qM12 qM13 qM15 qM16 qM17 qM18 qM19 qM20 qM21 _ C ?_ kf (0 : Int32) (zset T_2 21 r_6) hF)
  · intro x3_14 T_15 hF
    obtain ⟨kf, hF⟩ := hF
    refine zv_lvs [0, 1] rfl (zl_X6_common_68 adM qM1 qM2 qM3 qM4 qM5 qM6 qM7 qM8 qM12 qM13 qM15 qM16 qM17 qM18 qM19 qM20 qM21 x3_14 _ C ?_ kf T_15 hF)
    · intro T_33 hF
      refine zv_iconst (pc := 162) (v := 0) C (by decide) dX6_common_162 ?_
      refine zv_istore (pc := 163) (lv' := [(4, .int (0 : Int32)), (0, .ref adM), (3, .int x3_14)]) C (by decide) rfl dX6_common_163 ?_
      obtain ⟨kf, hF⟩ := hF
      refine zv_lvs [1, 2, 0] rfl (zl_X6_common_165 adM qM1 qM2 qM3 qM4 qM5 qM6 qM7 qM8 qM12 qM13 qM15 qM16 qM17 qM18 qM19 qM20 qM21 x3_14 _ C ?_ kf (0 : Int32) T_33 hF)
      · intro T_37 hF
        exact zv_vret (pc := 187) C hr hlk T_37 hF rfl dX6_common_187
theorem zf_X6_divide_56 : Cond.fieldLink RX6 56 "GlassStackModel" "limb" "[I" ∈ wsX6_divide := (List.mem_of_getElem? (i := 2) rfl)
theorem zf_X6_divide_59 : Cond.fieldLink RX6 59 "GlassStackModel" "size" "[I" ∈ wsX6_divide := (List.mem_of_getElem? (i := 1) rfl)
theorem zf_X6_divide_62 : Cond.fieldLink RX6 62 "GlassStackModel" "sign" "[I" ∈ wsX6_divide := (List.mem_of_getElem? (i := 3) rfl)
theorem zi_X6_divide_X6 : ∀ w ∈ wsX60, w ∈ wsX6_divide := fun w h => List.mem_cons_of_mem _ (List.mem_append_right _ h)
theorem zy_X6_divide : yX6_divide.cls = RX6 ∧ yX6_divide.cls ≠ "java/lang/invoke/MethodHandle" ∧ yX6_divide.cls ≠ "java/lang/invoke/VarHandle" ∧ (parseMethodDescriptor yX6_divide.desc).map (fun d => d.parameters.length) = some 2 := by decide +kernel
set_option maxHeartbeats 4000000 in
set_option maxRecDepth 100000 in
theorem zl_X6_divide_9 {p : Program} {l : Launch} {e : Env} {s : State} {m : MethodId} {args : Array Value} {below : List Frame} {meth : Method} {c : Code} {G : va_G} {cI : ClassId} {A : Nat → Prop} {Q : State → Prop} (adM qM1 qM2 qM3 qM4 qM5 qM6 qM7 qM8 qM12 qM13 qM15 qM16 qM17 qM18 qM19 qM20 qM21 : Nat) (c1 : Int32) (c2 : Int32) (K36 : zMem → Prop) (C : zv_C p s m args c cX6_divide 4 RX6 wsX6_divide G cI A) (hK36 : ∀ (M : zMem), K36 M → zv_V p l e (headSpec wsX6_divide rmX6_divide).room s m args below meth c Q G A 4 0 0 (zd_X6_divide cI adM qM1 qM2 qM3 qM4 qM5 qM6 qM7 qM8 qM12 qM13 qM15 qM16 qM17 qM18 qM19 qM20 qM21 M) 36 [(0, .ref adM), (1, .int c1), (2, .int c2)] []) : ∀ (k : Nat) (p3 : Int32) (M : zMem), zw_X6_divide_9 c1 c2 K36 k p3 M → zv_V p l e (headSpec wsX6_divide rmX6_divide).room s m args below meth c Q G A 4 0 0 (zd_X6_divide cI adM qM1 qM2 qM3 qM4 qM5 qM6 qM7 qM8 qM12 qM13 qM15 qM16 qM17 qM18 qM19 qM20 qM21 M) 9 [(0, .ref adM), (1, .int c1), (2, .int c2), (3, .int p3)] [] := by
  intro k
  induction k with
  | zero => intro p3 M hF; exact (show False from hF).elim
  | succ k ih =>
    intro p3 M hF
    refine zv_iload_n (pc := 9) C rfl 3 rfl dX6_divide_9 ?_
    refine zv_aload_n (pc := 10) C rfl 0 rfl dX6_divide_10 ?_
    refine zv_get (pc := 11) (CC := RX6) (T := TX6) (N := 22) (ci := 5) (v := .ref qM20) C zi_X6_divide_X6 0 rfl 20 (by decide) zf_X6_divide_59 rfl rfl dX6_divide_11 ?_
    refine zv_iload_n (pc := 14) C rfl 1 rfl dX6_divide_14 ?_
    obtain ⟨h_2, hF⟩ := hF
    refine zv_iald (pc := 15) (n := 60) (f := (M 20)) C 16 h_2 rfl dX6_divide_15 ?_
    refine zv_icmp_ge (pc := 16) (tgt := 36) C dX6_divide_16 (by decide) (fun c_3 => ?_) (fun c_3 => ?_)
    · replace hF := And.left hF c_3
      exact zv_lvs [0, 1, 2] rfl (hK36 M hF)
    · replace hF := And.right hF c_3
      refine zv_aload_n (pc := 19) C rfl 0 rfl dX6_divide_19 ?_
      refine zv_get (pc := 20) (CC := RX6) (T := TX6) (N := 22) (ci := 5) (v := .ref qM19) C zi_X6_divide_X6 0 rfl 19 (by decide) zf_X6_divide_56 rfl rfl dX6_divide_20 ?_
      refine zv_sipush (pc := 23) (v := 4600) C (by decide) dX6_divide_23 ?_
      refine zv_iload_n (pc := 26) C rfl 3 rfl dX6_divide_26 ?_
      refine zv_iadd (pc := 27) C  dX6_divide_27 ?_
      refine zv_iconst (pc := 28) (v := 0) C (by decide) dX6_divide_28 ?_
      obtain ⟨h_4, hF⟩ := hF
      obtain ⟨r_5, er_5⟩ : ∃ y : zRow, y = (upd (M 19) (Int32.toNatClampNeg ((4600 : Int32) + p3)) (0 : Int32)) := ⟨_, rfl⟩
      replace hF := hF r_5 er_5
      refine zv_iast (pc := 29) (n := 12000) (f := (M 19)) (ws' := (zd_X6_divide cI adM qM1 qM2 qM3 qM4 qM5 qM6 qM7 qM8 qM12 qM13 qM15 qM16 qM17 qM18 qM19 qM20 qM21 (zset M 19 r_5))) C 15 h_4 rfl (by rw [er_5]; rfl) dX6_divide_29 ?_
      obtain ⟨x3_6, ex3_6⟩ : ∃ y : Int32, y = p3 + (1 : Int32) := ⟨_, rfl⟩
      replace hF := hF x3_6 ex3_6
      refine zv_iinc (pc := 30) (v := x3_6) (lv' := [(3, .int x3_6), (0, .ref adM), (1, .int c1), (2, .int c2)]) C 3 rfl (by rw [ex3_6]; rfl) (by decide) rfl dX6_divide_30 ?_
      refine zv_goto (pc := 33) (tgt := 9) C dX6_divide_33 (by decide) ?_
      exact zv_lvs [1, 2, 3, 0] rfl (ih x3_6 (zset M 19 r_5) hF)
set_option maxHeartbeats 4000000 in
set_option maxRecDepth 100000 in
theorem zl_X6_divide_48 {p : Program} {l : Launch} {e : Env} {s : State} {m : MethodId} {args : Array Value} {below : List Frame} {meth : Method} {c : Code} {G : va_G} {cI : ClassId} {A : Nat → Prop} {Q : State → Prop} (adM qM1 qM2 qM3 qM4 qM5 qM6 qM7 qM8 qM12 qM13 qM15 qM16 qM17 qM18 qM19 qM20 qM21 : Nat) (c1 : Int32) (c2 : Int32) (K174 : zMem → Prop) (C : zv_C p s m args c cX6_divide 4 RX6 wsX6_divide G cI A) (hK174 : ∀ (M : zMem), K174 M → zv_V p l e (headSpec wsX6_divide rmX6_divide).room s m args below meth c Q G A 4 0 0 (zd_X6_divide cI adM qM1 qM2 qM3 qM4 qM5 qM6 qM7 qM8 qM12 qM13 qM15 qM16 qM17 qM18 qM19 qM20 qM21 M) 174 [(0, .ref adM), (1, .int c1)] []) : ∀ (k : Nat) (p3 : Int32) (M : zMem), zw_X6_divide_48 c1 c2 K174 k p3 M → zv_V p l e (headSpec wsX6_divide rmX6_divide).room s m args below meth c Q G A 4 0 0 (zd_X6_divide cI adM qM1 qM2 qM3 qM4 qM5 qM6 qM7 qM8 qM12 qM13 qM15 qM16 qM17 qM18 qM19 qM20 qM21 M) 48 [(0, .ref adM), (1, .int c1), (2, .int c2), (3, .int p3)] [] := by
  intro k
  induction k with
  | zero => intro p3 M hF; exact (show False from hF).elim
  | succ k ih =>
    intro p3 M hF
    refine zv_iload_n (pc := 48) C rfl 3 rfl dX6_divide_48 ?_
    refine zv_if_lt (pc := 49) (tgt := 174) C dX6_divide_49 (by decide) (fun c_10 => ?_) (fun c_10 => ?_)
    · replace hF := And.left hF c_10
      exact zv_lvs [0, 1] rfl (hK174 M hF)
    · replace hF := And.right hF c_10
      refine zv_aload_n (pc := 52) C rfl 0 rfl dX6_divide_52 ?_
      refine zv_bipush (pc := 53) (v := 22) C (by decide) dX6_divide_53 ?_
      refine zv_bipush (pc := 55) (v := 22) C (by decide) dX6_divide_55 ?_
      refine zv_bipush (pc := 57) (v := 22) C (by decide) dX6_divide_57 ?_
      refine zv_cv0 (pc := 59) (ws' := (fun uz : zMem => (zd_X6_divide cI adM qM1 qM2 qM3 qM4 qM5 qM6 qM7 qM8 qM12 qM13 qM15 qM16 qM17 qM18 qM19 qM20 qM21 uz))) C (zv_runV (As := [.int (22 : Int32), .int (22 : Int32), .int (22 : Int32)]) (b := adM) (rest := []) (ci := 5) (q0 := 0) C (zc_X6_plus l G cI adM qM1 qM2 qM3 qM4 qM5 qM6 qM7 qM8 qM12 qM13 qM15 qM16 qM17 qM18 qM19 qM20 qM21 M (22 : Int32) (22 : Int32) (22 : Int32) _ hF) (cwV 3 C.2.2.2.2.1 gX6_divide_X6_plus rfl rfl rfl zy_X6_plus ⟨Nat.le_of_ble_eq_true rfl, Nat.le_of_ble_eq_true rfl⟩) rfl rfl rfl rfl rfl (Nat.le_of_ble_eq_true rfl) ⟨Nat.zero_le _, Nat.zero_le _⟩ dX6_divide_59) [0, 1, 2, 3, 4, 5, 6, 7, 8, 9, 10, 11, 12, 13, 14, 15, 16, 17] [] rfl rfl rfl rfl rfl (fun _ => rfl) (fun _ => rfl) (fun _ => rfl) (fun uz hF => ?_)
      obtain ⟨T_11, hE⟩ : ∃ z, z = uz := ⟨_, rfl⟩; subst hE
      refine zv_aload_n (pc := 62) C rfl 0 rfl dX6_divide_62 ?_
      refine zv_iload_n (pc := 63) C rfl 1 rfl dX6_divide_63 ?_
      refine zv_iload_n (pc := 64) C rfl 3 rfl dX6_divide_64 ?_
      refine zv_bipush (pc := 65) (v := 15) C (by decide) dX6_divide_65 ?_
      obtain ⟨hz_12, hF⟩ := hF
      refine zv_idiv (pc := 67) C hz_12 dX6_divide_67 ?_
      refine zv_ci0 (pc := 68) (ws' := (fun uz : Unit => (zd_X6_divide cI adM qM1 qM2 qM3 qM4 qM5 qM6 qM7 qM8 qM12 qM13 qM15 qM16 qM17 qM18 qM19 qM20 qM21 T_11))) C (zv_runV (As := [.int c1, .int (p3 / (15 : Int32))]) (b := adM) (rest := []) (ci := 5) (q0 := 0) C (zc_X6_at l G cI adM qM1 qM2 qM3 qM4 qM5 qM6 qM7 qM8 qM12 qM13 qM15 qM16 qM17 qM18 qM19 qM20 qM21 T_11 c1 (p3 / (15 : Int32)) _ hF) (cwV 2 C.2.2.2.2.1 gX6_divide_X6_at rfl rfl rfl zy_X6_at ⟨Nat.le_of_ble_eq_true rfl, Nat.le_of_ble_eq_true rfl⟩) rfl rfl rfl rfl rfl (Nat.le_of_ble_eq_true rfl) ⟨Nat.zero_le _, Nat.zero_le _⟩ dX6_divide_68) [0, 1, 2, 3, 4, 5, 6, 7, 8, 9, 10, 11, 12, 13, 14, 15, 16, 17] [] rfl rfl rfl rfl rfl (fun _ => rfl) (fun _ => rfl) (fun _ => rfl) (fun v_13 uz hF => ?_)
      refine zv_iload_n (pc := 71) C rfl 3 rfl dX6_divide_71 ?_
      refine zv_bipush (pc := 72) (v := 15) C (by decide) dX6_divide_72 ?_
      obtain ⟨hz_14, hF⟩ := hF
      refine zv_irem (pc := 74) C hz_14 dX6_divide_74 ?_
      refine zv_ishr (pc := 75) C  dX6_divide_75 ?_
      refine zv_iconst (pc := 76) (v := 1) C (by decide) dX6_divide_76 ?_
      refine zv_iand (pc := 77) C  dX6_divide_77 ?_
      refine zv_iconst (pc := 78) (v := 1) C (by decide) dX6_divide_78 ?_
      obtain ⟨KJ_17, h0KJ_17, hF⟩ := hF
      refine zv_join (α := zMem) (KK := fun uz => KJ_17 uz) (wsJ := fun uz => (zd_X6_divide cI adM qM1 qM2 qM3 qM4 qM5 qM6 qM7 qM8 qM12 qM13 qM15 qM16 qM17 qM18 qM19 qM20 qM21 uz)) (pcJ := 114) (lvJ := fun uz => [(0, .ref adM), (1, .int c1), (2, .int c2), (3, .int p3)]) (stJ := fun uz => []) ?_ (fun hKJ_17 => ?_)
      · rintro T_16 hF
        replace hF := h0KJ_17 T_16 hF
        refine zv_aload_n (pc := 114) C rfl 0 rfl dX6_divide_114 ?_
        refine zv_get (pc := 115) (CC := RX6) (T := TX6) (N := 22) (ci := 5) (v := .ref qM21) C zi_X6_divide_X6 0 rfl 21 (by decide) zf_X6_divide_62 rfl rfl dX6_divide_115 ?_
        refine zv_bipush (pc := 118) (v := 22) C (by decide) dX6_divide_118 ?_
        obtain ⟨h_18, hF⟩ := hF
        refine zv_iald (pc := 120) (n := 60) (f := (T_16 21)) C 17 h_18 rfl dX6_divide_120 ?_
        refine zv_if_eq (pc := 121) (tgt := 168) C dX6_divide_121 (by decide) (fun c_19 => ?_) (fun c_19 => ?_)
        · replace hF := And.left hF c_19
          obtain ⟨x3_20, ex3_20⟩ : ∃ y : Int32, y = p3 + (-1 : Int32) := ⟨_, rfl⟩
          replace hF := hF x3_20 ex3_20
          refine zv_iinc (pc := 168) (v := x3_20) (lv' := [(3, .int x3_20), (0, .ref adM), (1, .int c1), (2, .int c2)]) C 3 rfl (by rw [ex3_20]; rfl) (by decide) rfl dX6_divide_168 ?_
          refine zv_goto (pc := 171) (tgt := 48) C dX6_divide_171 (by decide) ?_
          exact zv_lvs [1, 2, 3, 0] rfl (ih x3_20 T_16 hF)
        · replace hF := And.right hF c_19
          refine zv_aload_n (pc := 124) C rfl 0 rfl dX6_divide_124 ?_
          refine zv_bipush (pc := 125) (v := 22) C (by decide) dX6_divide_125 ?_
          refine zv_iload_n (pc := 127) C rfl 2 rfl dX6_divide_127 ?_
          refine zv_ci0 (pc := 128) (ws' := (fun uz : Unit => (zd_X6_divide cI adM qM1 qM2 qM3 qM4 qM5 qM6 qM7 qM8 qM12 qM13 qM15 qM16 qM17 qM18 qM19 qM20 qM21 T_16))) C (zv_runV (As := [.int (22 : Int32), .int c2]) (b := adM) (rest := []) (ci := 5) (q0 := 0) C (zc_X6_compareSizes l G cI adM qM1 qM2 qM3 qM4 qM5 qM6 qM7 qM8 qM12 qM13 qM15 qM16 qM17 qM18 qM19 qM20 qM21 T_16 (22 : Int32) c2 _ hF) (cwV 2 C.2.2.2.2.1 gX6_divide_X6_compareSizes rfl rfl rfl zy_X6_compareSizes ⟨Nat.le_of_ble_eq_true rfl, Nat.le_of_ble_eq_true rfl⟩) rfl rfl rfl rfl rfl (Nat.le_of_ble_eq_true rfl) ⟨Nat.zero_le _, Nat.zero_le _⟩ dX6_divide_128) [0, 1, 2, 3, 4, 5, 6, 7, 8, 9, 10, 11, 12, 13, 14, 15, 16, 17] [] rfl rfl rfl rfl rfl (fun _ => rfl) (fun _ => rfl) (fun _ => rfl) (fun v_21 uz hF => ?_)
          refine zv_if_ge (pc := 131) (tgt := 137) C dX6_divide_131 (by decide) (fun c_22 => ?_) (fun c_22 => ?_)
          · replace hF := And.left hF c_22
            refine zv_aload_n (pc := 137) C rfl 0 rfl dX6_divide_137 ?_
            refine zv_bipush (pc := 138) (v := 22) C (by decide) dX6_divide_138 ?_
            refine zv_bipush (pc := 140) (v := 22) C (by decide) dX6_divide_140 ?_
            refine zv_iload_n (pc := 142) C rfl 2 rfl dX6_divide_142 ?_
            refine zv_cv0 (pc := 143) (ws' := (fun uz : zMem => (zd_X6_divide cI adM qM1 qM2 qM3 qM4 qM5 qM6 qM7 qM8 qM12 qM13 qM15 qM16 qM17 qM18 qM19 qM20 qM21 uz))) C (zv_runV (As := [.int (22 : Int32), .int (22 : Int32), .int c2]) (b := adM) (rest := []) (ci := 5) (q0 := 0) C (zc_X6_minus l G cI adM qM1 qM2 qM3 qM4 qM5 qM6 qM7 qM8 qM12 qM13 qM15 qM16 qM17 qM18 qM19 qM20 qM21 T_16 (22 : Int32) (22 : Int32) c2 _ hF) (cwV 3 C.2.2.2.2.1 gX6_divide_X6_minus rfl rfl rfl zy_X6_minus ⟨Nat.le_of_ble_eq_true rfl, Nat.le_of_ble_eq_true rfl⟩) rfl rfl rfl rfl rfl (Nat.le_of_ble_eq_true rfl) ⟨Nat.zero_le _, Nat.zero_le _⟩ dX6_divide_143) [0, 1, 2, 3, 4, 5, 6, 7, 8, 9, 10, 11, 12, 13, 14, 15, 16, 17] [] rfl rfl rfl rfl rfl (fun _ => rfl) (fun _ => rfl) (fun _ => rfl) (fun uz hF => ?_)
            obtain ⟨T_23, hE⟩ : ∃ z, z = uz := ⟨_, rfl⟩; subst hE
            refine zv_aload_n (pc := 146) C rfl 0 rfl dX6_divide_146 ?_
            refine zv_get (pc := 147) (CC := RX6) (T := TX6) (N := 22) (ci := 5) (v := .ref qM19) C zi_X6_divide_X6 0 rfl 19 (by decide) zf_X6_divide_56 rfl rfl dX6_divide_147 ?_
            refine zv_sipush (pc := 150) (v := 4600) C (by decide) dX6_divide_150 ?_
            refine zv_iload_n (pc := 153) C rfl 3 rfl dX6_divide_153 ?_
            refine zv_bipush (pc := 154) (v := 15) C (by decide) dX6_divide_154 ?_
            obtain ⟨hz_24, hF⟩ := hF
            refine zv_idiv (pc := 156) C hz_24 dX6_divide_156 ?_
            refine zv_iadd (pc := 157) C  dX6_divide_157 ?_
            refine zv_dup2 (pc := 158) C rfl rfl dX6_divide_158 ?_
            obtain ⟨h_25, hF⟩ := hF
            refine zv_iald (pc := 159) (n := 12000) (f := (T_23 19)) C 15 h_25 rfl dX6_divide_159 ?_
            refine zv_iconst (pc := 160) (v := 1) C (by decide) dX6_divide_160 ?_
            refine zv_iload_n (pc := 161) C rfl 3 rfl dX6_divide_161 ?_
            refine zv_bipush (pc := 162) (v := 15) C (by decide) dX6_divide_162 ?_
            obtain ⟨hz_26, hF⟩ := hF
            refine zv_irem (pc := 164) C hz_26 dX6_divide_164 ?_
            refine zv_ishl (pc := 165) C  dX6_divide_165 ?_
            refine zv_ior (pc := 166) C  dX6_divide_166 ?_
            obtain ⟨h_27, hF⟩ := hF
            obtain ⟨r_28, er_28⟩ : ∃ y : zRow, y = (upd (T_23 19) (Int32.toNatClampNeg ((4600 : Int32) + (p3 / (15 : Int32)))) (((T_23 19) (Int32.toNatClampNeg ((4600 : Int32) + (p3 / (15 : Int32))))) ||| ((1 : Int32) <<< ((p3 - p3 / (15 : Int32) * (15 : Int32)) &&& 31)))) := ⟨_, rfl⟩
            replace hF := hF r_28 er_28
            refine zv_iast (pc := 167) (n := 12000) (f := (T_23 19)) (ws' := (zd_X6_divide cI adM qM1 qM2 qM3 qM4 qM5 qM6 qM7 qM8 qM12 qM13 qM15 qM16 qM17 qM18 qM19 qM20 qM21 (zset T_23 19 r_28))) C 15 h_27 rfl (by rw [er_28]; rfl) dX6_divide_167 ?_
            obtain ⟨x3_29, ex3_29⟩ : ∃ y : Int32, y = p3 + (-1 : Int32) := ⟨_, rfl⟩
            replace hF := hF x3_29 ex3_29
            refine zv_iinc (pc := 168) (v := x3_29) (lv' := [(3, .int x3_29), (0, .ref adM), (1, .int c1), (2, .int c2)]) C 3 rfl (by rw [ex3_29]; rfl) (by decide) rfl dX6_divide_168 ?_
            refine zv_goto (pc := 171) (tgt := 48) C dX6_divide_171 (by decide) ?_
            exact zv_lvs [1, 2, 3, 0] rfl (ih x3_29 (zset T_23 19 r_28) hF)
          · replace hF := And.right hF c_22
            refine zv_goto (pc := 134) (tgt := 168) C dX6_divide_134 (by decide) ?_
            obtain ⟨x3_30, ex3_30⟩ : ∃ y : Int32, y = p3 + (-1 : Int32) := ⟨_, rfl⟩
            replace hF := hF x3_30 ex3_30
            refine zv_iinc (pc := 168) (v := x3_30) (lv' := [(3, .int x3_30), (0, .ref adM), (1, .int c1), (2, .int c2)]) C 3 rfl (by rw [ex3_30]; rfl) (by decide) rfl dX6_divide_168 ?_
            refine zv_goto (pc := 171) (tgt := 48) C dX6_divide_171 (by decide) ?_
            exact zv_lvs [1, 2, 3, 0] rfl (ih x3_30 T_16 hF)
      · skip
        refine zv_icmp_ne (pc := 79) (tgt := 114) C dX6_divide_79 (by decide) (fun c_15 => ?_) (fun c_15 => ?_)
        · replace hF := And.left hF c_15
          exact zv_lvs [0, 1, 2, 3] rfl (hKJ_17 T_11 hF)
        · replace hF := And.right hF c_15
          refine zv_aload_n (pc := 82) C rfl 0 rfl dX6_divide_82 ?_
          refine zv_get (pc := 83) (CC := RX6) (T := TX6) (N := 22) (ci := 5) (v := .ref qM21) C zi_X6_divide_X6 0 rfl 21 (by decide) zf_X6_divide_62 rfl rfl dX6_divide_83 ?_
          refine zv_bipush (pc := 86) (v := 22) C (by decide) dX6_divide_86 ?_
          obtain ⟨h_31, hF⟩ := hF
          refine zv_iald (pc := 88) (n := 60) (f := (T_11 21)) C 17 h_31 rfl dX6_divide_88 ?_
          refine zv_if_ne (pc := 89) (tgt := 102) C dX6_divide_89 (by decide) (fun c_32 => ?_) (fun c_32 => ?_)
          · replace hF := And.left hF c_32
            refine zv_aload_n (pc := 102) C rfl 0 rfl dX6_divide_102 ?_
            refine zv_get (pc := 103) (CC := RX6) (T := TX6) (N := 22) (ci := 5) (v := .ref qM19) C zi_X6_divide_X6 0 rfl 19 (by decide) zf_X6_divide_56 rfl rfl dX6_divide_103 ?_
            refine zv_sipush (pc := 106) (v := 4400) C (by decide) dX6_divide_106 ?_
            refine zv_dup2 (pc := 109) C rfl rfl dX6_divide_109 ?_
            obtain ⟨h_33, hF⟩ := hF
            refine zv_iald (pc := 110) (n := 12000) (f := (T_11 19)) C 15 h_33 rfl dX6_divide_110 ?_
            refine zv_iconst (pc := 111) (v := 1) C (by decide) dX6_divide_111 ?_
            refine zv_ior (pc := 112) C  dX6_divide_112 ?_
            obtain ⟨h_34, hF⟩ := hF
            obtain ⟨r_35, er_35⟩ : ∃ y : zRow, y = (upd (T_11 19) (Int32.toNatClampNeg (4400 : Int32)) (((T_11 19) (Int32.toNatClampNeg (4400 : Int32))) ||| (1 : Int32))) := ⟨_, rfl⟩
            replace hF := hF r_35 er_35
            refine zv_iast (pc := 113) (n := 12000) (f := (T_11 19)) (ws' := (zd_X6_divide cI adM qM1 qM2 qM3 qM4 qM5 qM6 qM7 qM8 qM12 qM13 qM15 qM16 qM17 qM18 qM19 qM20 qM21 (zset T_11 19 r_35))) C 15 h_34 rfl (by rw [er_35]; rfl) dX6_divide_113 ?_
            exact zv_lvs [0, 1, 2, 3] rfl (hKJ_17 (zset T_11 19 r_35) hF)
          · replace hF := And.right hF c_32
            refine zv_aload_n (pc := 92) C rfl 0 rfl dX6_divide_92 ?_
            refine zv_bipush (pc := 93) (v := 22) C (by decide) dX6_divide_93 ?_
            refine zv_lconst (pc := 95) (v := 1) C (by decide) dX6_divide_95 ?_
            refine zv_cv0 (pc := 96) (ws' := (fun uz : zMem => (zd_X6_divide cI adM qM1 qM2 qM3 qM4 qM5 qM6 qM7 qM8 qM12 qM13 qM15 qM16 qM17 qM18 qM19 qM20 qM21 uz))) C (zv_runV (As := [.int (22 : Int32), .long (1 : Int64)]) (b := adM) (rest := []) (ci := 5) (q0 := 0) C (zc_X6_set l G cI adM qM1 qM2 qM3 qM4 qM5 qM6 qM7 qM8 qM12 qM13 qM15 qM16 qM17 qM18 qM19 qM20 qM21 T_11 (22 : Int32) (1 : Int64) _ hF) (cwV 2 C.2.2.2.2.1 gX6_divide_X6_set rfl rfl rfl zy_X6_set ⟨Nat.le_of_ble_eq_true rfl, Nat.le_of_ble_eq_true rfl⟩) rfl rfl rfl rfl rfl (Nat.le_of_ble_eq_true rfl) ⟨Nat.zero_le _, Nat.zero_le _⟩ dX6_divide_96) [0, 1, 2, 3, 4, 5, 6, 7, 8, 9, 10, 11, 12, 13, 14, 15, 16, 17] [] rfl rfl rfl rfl rfl (fun _ => rfl) (fun _ => rfl) (fun _ => rfl) (fun uz hF => ?_)
            obtain ⟨T_36, hE⟩ : ∃ z, z = uz := ⟨_, rfl⟩; subst hE
            refine zv_goto (pc := 99) (tgt := 114) C dX6_divide_99 (by decide) ?_
            exact zv_lvs [0, 1, 2, 3] rfl (hKJ_17 T_36 hF)
set_option maxHeartbeats 4000000 in
set_option maxRecDepth 100000 in
theorem zc_X6_divide (l : Launch) (G : va_G) (cI : ClassId) (adM qM1 qM2 qM3 qM4 qM5 qM6 qM7 qM8 qM12 qM13 qM15 qM16 qM17 qM18 qM19 qM20 qM21 : Nat) (M : zMem) (a1 : Int32) (a2 : Int32) (post : zMem → Prop) (hF : zw_X6_divide M a1 a2 post) (sz : Nat) : Met l yX6_divide wsX6_divide rmX6_divide (va_Pc [.ref adM, .int a1, .int a2] (zv_in G cI (zd_X6_divide cI adM qM1 qM2 qM3 qM4 qM5 qM6 qM7 qM8 qM12 qM13 qM15 qM16 qM17 qM18 qM19 qM20 qM21 M) sz)) (va_Qv (fun uz : zMem => post uz) (fun (uz : zMem) t => zv_out G cI (va_A (zd_X6_divide cI adM qM1 qM2 qM3 qM4 qM5 qM6 qM7 qM8 qM12 qM13 qM15 qM16 qM17 qM18 qM19 qM20 qM21 M) sz) (zd_X6_divide cI adM qM1 qM2 qM3 qM4 qM5 qM6 qM7 qM8 qM12 qM13 qM15 qM16 qM17 qM18 qM19 qM20 qM21 uz) t) (va_A (zd_X6_divide cI adM qM1 qM2 qM3 qM4 qM5 qM6 qM7 qM8 qM12 qM13 qM15 qM16 qM17 qM18 qM19 qM20 qM21 M) sz)) 0 0 (va_A (zd_X6_divide cI adM qM1 qM2 qM3 qM4 qM5 qM6 qM7 qM8 qM12 qM13 qM15 qM16 qM17 qM18 qM19 qM20 qM21 M) sz) := by
  refine zv_met (cc := cX6_divide) (maxL := 4) (ret := none) (lv0 := [(0, .ref adM), (1, .int a1), (2, .int a2)]) (Qc := fun A => va_Qv (fun uz : zMem => post uz) (fun (uz : zMem) t => zv_out G cI A (zd_X6_divide cI adM qM1 qM2 qM3 qM4 qM5 qM6 qM7 qM8 qM12 qM13 qM15 qM16 qM17 qM18 qM19 qM20 qM21 uz) t) A) (by decide) rfl (Nat.le_of_ble_eq_true rfl) rfl ?_ sz
  intro p e s m below meth c A C hr hlk
  clear sz
  refine zv_aload_n (pc := 0) C rfl 0 rfl dX6_divide_0 ?_
  refine zv_bipush (pc := 1) (v := 22) C (by decide) dX6_divide_1 ?_
  refine zv_lconst (pc := 3) (v := 0) C (by decide) dX6_divide_3 ?_
  refine zv_cv0 (pc := 4) (ws' := (fun uz : zMem => (zd_X6_divide cI adM qM1 qM2 qM3 qM4 qM5 qM6 qM7 qM8 qM12 qM13 qM15 qM16 qM17 qM18 qM19 qM20 qM21 uz))) C (zv_runV (As := [.int (22 : Int32), .long (0 : Int64)]) (b := adM) (rest := []) (ci := 5) (q0 := 0) C (zc_X6_set l G cI adM qM1 qM2 qM3 qM4 qM5 qM6 qM7 qM8 qM12 qM13 qM15 qM16 qM17 qM18 qM19 qM20 qM21 M (22 : Int32) (0 : Int64) _ hF) (cwV 2 C.2.2.2.2.1 gX6_divide_X6_set rfl rfl rfl zy_X6_set ⟨Nat.le_of_ble_eq_true rfl, Nat.le_of_ble_eq_true rfl⟩) rfl rfl rfl rfl rfl (Nat.le_of_ble_eq_true rfl) ⟨Nat.zero_le _, Nat.zero_le _⟩ dX6_divide_4) [0, 1, 2, 3, 4, 5, 6, 7, 8, 9, 10, 11, 12, 13, 14, 15, 16, 17] [] rfl rfl rfl rfl rfl (fun _ => rfl) (fun _ => rfl) (fun _ => rfl) (fun uz hF => ?_)
  obtain ⟨T_1, hE⟩ : ∃ z, z = uz := ⟨_, rfl⟩; subst hE
  refine zv_iconst (pc := 7) (v := 0) C (by decide) dX6_divide_7 ?_
  refine zv_istore_n (pc := 8) (lv' := [(3, .int (0 : Int32)), (0, .ref adM), (1, .int a1), (2, .int a2)]) C rfl (by decide) rfl dX6_divide_8 ?_
  obtain ⟨kf, hF⟩ := hF
  refine zv_lvs [1, 2, 3, 0] rfl (zl_X6_divide_9 adM qM1 qM2 qM3 qM4 qM5 qM6 qM7 qM8 qM12 qM13 qM15 qM16 qM17 qM18 qM19 qM20 qM21 a1 a2 _ C ?_ kf (0 : Int32) T_1 hF)
  · intro T_7 hF
    refine zv_bipush (pc := 36) (v := 15) C (by decide) dX6_divide_36 ?_
    refine zv_aload_n (pc := 38) C rfl 0 rfl dX6_divide_38 ?_
    refine zv_get (pc := 39) (CC := RX6) (T := TX6) (N := 22) (ci := 5) (v := .ref qM20) C zi_X6_divide_X6 0 rfl 20 (by decide) zf_X6_divide_59 rfl rfl dX6_divide_39 ?_
    refine zv_iload_n (pc := 42) C rfl 1 rfl dX6_divide_42 ?_
    obtain ⟨h_8, hF⟩ := hF
    refine zv_iald (pc := 43) (n := 60) (f := (T_7 20)) C 16 h_8 rfl dX6_divide_43 ?_
    refine zv_imul (pc := 44) C  dX6_divide_44 ?_
    refine zv_iconst (pc := 45) (v := 1) C (by decide) dX6_divide_45 ?_
    refine zv_isub (pc := 46) C  dX6_divide_46 ?_
    refine zv_topi (fun x3_9 ex3_9 => ?_)
    replace hF := hF x3_9 ex3_9
    refine zv_istore_n (pc := 47) (lv' := [(3, .int x3_9), (0, .ref adM), (1, .int a1), (2, .int a2)]) C rfl (by decide) rfl dX6_divide_47 ?_
    obtain ⟨kf, hF⟩ := hF
    refine zv_lvs [1, 2, 3, 0] rfl (zl_X6_divide_48 adM qM1 qM2 qM3 qM4 qM5 qM6 qM7 qM8 qM12 qM13 qM15 qM16 qM17 qM18 qM19 qM20 qM21 a1 a2 _ C ?_ kf x3_9 T_7 hF)
    · intro T_37 hF
      refine zv_aload_n (pc := 174) C rfl 0 rfl dX6_divide_174 ?_
      refine zv_get (pc := 175) (CC := RX6) (T := TX6) (N := 22) (ci := 5) (v := .ref qM21) C zi_X6_divide_X6 0 rfl 21 (by decide) zf_X6_divide_62 rfl rfl dX6_divide_175 ?_
      refine zv_bipush (pc := 178) (v := 23) C (by decide) dX6_divide_178 ?_
      refine zv_iconst (pc := 180) (v := 1) C (by decide) dX6_divide_180 ?_
      obtain ⟨h_38, hF⟩ := hF
      obtain ⟨r_39, er_39⟩ : ∃ y : zRow, y = (upd (T_37 21) (Int32.toNatClampNeg (23 : Int32)) (1 : Int32)) := ⟨_, rfl⟩
      replace hF := hF r_39 er_39
      refine zv_iast (pc := 181) (n := 60) (f := (T_37 21)) (ws' := (zd_X6_divide cI adM qM1 qM2 qM3 qM4 qM5 qM6 qM7 qM8 qM12 qM13 qM15 qM16 qM17 qM18 qM19 qM20 qM21 (zset T_37 21 r_39))) C 17 h_38 rfl (by rw [er_39]; rfl) dX6_divide_181 ?_
      refine zv_aload_n (pc := 182) C rfl 0 rfl dX6_divide_182 ?_
      refine zv_bipush (pc := 183) (v := 23) C (by decide) dX6_divide_183 ?_
      refine zv_aload_n (pc := 185) C rfl 0 rfl dX6_divide_185 ?_
      refine zv_get (pc := 186) (CC := RX6) (T := TX6) (N := 22) (ci := 5) (v := .ref qM20) C zi_X6_divide_X6 0 rfl 20 (by decide) zf_X6_divide_59 rfl rfl dX6_divide_186 ?_
      refine zv_iload_n (pc := 189) C rfl 1 rfl dX6_divide_189 ?_
      obtain ⟨h_40, hF⟩ := hF
      refine zv_iald (pc := 190) (n := 60) (f := (T_37 20)) C 16 h_40 rfl dX6_divide_190 ?_
      refine zv_cv0 (pc := 191) (ws' := (fun uz : zMem => (zd_X6_divide cI adM qM1 qM2 qM3 qM4 qM5 qM6 qM7 qM8 qM12 qM13 qM15 qM16 qM17 qM18 qM19 qM20 qM21 uz))) C (zv_runV (As := [.int (23 : Int32), .int ((T_37 20) (Int32.toNatClampNeg a1))]) (b := adM) (rest := []) (ci := 5) (q0 := 0) C (zc_X6_trim l G cI adM qM1 qM2 qM3 qM4 qM5 qM6 qM7 qM8 qM12 qM13 qM15 qM16 qM17 qM18 qM19 qM20 qM21 (zset T_37 21 r_39) (23 : Int32) ((T_37 20) (Int32.toNatClampNeg a1)) _ hF) (cwV 2 C.2.2.2.2.1 gX6_divide_X6_trim rfl rfl rfl zy_X6_trim ⟨Nat.le_of_ble_eq_true rfl, Nat.le_of_ble_eq_true rfl⟩) rfl rfl rfl rfl rfl (Nat.le_of_ble_eq_true rfl) ⟨Nat.zero_le _, Nat.zero_le _⟩ dX6_divide_191) [0, 1, 2, 3, 4, 5, 6, 7, 8, 9, 10, 11, 12, 13, 14, 15, 16, 17] [] rfl rfl rfl rfl rfl (fun _ => rfl) (fun _ => rfl) (fun _ => rfl) (fun uz hF => ?_)
      obtain ⟨T_41, hE⟩ : ∃ z, z = uz := ⟨_, rfl⟩; subst hE
      refine zv_aload_n (pc := 194) C rfl 0 rfl dX6_divide_194 ?_
      refine zv_iload_n (pc := 195) C rfl 1 rfl dX6_divide_195 ?_
      refine zv_bipush (pc := 196) (v := 23) C (by decide) dX6_divide_196 ?_
      refine zv_cv0 (pc := 198) (ws' := (fun uz : zMem => (zd_X6_divide cI adM qM1 qM2 qM3 qM4 qM5 qM6 qM7 qM8 qM12 qM13 qM15 qM16 qM17 qM18 qM19 qM20 qM21 uz))) C (zv_runV (As := [.int a1, .int (23 : Int32)]) (b := adM) (rest := []) (ci := 5) (q0 := 0) C (zc_X6_copy l G cI adM qM1 qM2 qM3 qM4 qM5 qM6 qM7 qM8 qM12 qM13 qM15 qM16 qM17 qM18 qM19 qM20 qM21 T_41 a1 (23 : Int32) _ hF) (cwV 2 C.2.2.2.2.1 gX6_divide_X6_copy rfl rfl rfl zy_X6_copy ⟨Nat.le_of_ble_eq_true rfl, Nat.le_of_ble_eq_true rfl⟩) rfl rfl rfl rfl rfl (Nat.le_of_ble_eq_true rfl) ⟨Nat.zero_le _, Nat.zero_le _⟩ dX6_divide_198) [0, 1, 2, 3, 4, 5, 6, 7, 8, 9, 10, 11, 12, 13, 14, 15, 16, 17] [] rfl rfl rfl rfl rfl (fun _ => rfl) (fun _ => rfl) (fun _ => rfl) (fun uz hF => ?_)
      obtain ⟨T_42, hE⟩ : ∃ z, z = uz := ⟨_, rfl⟩; subst hE
      exact zv_vret (pc := 201) C hr hlk T_42 hF rfl dX6_divide_201
theorem zf_X6_shorten_62 : Cond.fieldLink RX6 62 "GlassStackModel" "sign" "[I" ∈ wsX6_shorten := (List.mem_of_getElem? (i := 1) rfl)
theorem zi_X6_shorten_X6 : ∀ w ∈ wsX60, w ∈ wsX6_shorten := fun w h => List.mem_cons_of_mem _ (List.mem_append_right _ h)
theorem zy_X6_shorten : yX6_shorten.cls = RX6 ∧ yX6_shorten.cls ≠ "java/lang/invoke/MethodHandle" ∧ yX6_shorten.cls ≠ "java/lang/invoke/VarHandle" ∧ (parseMethodDescriptor yX6_shorten.desc).map (fun d => d.parameters.length) = some 2 := by decide +kernel
set_option maxHeartbeats 4000000 in
set_option maxRecDepth 100000 in
theorem zc_X6_shorten (l : Launch) (G : va_G) (cI : ClassId) (adM qM1 qM2 qM3 qM4 qM5 qM6 qM7 qM8 qM12 qM13 qM15 qM16 qM17 qM18 qM19 qM20 qM21 : Nat) (M : zMem) (a1 : Int32) (a2 : Int32) (post : zMem → Prop) (hF : zw_X6_shorten M a1 a2 post) (sz : Nat) : Met l yX6_shorten wsX6_shorten rmX6_shorten (va_Pc [.ref adM, .int a1, .int a2] (zv_in G cI (zd_X6_shorten cI adM qM1 qM2 qM3 qM4 qM5 qM6 qM7 qM8 qM12 qM13 qM15 qM16 qM17 qM18 qM19 qM20 qM21 M) sz)) (va_Qv (fun uz : zMem => post uz) (fun (uz : zMem) t => zv_out G cI (va_A (zd_X6_shorten cI adM qM1 qM2 qM3 qM4 qM5 qM6 qM7 qM8 qM12 qM13 qM15 qM16 qM17 qM18 qM19 qM20 qM21 M) sz) (zd_X6_shorten cI adM qM1 qM2 qM3 qM4 qM5 qM6 qM7 qM8 qM12 qM13 qM15 qM16 qM17 qM18 qM19 qM20 qM21 uz) t) (va_A (zd_X6_shorten cI adM qM1 qM2 qM3 qM4 qM5 qM6 qM7 qM8 qM12 qM13 qM15 qM16 qM17 qM18 qM19 qM20 qM21 M) sz)) 0 0 (va_A (zd_X6_shorten cI adM qM1 qM2 qM3 qM4 qM5 qM6 qM7 qM8 qM12 qM13 qM15 qM16 qM17 qM18 qM19 qM20 qM21 M) sz) := by
  refine zv_met (cc := cX6_shorten) (maxL := 4) (ret := none) (lv0 := [(0, .ref adM), (1, .int a1), (2, .int a2)]) (Qc := fun A => va_Qv (fun uz : zMem => post uz) (fun (uz : zMem) t => zv_out G cI A (zd_X6_shorten cI adM qM1 qM2 qM3 qM4 qM5 qM6 qM7 qM8 qM12 qM13 qM15 qM16 qM17 qM18 qM19 qM20 qM21 uz) t) A) (by decide) rfl (Nat.le_of_ble_eq_true rfl) rfl ?_ sz
  intro p e s m below meth c A C hr hlk
  clear sz
  refine zv_aload_n (pc := 0) C rfl 0 rfl dX6_shorten_0 ?_
  refine zv_get (pc := 1) (CC := RX6) (T := TX6) (N := 22) (ci := 5) (v := .ref qM21) C zi_X6_shorten_X6 0 rfl 21 (by decide) zf_X6_shorten_62 rfl rfl dX6_shorten_1 ?_
  refine zv_iload_n (pc := 4) C rfl 1 rfl dX6_shorten_4 ?_
  obtain ⟨h_1, hF⟩ := hF
  refine zv_iald (pc := 5) (n := 60) (f := (M 21)) C 17 h_1 rfl dX6_shorten_5 ?_
  refine zv_if_ne (pc := 6) (tgt := 16) C dX6_shorten_6 (by decide) (fun c_2 => ?_) (fun c_2 => ?_)
  · replace hF := And.left hF c_2
    refine zv_aload_n (pc := 16) C rfl 0 rfl dX6_shorten_16 ?_
    refine zv_get (pc := 17) (CC := RX6) (T := TX6) (N := 22) (ci := 5) (v := .ref qM21) C zi_X6_shorten_X6 0 rfl 21 (by decide) zf_X6_shorten_62 rfl rfl dX6_shorten_17 ?_
    refine zv_iload_n (pc := 20) C rfl 1 rfl dX6_shorten_20 ?_
    obtain ⟨h_3, hF⟩ := hF
    refine zv_iald (pc := 21) (n := 60) (f := (M 21)) C 17 h_3 rfl dX6_shorten_21 ?_
    refine zv_topi (fun x3_4 ex3_4 => ?_)
    replace hF := hF x3_4 ex3_4
    refine zv_istore_n (pc := 22) (lv' := [(3, .int x3_4), (0, .ref adM), (1, .int a1), (2, .int a2)]) C rfl (by decide) rfl dX6_shorten_22 ?_
    refine zv_aload_n (pc := 23) C rfl 1 rfl dX6_shorten_23 ?_
    refine zv_get (pc := 24) (CC := RX6) (T := TX6) (N := 22) (ci := 5) (v := .ref qM21) C zi_X6_shorten_X6 0 rfl 21 (by decide) zf_X6_shorten_62 rfl rfl dX6_shorten_24 ?_
    refine zv_iload_n (pc := 27) C rfl 2 rfl dX6_shorten_27 ?_
    refine zv_iconst (pc := 28) (v := 1) C (by decide) dX6_shorten_28 ?_
    obtain ⟨h_5, hF⟩ := hF
    obtain ⟨r_6, er_6⟩ : ∃ y : zRow, y = (upd (M 21) (Int32.toNatClampNeg a1) (1 : Int32)) := ⟨_, rfl⟩
    replace hF := hF r_6 er_6
    refine zv_iast (pc := 29) (n := 60) (f := (M 21)) (ws' := (zd_X6_shorten cI adM qM1 qM2 qM3 qM4 qM5 qM6 qM7 qM8 qM12 qM13 qM15 qM16 qM17 qM18 qM19 qM20 qM21 (zset M 21 r_6))) C 17 h_5 rfl (by rw [er_6]; rfl) dX6_shorten_29 ?_
    refine zv_aload_n (pc := 30) C rfl 1 rfl dX6_shorten_30 ?_
    refine zv_iload_n (pc := 31) C rfl 2 rfl dX6_shorten_31 ?_
    refine zv_iload_n (pc := 32) C rfl 3 rfl dX6_shorten_32 ?_
    refine zv_cv0 (pc := 33) (ws' := (fun uz : zMem => (zd_X6_shorten cI adM qM1 qM2 qM3 qM4 qM5 qM6 qM7 qM8 qM12 qM13 qM15 qM16 qM17 qM18 qM19 qM20 qM21 uz))) C (zv_runV (As := [.int a1, .int a2]) (b := adM) (rest := []) (ci := 5) (q0 := 0) C (zc_X6_common l G cI adM qM1 qM2 qM3 qM4 qM5 qM6 qM7 qM8 qM12 qM13 qM15 qM16 qM17 qM18 qM19 qM20 qM21 (zset M 21 r_6) a1 a2 _ hF) (cwV 2 C.2.2.2.2.1 gX6_shorten_X6_common rfl rfl rfl zy_X6_common ⟨Nat.le_of_ble_eq_true rfl, Nat.le_of_ble_eq_true rfl⟩) rfl rfl rfl rfl rfl (Nat.le_of_ble_eq_true rfl) ⟨Nat.zero_le _, Nat.zero_le _⟩ dX6_shorten_33) [0, 1, 2, 3, 4, 5, 6, 7, 8, 9, 10, 11, 12, 13, 14, 15, 16, 17] [] rfl rfl rfl rfl rfl (fun _ => rfl) (fun _ => rfl) (fun _ => rfl) (fun uz hF => ?_)
    obtain ⟨T_7, hE⟩ : ∃ z, z = uz := ⟨_, rfl⟩; subst hE
    refine zv_aload_n (pc := 36) C rfl 1 rfl dX6_shorten_36 ?_
    refine zv_bipush (pc := 37) (v := 38) C (by decide) dX6_shorten_37 ?_
    refine zv_bipush (pc := 39) (v := 20) C (by decide) dX6_shorten_39 ?_
    refine zv_cv0 (pc := 41) (ws' := (fun uz : zMem => (zd_X6_shorten cI adM qM1 qM2 qM3 qM4 qM5 qM6 qM7 qM8 qM12 qM13 qM15 qM16 qM17 qM18 qM19 qM20 qM21 uz))) C (zv_runV (As := [.int (38 : Int32), .int (20 : Int32)]) (b := adM) (rest := []) (ci := 5) (q0 := 0) C (zc_X6_copy l G cI adM qM1 qM2 qM3 qM4 qM5 qM6 qM7 qM8 qM12 qM13 qM15 qM16 qM17 qM18 qM19 qM20 qM21 T_7 (38 : Int32) (20 : Int32) _ hF) (cwV 2 C.2.2.2.2.1 gX6_shorten_X6_copy rfl rfl rfl zy_X6_copy ⟨Nat.le_of_ble_eq_true rfl, Nat.le_of_ble_eq_true rfl⟩) rfl rfl rfl rfl rfl (Nat.le_of_ble_eq_true rfl) ⟨Nat.zero_le _, Nat.zero_le _⟩ dX6_shorten_41) [0, 1, 2, 3, 4, 5, 6, 7, 8, 9, 10, 11, 12, 13, 14, 15, 16, 17] [] rfl rfl rfl rfl rfl (fun _ => rfl) (fun _ => rfl) (fun _ => rfl) (fun uz hF => ?_)
    obtain ⟨T_8, hE⟩ : ∃ z, z = uz := ⟨_, rfl⟩; subst hE
    refine zv_aload_n (pc := 44) C rfl 1 rfl dX6_shorten_44 ?_
    refine zv_iload_n (pc := 45) C rfl 2 rfl dX6_shorten_45 ?_
    refine zv_bipush (pc := 46) (v := 38) C (by decide) dX6_shorten_46 ?_
    refine zv_cv0 (pc := 48) (ws' := (fun uz : zMem => (zd_X6_shorten cI adM qM1 qM2 qM3 qM4 qM5 qM6 qM7 qM8 qM12 qM13 qM15 qM16 qM17 qM18 qM19 qM20 qM21 uz))) C (zv_runV (As := [.int a1, .int (38 : Int32)]) (b := adM) (rest := []) (ci := 5) (q0 := 0) C (zc_X6_divide l G cI adM qM1 qM2 qM3 qM4 qM5 qM6 qM7 qM8 qM12 qM13 qM15 qM16 qM17 qM18 qM19 qM20 qM21 T_8 a1 (38 : Int32) _ hF) (cwV 2 C.2.2.2.2.1 gX6_shorten_X6_divide rfl rfl rfl zy_X6_divide ⟨Nat.le_of_ble_eq_true rfl, Nat.le_of_ble_eq_true rfl⟩) rfl rfl rfl rfl rfl (Nat.le_of_ble_eq_true rfl) ⟨Nat.zero_le _, Nat.zero_le _⟩ dX6_shorten_48) [0, 1, 2, 3, 4, 5, 6, 7, 8, 9, 10, 11, 12, 13, 14, 15, 16, 17] [] rfl rfl rfl rfl rfl (fun _ => rfl) (fun _ => rfl) (fun _ => rfl) (fun uz hF => ?_)
    obtain ⟨T_9, hE⟩ : ∃ z, z = uz := ⟨_, rfl⟩; subst hE
    refine zv_aload_n (pc := 51) C rfl 1 rfl dX6_shorten_51 ?_
    refine zv_iload_n (pc := 52) C rfl 3 rfl dX6_shorten_52 ?_
    refine zv_bipush (pc := 53) (v := 38) C (by decide) dX6_shorten_53 ?_
    refine zv_cv0 (pc := 55) (ws' := (fun uz : zMem => (zd_X6_shorten cI adM qM1 qM2 qM3 qM4 qM5 qM6 qM7 qM8 qM12 qM13 qM15 qM16 qM17 qM18 qM19 qM20 qM21 uz))) C (zv_runV (As := [.int a2, .int (38 : Int32)]) (b := adM) (rest := []) (ci := 5) (q0 := 0) C (zc_X6_divide l G cI adM qM1 qM2 qM3 qM4 qM5 qM6 qM7 qM8 qM12 qM13 qM15 qM16 qM17 qM18 qM19 qM20 qM21 T_9 a2 (38 : Int32) _ hF) (cwV 2 C.2.2.2.2.1 gX6_shorten_X6_divide rfl rfl rfl zy_X6_divide ⟨Nat.le_of_ble_eq_true rfl, Nat.le_of_ble_eq_true rfl⟩) rfl rfl rfl rfl rfl (Nat.le_of_ble_eq_true rfl) ⟨Nat.zero_le _, Nat.zero_le _⟩ dX6_shorten_55) [0, 1, 2, 3, 4, 5, 6, 7, 8, 9, 10, 11, 12, 13, 14, 15, 16, 17] [] rfl rfl rfl rfl rfl (fun _ => rfl) (fun _ => rfl) (fun _ => rfl) (fun uz hF => ?_)
    obtain ⟨T_10, hE⟩ : ∃ z, z = uz := ⟨_, rfl⟩; subst hE
    refine zv_aload_n (pc := 58) C rfl 1 rfl dX6_shorten_58 ?_
    refine zv_get (pc := 59) (CC := RX6) (T := TX6) (N := 22) (ci := 5) (v := .ref qM21) C zi_X6_shorten_X6 0 rfl 21 (by decide) zf_X6_shorten_62 rfl rfl dX6_shorten_59 ?_
    refine zv_iload_n (pc := 62) C rfl 2 rfl dX6_shorten_62 ?_
    refine zv_iload_n (pc := 63) C rfl 0 rfl dX6_shorten_63 ?_
    obtain ⟨h_11, hF⟩ := hF
    obtain ⟨r_12, er_12⟩ : ∃ y : zRow, y = (upd (T_10 21) (Int32.toNatClampNeg a1) x3_4) := ⟨_, rfl⟩
    replace hF := hF r_12 er_12
    refine zv_iast (pc := 64) (n := 60) (f := (T_10 21)) (ws' := (zd_X6_shorten cI adM qM1 qM2 qM3 qM4 qM5 qM6 qM7 qM8 qM12 qM13 qM15 qM16 qM17 qM18 qM19 qM20 qM21 (zset T_10 21 r_12))) C 17 h_11 rfl (by rw [er_12]; rfl) dX6_shorten_64 ?_
    exact zv_vret (pc := 65) C hr hlk (zset T_10 21 r_12) hF rfl dX6_shorten_65
  · replace hF := And.right hF c_2
    refine zv_aload_n (pc := 9) C rfl 0 rfl dX6_shorten_9 ?_
    refine zv_iload_n (pc := 10) C rfl 2 rfl dX6_shorten_10 ?_
    refine zv_lconst (pc := 11) (v := 1) C (by decide) dX6_shorten_11 ?_
    refine zv_cv0 (pc := 12) (ws' := (fun uz : zMem => (zd_X6_shorten cI adM qM1 qM2 qM3 qM4 qM5 qM6 qM7 qM8 qM12 qM13 qM15 qM16 qM17 qM18 qM19 qM20 qM21 uz))) C (zv_runV (As := [.int a2, .long (1 : Int64)]) (b := adM) (rest := []) (ci := 5) (q0 := 0) C (zc_X6_set l G cI adM qM1 qM2 qM3 qM4 qM5 qM6 qM7 qM8 qM12 qM13 qM15 qM16 qM17 qM18 qM19 qM20 qM21 M a2 (1 : Int64) _ hF) (cwV 2 C.2.2.2.2.1 gX6_shorten_X6_set rfl rfl rfl zy_X6_set ⟨Nat.le_of_ble_eq_true rfl, Nat.le_of_ble_eq_true rfl⟩) rfl rfl rfl rfl rfl (Nat.le_of_ble_eq_true rfl) ⟨Nat.zero_le _, Nat.zero_le _⟩ dX6_shorten_12) [0, 1, 2, 3, 4, 5, 6, 7, 8, 9, 10, 11, 12, 13, 14, 15, 16, 17] [] rfl rfl rfl rfl rfl (fun _ => rfl) (fun _ => rfl) (fun _ => rfl) (fun uz hF => ?_)
    obtain ⟨T_13, hE⟩ : ∃ z, z = uz := ⟨_, rfl⟩; subst hE
    exact zv_vret (pc := 15) C hr hlk T_13 hF rfl dX6_shorten_15
theorem zy_X6_part : yX6_part.cls = RX6 ∧ yX6_part.cls ≠ "java/lang/invoke/MethodHandle" ∧ yX6_part.cls ≠ "java/lang/invoke/VarHandle" ∧ (parseMethodDescriptor yX6_part.desc).map (fun d => d.parameters.length) = some 2 := by decide +kernel
set_option maxHeartbeats 4000000 in
set_option maxRecDepth 100000 in
theorem zc_X6_part (l : Launch) (G : va_G) (cI : ClassId) (adM qM1 qM2 qM3 qM4 qM5 qM6 qM7 qM8 qM12 qM13 qM15 qM16 qM17 qM18 qM19 qM20 qM21 : Nat) (M : zMem) (a1 : Int32) (a2 : Int32) (post : Int32 → Prop) (hF : zw_X6_part M a1 a2 post) (sz : Nat) : Met l yX6_part wsX6_part rmX6_part (va_Pc [.ref adM, .int a1, .int a2] (zv_in G cI (zd_X6_part cI adM qM1 qM2 qM3 qM4 qM5 qM6 qM7 qM8 qM12 qM13 qM15 qM16 qM17 qM18 qM19 qM20 qM21 M) sz)) (va_Qi (fun (rz : Int32) (uz : Unit) => post rz ) (fun (uz : Unit) t => zv_out G cI (va_A (zd_X6_part cI adM qM1 qM2 qM3 qM4 qM5 qM6 qM7 qM8 qM12 qM13 qM15 qM16 qM17 qM18 qM19 qM20 qM21 M) sz) (zd_X6_part cI adM qM1 qM2 qM3 qM4 qM5 qM6 qM7 qM8 qM12 qM13 qM15 qM16 qM17 qM18 qM19 qM20 qM21 M) t) (va_A (zd_X6_part cI adM qM1 qM2 qM3 qM4 qM5 qM6 qM7 qM8 qM12 qM13 qM15 qM16 qM17 qM18 qM19 qM20 qM21 M) sz)) 0 0 (va_A (zd_X6_part cI adM qM1 qM2 qM3 qM4 qM5 qM6 qM7 qM8 qM12 qM13 qM15 qM16 qM17 qM18 qM19 qM20 qM21 M) sz) := by
  refine zv_met (cc := cX6_part) (maxL := 3) (ret := (some .int)) (lv0 := [(0, .ref adM), (1, .int a1), (2, .int a2)]) (Qc := fun A => va_Qi (fun (rz : Int32) (uz : Unit) => post rz ) (fun (uz : Unit) t => zv_out G cI A (zd_X6_part cI adM qM1 qM2 qM3 qM4 qM5 qM6 qM7 qM8 qM12 qM13 qM15 qM16 qM17 qM18 qM19 qM20 qM21 M) t) A) (by decide) rfl (Nat.le_of_ble_eq_true rfl) rfl ?_ sz
  intro p e s m below meth c A C hr hlk
  clear sz
  refine zv_aload_n (pc := 0) C rfl 0 rfl dX6_part_0 ?_
  refine zv_iload_n (pc := 1) C rfl 1 rfl dX6_part_1 ?_
  refine zv_iconst (pc := 2) (v := 2) C (by decide) dX6_part_2 ?_
  refine zv_iload_n (pc := 3) C rfl 2 rfl dX6_part_3 ?_
  refine zv_imul (pc := 4) C  dX6_part_4 ?_
  refine zv_ci0 (pc := 5) (ws' := (fun uz : Unit => (zd_X6_part cI adM qM1 qM2 qM3 qM4 qM5 qM6 qM7 qM8 qM12 qM13 qM15 qM16 qM17 qM18 qM19 qM20 qM21 M))) C (zv_runV (As := [.int a1, .int ((2 : Int32) * a2)]) (b := adM) (rest := []) (ci := 5) (q0 := 0) C (zc_X6_at l G cI adM qM1 qM2 qM3 qM4 qM5 qM6 qM7 qM8 qM12 qM13 qM15 qM16 qM17 qM18 qM19 qM20 qM21 M a1 ((2 : Int32) * a2) _ hF) (cwV 2 C.2.2.2.2.1 gX6_part_X6_at rfl rfl rfl zy_X6_at ⟨Nat.le_of_ble_eq_true rfl, Nat.le_of_ble_eq_true rfl⟩) rfl rfl rfl rfl rfl (Nat.le_of_ble_eq_true rfl) ⟨Nat.zero_le _, Nat.zero_le _⟩ dX6_part_5) [0, 1, 2, 3, 4, 5, 6, 7, 8, 9, 10, 11, 12, 13, 14, 15, 16, 17] [] rfl rfl rfl rfl rfl (fun _ => rfl) (fun _ => rfl) (fun _ => rfl) (fun v_1 uz hF => ?_)
  refine zv_aload_n (pc := 8) C rfl 0 rfl dX6_part_8 ?_
  refine zv_iload_n (pc := 9) C rfl 1 rfl dX6_part_9 ?_
  refine zv_iconst (pc := 10) (v := 2) C (by decide) dX6_part_10 ?_
  refine zv_iload_n (pc := 11) C rfl 2 rfl dX6_part_11 ?_
  refine zv_imul (pc := 12) C  dX6_part_12 ?_
  refine zv_iconst (pc := 13) (v := 1) C (by decide) dX6_part_13 ?_
  refine zv_iadd (pc := 14) C  dX6_part_14 ?_
  refine zv_ci0 (pc := 15) (ws' := (fun uz : Unit => (zd_X6_part cI adM qM1 qM2 qM3 qM4 qM5 qM6 qM7 qM8 qM12 qM13 qM15 qM16 qM17 qM18 qM19 qM20 qM21 M))) C (zv_runV (As := [.int a1, .int (((2 : Int32) * a2) + (1 : Int32))]) (b := adM) (rest := [.int v_1]) (ci := 5) (q0 := 0) C (zc_X6_at l G cI adM qM1 qM2 qM3 qM4 qM5 qM6 qM7 qM8 qM12 qM13 qM15 qM16 qM17 qM18 qM19 qM20 qM21 M a1 (((2 : Int32) * a2) + (1 : Int32)) _ hF) (cwV 2 C.2.2.2.2.1 gX6_part_X6_at rfl rfl rfl zy_X6_at ⟨Nat.le_of_ble_eq_true rfl, Nat.le_of_ble_eq_true rfl⟩) rfl rfl rfl rfl rfl (Nat.le_of_ble_eq_true rfl) ⟨Nat.zero_le _, Nat.zero_le _⟩ dX6_part_15) [0, 1, 2, 3, 4, 5, 6, 7, 8, 9, 10, 11, 12, 13, 14, 15, 16, 17] [] rfl rfl rfl rfl rfl (fun _ => rfl) (fun _ => rfl) (fun _ => rfl) (fun v_2 uz hF => ?_)
  refine zv_bipush (pc := 18) (v := 15) C (by decide) dX6_part_18 ?_
  refine zv_ishl (pc := 20) C  dX6_part_20 ?_
  refine zv_ior (pc := 21) C  dX6_part_21 ?_
  exact zv_iret (pc := 22) C hr hlk (v_1 ||| (v_2 <<< ((15 : Int32) &&& 31))) () hF rfl dX6_part_22
theorem zy_X6_power : yX6_power.cls ≠ "java/lang/invoke/MethodHandle" ∧ yX6_power.cls ≠ "java/lang/invoke/VarHandle" ∧ (parseMethodDescriptor yX6_power.desc).map (fun d => d.parameters.length) = some 2 := by decide +kernel
set_option maxHeartbeats 4000000 in
set_option maxRecDepth 100000 in
theorem zl_X6_power_5 {p : Program} {l : Launch} {e : Env} {s : State} {m : MethodId} {args : Array Value} {below : List Frame} {meth : Method} {c : Code} {G : va_G} {cI : ClassId} {A : Nat → Prop} {Q : State → Prop} (c0 : Int64) (c2 : Int32) (K21 : Int64 → Prop) (C : zv_C p s m args c cX6_power 6 RX6 wsX6_power G cI A) (hK21 : ∀ (p3 : Int64), K21 p3 → zv_V p l e (headSpec wsX6_power rmX6_power).room s m args below meth c Q G A 6 0 0 (zd_X6_power cI ) 21 [(3, .long p3)] []) : ∀ (k : Nat) (p3 : Int64) (p5 : Int32), zw_X6_power_5 c0 c2 K21 k p3 p5 → zv_V p l e (headSpec wsX6_power rmX6_power).room s m args below meth c Q G A 6 0 0 (zd_X6_power cI ) 5 [(0, .long c0), (2, .int c2), (3, .long p3), (5, .int p5)] [] := by
  intro k
  induction k with
  | zero => intro p3 p5 hF; exact (show False from hF).elim
  | succ k ih =>
    intro p3 p5 hF
    refine zv_iload (pc := 5) C 3 rfl dX6_power_5 ?_
    refine zv_iload_n (pc := 7) C rfl 1 rfl dX6_power_7 ?_
    refine zv_icmp_ge (pc := 8) (tgt := 21) C dX6_power_8 (by decide) (fun c_1 => ?_) (fun c_1 => ?_)
    · replace hF := And.left hF c_1
      exact zv_lvs [2] rfl (hK21 p3 hF)
    · replace hF := And.right hF c_1
      refine zv_lload_n (pc := 11) C rfl 2 rfl dX6_power_11 ?_
      refine zv_lload_n (pc := 12) C rfl 0 rfl dX6_power_12 ?_
      refine zv_lmul (pc := 13) C  dX6_power_13 ?_
      refine zv_topl (fun x3_2 ex3_2 => ?_)
      replace hF := hF x3_2 ex3_2
      refine zv_lstore_n (pc := 14) (lv' := [(3, .long x3_2), (0, .long c0), (2, .int c2), (5, .int p5)]) C rfl (by decide) rfl dX6_power_14 ?_
      obtain ⟨x5_3, ex5_3⟩ : ∃ y : Int32, y = p5 + (1 : Int32) := ⟨_, rfl⟩
      replace hF := hF x5_3 ex5_3
      refine zv_iinc (pc := 15) (v := x5_3) (lv' := [(5, .int x5_3), (3, .long x3_2), (0, .long c0), (2, .int c2)]) C 3 rfl (by rw [ex5_3]; rfl) (by decide) rfl dX6_power_15 ?_
      refine zv_goto (pc := 18) (tgt := 5) C dX6_power_18 (by decide) ?_
      exact zv_lvs [2, 3, 1, 0] rfl (ih x3_2 x5_3 hF)
set_option maxHeartbeats 4000000 in
set_option maxRecDepth 100000 in
theorem zc_X6_power (l : Launch) (G : va_G) (cI : ClassId) (a1 : Int64) (a2 : Int32) (post : Int64 → Prop) (hF : zw_X6_power a1 a2 post) (sz : Nat) : Met l yX6_power wsX6_power rmX6_power (va_Pc [.long a1, .int a2] (zv_in G cI (zd_X6_power cI ) sz)) (va_Ql (fun (rz : Int64) (uz : Unit) => post rz ) (fun (uz : Unit) t => zv_out G cI (va_A (zd_X6_power cI ) sz) (zd_X6_power cI ) t) (va_A (zd_X6_power cI ) sz)) 0 0 (va_A (zd_X6_power cI ) sz) := by
  refine zv_met (cc := cX6_power) (maxL := 6) (ret := (some .long)) (lv0 := [(0, .long a1), (2, .int a2)]) (Qc := fun A => va_Ql (fun (rz : Int64) (uz : Unit) => post rz ) (fun (uz : Unit) t => zv_out G cI A (zd_X6_power cI ) t) A) (by decide) rfl (Nat.le_of_ble_eq_true rfl) rfl ?_ sz
  intro p e s m below meth c A C hr hlk
  clear sz
  refine zv_lconst (pc := 0) (v := 1) C (by decide) dX6_power_0 ?_
  refine zv_lstore_n (pc := 1) (lv' := [(3, .long (1 : Int64)), (0, .long a1), (2, .int a2)]) C rfl (by decide) rfl dX6_power_1 ?_
  refine zv_iconst (pc := 2) (v := 0) C (by decide) dX6_power_2 ?_
  refine zv_istore (pc := 3) (lv' := [(5, .int (0 : Int32)), (3, .long (1 : Int64)), (0, .long a1), (2, .int a2)]) C (by decide) rfl dX6_power_3 ?_
  obtain ⟨kf, hF⟩ := hF
  refine zv_lvs [2, 3, 1, 0] rfl (zl_X6_power_5  a1 a2 _ C ?_ kf (1 : Int64) (0 : Int32) hF)
  · intro x3_4 hF
    refine zv_lload_n (pc := 21) C rfl 0 rfl dX6_power_21 ?_
    exact zv_lret (pc := 22) C hr hlk x3_4 () hF rfl dX6_power_22
theorem zy_X6_first : yX6_first.cls ≠ "java/lang/invoke/MethodHandle" ∧ yX6_first.cls ≠ "java/lang/invoke/VarHandle" ∧ (parseMethodDescriptor yX6_first.desc).map (fun d => d.parameters.length) = some 3 := by decide +kernel
set_option maxHeartbeats 4000000 in
set_option maxRecDepth 100000 in
theorem zl_X6_first_9 {p : Program} {l : Launch} {e : Env} {s : State} {m : MethodId} {args : Array Value} {below : List Frame} {meth : Method} {c : Code} {G : va_G} {cI : ClassId} {A : Nat → Prop} {Q : State → Prop} (c0 : Int32) (c1 : Int64) (c3 : Int64) (K46 : Int64 → Prop) (C : zv_C p s m args c cX6_first 12 RX6 wsX6_first G cI A) (hK46 : ∀ (p5 : Int64), K46 p5 → zv_V p l e (headSpec wsX6_first rmX6_first).room s m args below meth c Q G A 12 0 0 (zd_X6_first cI ) 46 [(5, .long p5)] []) : ∀ (k : Nat) (p5 : Int64) (p7 : Int64) (p9 : Int32), zw_X6_first_9 c0 c1 c3 K46 k p5 p7 p9 → zv_V p l e (headSpec wsX6_first rmX6_first).room s m args below meth c Q G A 12 0 0 (zd_X6_first cI ) 9 [(0, .int c0), (1, .long c1), (3, .long c3), (5, .long p5), (7, .long p7), (9, .int p9)] [] := by
  intro k
  induction k with
  | zero => intro p5 p7 p9 hF; exact (show False from hF).elim
  | succ k ih =>
    intro p5 p7 p9 hF
    refine zv_iload (pc := 9) C 5 rfl dX6_first_9 ?_
    refine zv_iload_n (pc := 11) C rfl 0 rfl dX6_first_11 ?_
    refine zv_icmp_ge (pc := 12) (tgt := 46) C dX6_first_12 (by decide) (fun c_1 => ?_) (fun c_1 => ?_)
    · replace hF := And.left hF c_1
      exact zv_lvs [3] rfl (hK46 p5 hF)
    · replace hF := And.right hF c_1
      refine zv_ldc2 (pc := 15) C (v := 2) (List.mem_of_getElem? (i := 1) rfl) dX6_first_15 ?_
      refine zv_lload_n (pc := 18) C rfl 1 rfl dX6_first_18 ?_
      refine zv_lmul (pc := 19) C  dX6_first_19 ?_
      refine zv_lload (pc := 20) C 4 rfl dX6_first_20 ?_
      refine zv_lmul (pc := 22) C  dX6_first_22 ?_
      refine zv_lload_n (pc := 23) C rfl 2 rfl dX6_first_23 ?_
      refine zv_lload_n (pc := 24) C rfl 2 rfl dX6_first_24 ?_
      refine zv_lmul (pc := 25) C  dX6_first_25 ?_
      refine zv_lload (pc := 26) C 3 rfl dX6_first_26 ?_
      refine zv_lmul (pc := 28) C  dX6_first_28 ?_
      refine zv_lsub (pc := 29) C  dX6_first_29 ?_
      refine zv_topl (fun x10_2 ex10_2 => ?_)
      replace hF := hF x10_2 ex10_2
      refine zv_lstore (pc := 30) (lv' := [(10, .long x10_2), (0, .int c0), (1, .long c1), (3, .long c3), (5, .long p5), (7, .long p7), (9, .int p9)]) C (by decide) rfl dX6_first_30 ?_
      refine zv_lload (pc := 32) C 5 rfl dX6_first_32 ?_
      refine zv_lstore (pc := 34) (lv' := [(5, .long p7), (10, .long x10_2), (0, .int c0), (1, .long c1), (3, .long c3), (7, .long p7), (9, .int p9)]) C (by decide) rfl dX6_first_34 ?_
      refine zv_lload (pc := 36) C 1 rfl dX6_first_36 ?_
      refine zv_lstore (pc := 38) (lv' := [(7, .long x10_2), (5, .long p7), (10, .long x10_2), (0, .int c0), (1, .long c1), (3, .long c3), (9, .int p9)]) C (by decide) rfl dX6_first_38 ?_
      obtain ⟨x9_3, ex9_3⟩ : ∃ y : Int32, y = p9 + (1 : Int32) := ⟨_, rfl⟩
      replace hF := hF x9_3 ex9_3
      refine zv_iinc (pc := 40) (v := x9_3) (lv' := [(9, .int x9_3), (7, .long x10_2), (5, .long p7), (10, .long x10_2), (0, .int c0), (1, .long c1), (3, .long c3)]) C 6 rfl (by rw [ex9_3]; rfl) (by decide) rfl dX6_first_40 ?_
      refine zv_goto (pc := 43) (tgt := 9) C dX6_first_43 (by decide) ?_
      exact zv_lvs [4, 5, 6, 2, 1, 0] rfl (ih p7 x10_2 x9_3 hF)
set_option maxHeartbeats 4000000 in
set_option maxRecDepth 100000 in
theorem zc_X6_first (l : Launch) (G : va_G) (cI : ClassId) (a1 : Int32) (a2 : Int64) (a3 : Int64) (post : Int64 → Prop) (hF : zw_X6_first a1 a2 a3 post) (sz : Nat) : Met l yX6_first wsX6_first rmX6_first (va_Pc [.int a1, .long a2, .long a3] (zv_in G cI (zd_X6_first cI ) sz)) (va_Ql (fun (rz : Int64) (uz : Unit) => post rz ) (fun (uz : Unit) t => zv_out G cI (va_A (zd_X6_first cI ) sz) (zd_X6_first cI ) t) (va_A (zd_X6_first cI ) sz)) 0 0 (va_A (zd_X6_first cI ) sz) := by
  refine zv_met (cc := cX6_first) (maxL := 12) (ret := (some .long)) (lv0 := [(0, .int a1), (1, .long a2), (3, .long a3)]) (Qc := fun A => va_Ql (fun (rz : Int64) (uz : Unit) => post rz ) (fun (uz : Unit) t => zv_out G cI A (zd_X6_first cI ) t) A) (by decide) rfl (Nat.le_of_ble_eq_true rfl) rfl ?_ sz
  intro p e s m below meth c A C hr hlk
  clear sz
  refine zv_lconst (pc := 0) (v := 1) C (by decide) dX6_first_0 ?_
  refine zv_lstore (pc := 1) (lv' := [(5, .long (1 : Int64)), (0, .int a1), (1, .long a2), (3, .long a3)]) C (by decide) rfl dX6_first_1 ?_
  refine zv_lload_n (pc := 3) C rfl 2 rfl dX6_first_3 ?_
  refine zv_lstore (pc := 4) (lv' := [(7, .long a2), (5, .long (1 : Int64)), (0, .int a1), (1, .long a2), (3, .long a3)]) C (by decide) rfl dX6_first_4 ?_
  refine zv_iconst (pc := 6) (v := 0) C (by decide) dX6_first_6 ?_
  refine zv_istore (pc := 7) (lv' := [(9, .int (0 : Int32)), (7, .long a2), (5, .long (1 : Int64)), (0, .int a1), (1, .long a2), (3, .long a3)]) C (by decide) rfl dX6_first_7 ?_
  obtain ⟨kf, hF⟩ := hF
  refine zv_lvs [3, 4, 5, 2, 1, 0] rfl (zl_X6_first_9  a1 a2 a3 _ C ?_ kf (1 : Int64) a2 (0 : Int32) hF)
  · intro x5_4 hF
    refine zv_lload (pc := 46) C 0 rfl dX6_first_46 ?_
    exact zv_lret (pc := 48) C hr hlk x5_4 () hF rfl dX6_first_48
theorem zy_X6_second : yX6_second.cls ≠ "java/lang/invoke/MethodHandle" ∧ yX6_second.cls ≠ "java/lang/invoke/VarHandle" ∧ (parseMethodDescriptor yX6_second.desc).map (fun d => d.parameters.length) = some 3 := by decide +kernel
set_option maxHeartbeats 4000000 in
set_option maxRecDepth 100000 in
theorem zl_X6_second_9 {p : Program} {l : Launch} {e : Env} {s : State} {m : MethodId} {args : Array Value} {below : List Frame} {meth : Method} {c : Code} {G : va_G} {cI : ClassId} {A : Nat → Prop} {Q : State → Prop} (c0 : Int32) (c1 : Int64) (c3 : Int64) (K46 : Int64 → Prop) (C : zv_C p s m args c cX6_second 12 RX6 wsX6_second G cI A) (hK46 : ∀ (p5 : Int64), K46 p5 → zv_V p l e (headSpec wsX6_second rmX6_second).room s m args below meth c Q G A 12 0 0 (zd_X6_second cI ) 46 [(5, .long p5)] []) : ∀ (k : Nat) (p5 : Int64) (p7 : Int64) (p9 : Int32), zw_X6_second_9 c0 c1 c3 K46 k p5 p7 p9 → zv_V p l e (headSpec wsX6_second rmX6_second).room s m args below meth c Q G A 12 0 0 (zd_X6_second cI ) 9 [(0, .int c0), (1, .long c1), (3, .long c3), (5, .long p5), (7, .long p7), (9, .int p9)] [] := by
  intro k
  induction k with
  | zero => intro p5 p7 p9 hF; exact (show False from hF).elim
  | succ k ih =>
    intro p5 p7 p9 hF
    refine zv_iload (pc := 9) C 5 rfl dX6_second_9 ?_
    refine zv_iload_n (pc := 11) C rfl 0 rfl dX6_second_11 ?_
    refine zv_icmp_ge (pc := 12) (tgt := 46) C dX6_second_12 (by decide) (fun c_1 => ?_) (fun c_1 => ?_)
    · replace hF := And.left hF c_1
      exact zv_lvs [3] rfl (hK46 p5 hF)
    · replace hF := And.right hF c_1
      refine zv_ldc2 (pc := 15) C (v := 2) (List.mem_of_getElem? (i := 1) rfl) dX6_second_15 ?_
      refine zv_lload_n (pc := 18) C rfl 1 rfl dX6_second_18 ?_
      refine zv_lmul (pc := 19) C  dX6_second_19 ?_
      refine zv_lload (pc := 20) C 4 rfl dX6_second_20 ?_
      refine zv_lmul (pc := 22) C  dX6_second_22 ?_
      refine zv_lload_n (pc := 23) C rfl 2 rfl dX6_second_23 ?_
      refine zv_lload_n (pc := 24) C rfl 2 rfl dX6_second_24 ?_
      refine zv_lmul (pc := 25) C  dX6_second_25 ?_
      refine zv_lload (pc := 26) C 3 rfl dX6_second_26 ?_
      refine zv_lmul (pc := 28) C  dX6_second_28 ?_
      refine zv_lsub (pc := 29) C  dX6_second_29 ?_
      refine zv_topl (fun x10_2 ex10_2 => ?_)
      replace hF := hF x10_2 ex10_2
      refine zv_lstore (pc := 30) (lv' := [(10, .long x10_2), (0, .int c0), (1, .long c1), (3, .long c3), (5, .long p5), (7, .long p7), (9, .int p9)]) C (by decide) rfl dX6_second_30 ?_
      refine zv_lload (pc := 32) C 5 rfl dX6_second_32 ?_
      refine zv_lstore (pc := 34) (lv' := [(5, .long p7), (10, .long x10_2), (0, .int c0), (1, .long c1), (3, .long c3), (7, .long p7), (9, .int p9)]) C (by decide) rfl dX6_second_34 ?_
      refine zv_lload (pc := 36) C 1 rfl dX6_second_36 ?_
      refine zv_lstore (pc := 38) (lv' := [(7, .long x10_2), (5, .long p7), (10, .long x10_2), (0, .int c0), (1, .long c1), (3, .long c3), (9, .int p9)]) C (by decide) rfl dX6_second_38 ?_
      obtain ⟨x9_3, ex9_3⟩ : ∃ y : Int32, y = p9 + (1 : Int32) := ⟨_, rfl⟩
      replace hF := hF x9_3 ex9_3
      refine zv_iinc (pc := 40) (v := x9_3) (lv' := [(9, .int x9_3), (7, .long x10_2), (5, .long p7), (10, .long x10_2), (0, .int c0), (1, .long c1), (3, .long c3)]) C 6 rfl (by rw [ex9_3]; rfl) (by decide) rfl dX6_second_40 ?_
      refine zv_goto (pc := 43) (tgt := 9) C dX6_second_43 (by decide) ?_
      exact zv_lvs [4, 5, 6, 2, 1, 0] rfl (ih p7 x10_2 x9_3 hF)
set_option maxHeartbeats 4000000 in
set_option maxRecDepth 100000 in
theorem zc_X6_second (l : Launch) (G : va_G) (cI : ClassId) (a1 : Int32) (a2 : Int64) (a3 : Int64) (post : Int64 → Prop) (hF : zw_X6_second a1 a2 a3 post) (sz : Nat) : Met l yX6_second wsX6_second rmX6_second (va_Pc [.int a1, .long a2, .long a3] (zv_in G cI (zd_X6_second cI ) sz)) (va_Ql (fun (rz : Int64) (uz : Unit) => post rz ) (fun (uz : Unit) t => zv_out G cI (va_A (zd_X6_second cI ) sz) (zd_X6_second cI ) t) (va_A (zd_X6_second cI ) sz)) 0 0 (va_A (zd_X6_second cI ) sz) := by
  refine zv_met (cc := cX6_second) (maxL := 12) (ret := (some .long)) (lv0 := [(0, .int a1), (1, .long a2), (3, .long a3)]) (Qc := fun A => va_Ql (fun (rz : Int64) (uz : Unit) => post rz ) (fun (uz : Unit) t => zv_out G cI A (zd_X6_second cI ) t) A) (by decide) rfl (Nat.le_of_ble_eq_true rfl) rfl ?_ sz
  intro p e s m below meth c A C hr hlk
  clear sz
  refine zv_lconst (pc := 0) (v := 0) C (by decide) dX6_second_0 ?_
  refine zv_lstore (pc := 1) (lv' := [(5, .long (0 : Int64)), (0, .int a1), (1, .long a2), (3, .long a3)]) C (by decide) rfl dX6_second_1 ?_
  refine zv_lconst (pc := 3) (v := 1) C (by decide) dX6_second_3 ?_
  refine zv_lstore (pc := 4) (lv' := [(7, .long (1 : Int64)), (5, .long (0 : Int64)), (0, .int a1), (1, .long a2), (3, .long a3)]) C (by decide) rfl dX6_second_4 ?_
  refine zv_iconst (pc := 6) (v := 0) C (by decide) dX6_second_6 ?_
  refine zv_istore (pc := 7) (lv' := [(9, .int (0 : Int32)), (7, .long (1 : Int64)), (5, .long (0 : Int64)), (0, .int a1), (1, .long a2), (3, .long a3)]) C (by decide) rfl dX6_second_7 ?_
  obtain ⟨kf, hF⟩ := hF
  refine zv_lvs [3, 4, 5, 2, 1, 0] rfl (zl_X6_second_9  a1 a2 a3 _ C ?_ kf (0 : Int64) (1 : Int64) (0 : Int32) hF)
  · intro x5_4 hF
    refine zv_lload (pc := 46) C 0 rfl dX6_second_46 ?_
    exact zv_lret (pc := 48) C hr hlk x5_4 () hF rfl dX6_second_48
