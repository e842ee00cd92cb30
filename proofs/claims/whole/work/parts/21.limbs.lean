/-! X1_set -/
def zd_X1_set (cI : ClassId) (qr : Nat) (nr : Nat) (r : zRow) : va_W := [(qr, .inl (cI, nr, .inl r))]
abbrev rmX1_set : Room := { frames := 0, cells := 0, slots := 0, locals := 0 }
def zw_X1_set_2 (nr : Nat) (c1 : Int32) (K26 : zRow → Prop) : Nat → Int32 → zRow → Prop
  | 0, _, _ => False
  | k + 1, p2, r => (((nI nr) ≤ p2 → (K26 r)) ∧ (¬ (nI nr) ≤ p2 → ((¬ p2 = 0 → (vp_in p2 nr ∧ ∀ r_4 : zRow, r_4 = (upd r (Int32.toNatClampNeg p2) (0 : Int32)) → (∀ x2_5 : Int32, x2_5 = p2 + (1 : Int32) → ((zw_X1_set_2 nr c1 K26 k x2_5 r_4))))) ∧ (p2 = 0 → (vp_in p2 nr ∧ ∀ r_7 : zRow, r_7 = (upd r (Int32.toNatClampNeg p2) c1) → (∀ x2_8 : Int32, x2_8 = p2 + (1 : Int32) → ((zw_X1_set_2 nr c1 K26 k x2_8 r_7))))))))
def zw_X1_set (nr : Nat) (r : zRow) (v : Int32) (post : zRow → Prop) : Prop := (∃ kf, zw_X1_set_2 nr v (fun (r_9 : zRow) => post r_9) kf (0 : Int32) r)
/-! X1_put -/
def zd_X1_put (cI : ClassId) (qr qf : Nat) (nr nf : Nat) (r : zRow) (f : zRow) : va_W := [(qr, .inl (cI, nr, .inl r)), (qf, .inl (cI, nf, .inl f))]
abbrev rmX1_put : Room := { frames := 0, cells := 0, slots := 0, locals := 0 }
def zw_X1_put_2 (nr nf : Nat) (f : zRow) (K30 : zRow → Prop) : Nat → Int32 → zRow → Prop
  | 0, _, _ => False
  | k + 1, p2, r => (((nI nr) ≤ p2 → (K30 r)) ∧ (¬ (nI nr) ≤ p2 → (((nI nf) ≤ p2 → (vp_in p2 nr ∧ ∀ r_4 : zRow, r_4 = (upd r (Int32.toNatClampNeg p2) (0 : Int32)) → (∀ x2_5 : Int32, x2_5 = p2 + (1 : Int32) → ((zw_X1_put_2 nr nf f K30 k x2_5 r_4))))) ∧ (¬ (nI nf) ≤ p2 → (vp_in p2 nf ∧ (vp_in p2 nr ∧ ∀ r_8 : zRow, r_8 = (upd r (Int32.toNatClampNeg p2) (f (Int32.toNatClampNeg p2))) → (∀ x2_9 : Int32, x2_9 = p2 + (1 : Int32) → ((zw_X1_put_2 nr nf f K30 k x2_9 r_8)))))))))
def zw_X1_put (nr nf : Nat) (r : zRow) (f : zRow) (post : zRow → Prop) : Prop := (∃ kf, zw_X1_put_2 nr nf f (fun (r_10 : zRow) => post r_10) kf (0 : Int32) r)
/-! X1_signOf -/
def zd_X1_signOf (cI : ClassId) (qr : Nat) (nr : Nat) (r : zRow) : va_W := [(qr, .inl (cI, nr, .inl r))]
abbrev rmX1_signOf : Room := { frames := 0, cells := 0, slots := 0, locals := 0 }
def zw_X1_signOf_5 (nr : Nat) (r : zRow) (K26 : Prop) (K34 : Prop) (K42 : Prop) : Nat → Int32 → Prop
  | 0, _ => False
  | k + 1, p1 => ((p1 < 0 → (K42 )) ∧ (¬ p1 < 0 → ((¬ p1 = ((nI nr) - (1 : Int32)) → (vp_in p1 nr ∧ (((r (Int32.toNatClampNeg p1)) = 0 → ∀ x1_6 : Int32, x1_6 = p1 + (-1 : Int32) → ((zw_X1_signOf_5 nr r K26 K34 K42 k x1_6))) ∧ (¬ (r (Int32.toNatClampNeg p1)) = 0 → (K34 ))))) ∧ (p1 = ((nI nr) - (1 : Int32)) → (vp_in p1 nr ∧ ((((r (Int32.toNatClampNeg p1)) >>> ((29 : Int32) &&& 31)) = 0 → (vp_in p1 nr ∧ (((r (Int32.toNatClampNeg p1)) = 0 → ∀ x1_11 : Int32, x1_11 = p1 + (-1 : Int32) → ((zw_X1_signOf_5 nr r K26 K34 K42 k x1_11))) ∧ (¬ (r (Int32.toNatClampNeg p1)) = 0 → (K34 ))))) ∧ (¬ ((r (Int32.toNatClampNeg p1)) >>> ((29 : Int32) &&& 31)) = 0 → (K26 ))))))))
def zw_X1_signOf (nr : Nat) (r : zRow) (post : Int32 → Prop) : Prop := ∀ x1_1 : Int32, x1_1 = ((nI nr) - (1 : Int32)) → ((∃ kf, zw_X1_signOf_5 nr r (post (-1 : Int32) ) (post (1 : Int32) ) (post (0 : Int32) ) kf x1_1))
/-! X1_putSize -/
def zd_X1_putSize (cI : ClassId) (qr qf : Nat) (nr nf : Nat) (r : zRow) (f : zRow) : va_W := [(qr, .inl (cI, nr, .inl r)), (qf, .inl (cI, nf, .inl f))]
abbrev rmX1_putSize : Room := { frames := 1, cells := 0, slots := 0, locals := 22 }
def zw_X1_putSize_17 (nr nf : Nat) (f : zRow) (K60 : zRow → Prop) : Nat → Int32 → Int32 → zRow → Prop
  | 0, _, _, _ => False
  | k + 1, p2, p3, r => (((nI nr) ≤ p3 → (K60 r)) ∧ (¬ (nI nr) ≤ p3 → (((nI nf) ≤ p3 → (vp_in p3 nr ∧ ∀ r_6 : zRow, r_6 = (upd r (Int32.toNatClampNeg p3) (0 : Int32)) → (∀ x3_7 : Int32, x3_7 = p3 + (1 : Int32) → ((zw_X1_putSize_17 nr nf f K60 k p2 x3_7 r_6))))) ∧ (¬ (nI nf) ≤ p3 → (vp_in p3 nf ∧ ∀ x2_9 : Int32, x2_9 = (p2 - (f (Int32.toNatClampNeg p3))) → ((vp_in p3 nr ∧ ∀ r_11 : zRow, r_11 = (upd r (Int32.toNatClampNeg p3) (x2_9 &&& (1073741823 : Int32))) → (∀ x2_12 : Int32, x2_12 = (x2_9 >>> ((30 : Int32) &&& 31)) → (∀ x3_13 : Int32, x3_13 = p3 + (1 : Int32) → ((zw_X1_putSize_17 nr nf f K60 k x2_12 x3_13 r_11)))))))))))
def zw_X1_putSize (nr nf : Nat) (r : zRow) (f : zRow) (post : zRow → Prop) : Prop := zw_X1_signOf nf f (fun (v_1 : Int32) => ((v_1 < 0 → (∃ kf, zw_X1_putSize_17 nr nf f (fun (r_14 : zRow) => post r_14) kf (0 : Int32) (0 : Int32) r)) ∧ (¬ v_1 < 0 → zw_X1_put nr nf r f (fun (r_15 : zRow) => post r_15))))
/-! X1_scale -/
def zd_X1_scale (cI : ClassId) (qr : Nat) (nr : Nat) (r : zRow) : va_W := [(qr, .inl (cI, nr, .inl r))]
abbrev rmX1_scale : Room := { frames := 0, cells := 0, slots := 0, locals := 0 }
def zw_X1_scale_5 (nr : Nat) (c1 : Int64) (K43 : zRow → Prop) : Nat → Int64 → Int32 → zRow → Prop
  | 0, _, _, _ => False
  | k + 1, p3, p5, r => (((nI nr) ≤ p5 → (K43 r)) ∧ (¬ (nI nr) ≤ p5 → (vp_in p5 nr ∧ ∀ x3_3 : Int64, x3_3 = (p3 + ((Int32.toInt64 (r (Int32.toNatClampNeg p5))) * c1)) → ((vp_in p5 nr ∧ ∀ r_5 : zRow, r_5 = (upd r (Int32.toNatClampNeg p5) (Int64.toInt32 (x3_3 &&& (1073741823 : Int64)))) → (∀ x3_6 : Int64, x3_6 = (x3_3 >>> (Int32.toInt64 (30 : Int32) &&& 63)) → (∀ x5_7 : Int32, x5_7 = p5 + (1 : Int32) → ((zw_X1_scale_5 nr c1 K43 k x3_6 x5_7 r_5)))))))))
def zw_X1_scale (nr : Nat) (r : zRow) (fa : Int64) (post : zRow → Prop) : Prop := (∃ kf, zw_X1_scale_5 nr fa (fun (r_8 : zRow) => post r_8) kf (0 : Int64) (0 : Int32) r)
/-! X1_gain -/
def zd_X1_gain (cI : ClassId) (qr qo : Nat) (nr no : Nat) (r : zRow) (o : zRow) : va_W := [(qr, .inl (cI, nr, .inl r)), (qo, .inl (cI, no, .inl o))]
abbrev rmX1_gain : Room := { frames := 0, cells := 0, slots := 0, locals := 0 }
def zw_X1_gain_6 (nr no : Nat) (o : zRow) (c2 : Int64) (K62 : zRow → Prop) : Nat → Int64 → Int32 → zRow → Prop
  | 0, _, _, _ => False
  | k + 1, p4, p6, r => (((nI nr) ≤ p6 → (K62 r)) ∧ (¬ (nI nr) ≤ p6 → (((nI no) ≤ p6 → (K62 r)) ∧ (¬ (nI no) ≤ p6 → (vp_in p6 nr ∧ (vp_in p6 no ∧ ∀ x4_5 : Int64, x4_5 = (p4 + ((Int32.toInt64 (r (Int32.toNatClampNeg p6))) + ((Int32.toInt64 (o (Int32.toNatClampNeg p6))) * c2))) → ((vp_in p6 nr ∧ ∀ r_7 : zRow, r_7 = (upd r (Int32.toNatClampNeg p6) (Int64.toInt32 (x4_5 &&& (1073741823 : Int64)))) → (∀ x4_8 : Int64, x4_8 = (x4_5 >>> (Int32.toInt64 (30 : Int32) &&& 63)) → (∀ x6_9 : Int32, x6_9 = p6 + (1 : Int32) → ((zw_X1_gain_6 nr no o c2 K62 k x4_8 x6_9 r_7))))))))))))
def zw_X1_gain (nr no : Nat) (r : zRow) (o : zRow) (fa : Int64) (post : zRow → Prop) : Prop := (∃ kf, zw_X1_gain_6 nr no o fa (fun (r_10 : zRow) => post r_10) kf (0 : Int64) (0 : Int32) r)
/-! X1_gainRaised -/
def zd_X1_gainRaised (cI : ClassId) (qr qo : Nat) (nr no : Nat) (r : zRow) (o : zRow) : va_W := [(qr, .inl (cI, nr, .inl r)), (qo, .inl (cI, no, .inl o))]
abbrev rmX1_gainRaised : Room := { frames := 0, cells := 0, slots := 0, locals := 0 }
def zw_X1_gainRaised_16 (nr no : Nat) (o : zRow) (c2 : Int64) (K93 : zRow → Prop) : Nat → Int64 → Int32 → Int32 → zRow → Prop
  | 0, _, _, _, _ => False
  | k + 1, p5, p7, p8, r => (((nI nr) ≤ p7 → (K93 r)) ∧ (¬ (nI nr) ≤ p7 → (∃ KJ_4 : Prop, (KJ_4  → (vp_in p7 nr ∧ (∃ KJ_8 : Int64 → Prop, (∀ (v_7 : Int64), KJ_8 v_7 → ∀ x5_9 : Int64, x5_9 = (p5 + ((Int32.toInt64 (r (Int32.toNatClampNeg p7))) + v_7)) → ((vp_in p7 nr ∧ ∀ r_11 : zRow, r_11 = (upd r (Int32.toNatClampNeg p7) (Int64.toInt32 (x5_9 &&& (1073741823 : Int64)))) → (∀ x5_12 : Int64, x5_12 = (x5_9 >>> (Int32.toInt64 (30 : Int32) &&& 63)) → (∀ x7_13 : Int32, x7_13 = p7 + (1 : Int32) → (∀ x8_14 : Int32, x8_14 = p8 + (1 : Int32) → ((zw_X1_gainRaised_16 nr no o c2 K93 k x5_12 x7_13 x8_14 r_11)))))))) ∧ (((nI no) ≤ p8 → (KJ_8 (0 : Int64))) ∧ (¬ (nI no) ≤ p8 → (vp_in p8 no ∧ (KJ_8 ((Int32.toInt64 (o (Int32.toNatClampNeg p8))) * c2)))))))) ∧ ((p8 < (nI no) → (KJ_4 )) ∧ (¬ p8 < (nI no) → (((lg_cmp p5 (0 : Int64)) = 0 → (K93 r)) ∧ (¬ (lg_cmp p5 (0 : Int64)) = 0 → (KJ_4 ))))))))
def zw_X1_gainRaised (nr no : Nat) (r : zRow) (o : zRow) (fa : Int64) (pl : Int32) (post : zRow → Prop) : Prop := ((0 ≤ pl → (∃ kf, zw_X1_gainRaised_16 nr no o fa (fun (r_17 : zRow) => post r_17) kf (0 : Int64) pl (0 : Int32) r)) ∧ (¬ 0 ≤ pl → post r))
/-! X1_multiply -/
def zd_X1_multiply (cI : ClassId) (qr qa qb : Nat) (nr na nb : Nat) (r : zRow) (a : zRow) (b : zRow) : va_W := [(qr, .inl (cI, nr, .inl r)), (qa, .inl (cI, na, .inl a)), (qb, .inl (cI, nb, .inl b))]
abbrev rmX1_multiply : Room := { frames := 1, cells := 0, slots := 0, locals := 28 }
def zw_X1_multiply_7 (nr na nb : Nat) (a : zRow) (b : zRow) (K35 : zRow → Prop) : Nat → Int32 → zRow → Prop
  | 0, _, _ => False
  | k + 1, p3, r => (((nI na) ≤ p3 → (K35 r)) ∧ (¬ (nI na) ≤ p3 → (vp_in p3 na ∧ (((a (Int32.toNatClampNeg p3)) = 0 → ∀ x3_5 : Int32, x3_5 = p3 + (1 : Int32) → ((zw_X1_multiply_7 nr na nb a b K35 k x3_5 r))) ∧ (¬ (a (Int32.toNatClampNeg p3)) = 0 → (vp_in p3 na ∧ zw_X1_gainRaised nr nb r b (Int32.toInt64 (a (Int32.toNatClampNeg p3))) p3 (fun (r_7 : zRow) => ∀ x3_8 : Int32, x3_8 = p3 + (1 : Int32) → ((zw_X1_multiply_7 nr na nb a b K35 k x3_8 r_7)))))))))
def zw_X1_multiply (nr na nb : Nat) (r : zRow) (a : zRow) (b : zRow) (post : zRow → Prop) : Prop := zw_X1_set nr r (0 : Int32) (fun (r_1 : zRow) => (∃ kf, zw_X1_multiply_7 nr na nb a b (fun (r_9 : zRow) => post r_9) kf (0 : Int32) r_1))
/-! X1_multiply_sq -/
def zd_X1_multiply_sq (cI : ClassId) (qr qa : Nat) (nr na : Nat) (r : zRow) (a : zRow) : va_W := [(qr, .inl (cI, nr, .inl r)), (qa, .inl (cI, na, .inl a))]
abbrev rmX1_multiply_sq : Room := { frames := 1, cells := 0, slots := 0, locals := 28 }
def zw_X1_multiply_sq_7 (nr na : Nat) (a : zRow) (K35 : zRow → Prop) : Nat → Int32 → zRow → Prop
  | 0, _, _ => False
  | k + 1, p3, r => (((nI na) ≤ p3 → (K35 r)) ∧ (¬ (nI na) ≤ p3 → (vp_in p3 na ∧ (((a (Int32.toNatClampNeg p3)) = 0 → ∀ x3_5 : Int32, x3_5 = p3 + (1 : Int32) → ((zw_X1_multiply_sq_7 nr na a K35 k x3_5 r))) ∧ (¬ (a (Int32.toNatClampNeg p3)) = 0 → (vp_in p3 na ∧ zw_X1_gainRaised nr na r a (Int32.toInt64 (a (Int32.toNatClampNeg p3))) p3 (fun (r_7 : zRow) => ∀ x3_8 : Int32, x3_8 = p3 + (1 : Int32) → ((zw_X1_multiply_sq_7 nr na a K35 k x3_8 r_7)))))))))
def zw_X1_multiply_sq (nr na : Nat) (r : zRow) (a : zRow) (post : zRow → Prop) : Prop := zw_X1_set nr r (0 : Int32) (fun (r_1 : zRow) => (∃ kf, zw_X1_multiply_sq_7 nr na a (fun (r_9 : zRow) => post r_9) kf (0 : Int32) r_1))
/-! X1_compare -/
def zd_X1_compare (cI : ClassId) (qa qb : Nat) (na nb : Nat) (a : zRow) (b : zRow) : va_W := [(qa, .inl (cI, na, .inl a)), (qb, .inl (cI, nb, .inl b))]
abbrev rmX1_compare : Room := { frames := 1, cells := 0, slots := 0, locals := 21 }
def zw_X1_compare_14 (na nb : Nat) (a : zRow) (b : zRow) (K27 : Int32 → Prop) (K48 : Prop) : Nat → Int32 → Prop
  | 0, _ => False
  | k + 1, p3 => ((p3 < 0 → (K48 )) ∧ (¬ p3 < 0 → (vp_in p3 na ∧ (vp_in p3 nb ∧ (((a (Int32.toNatClampNeg p3)) = (b (Int32.toNatClampNeg p3)) → ∀ x3_6 : Int32, x3_6 = p3 + (-1 : Int32) → ((zw_X1_compare_14 na nb a b K27 K48 k x3_6))) ∧ (¬ (a (Int32.toNatClampNeg p3)) = (b (Int32.toNatClampNeg p3)) → (K27 p3)))))))
def zw_X1_compare (na nb : Nat) (a : zRow) (b : zRow) (top : Int32) (post : Int32 → Prop) : Prop := ∀ x3_1 : Int32, x3_1 = ((if (if (nI nb) < (nI na) then (nI nb) else (nI na)) < top then (if (nI nb) < (nI na) then (nI nb) else (nI na)) else top) - (1 : Int32)) → ((∃ kf, zw_X1_compare_14 na nb a b (fun (x3_7 : Int32) => (vp_in x3_7 na ∧ (vp_in x3_7 nb ∧ (((b (Int32.toNatClampNeg x3_7)) ≤ (a (Int32.toNatClampNeg x3_7)) → post (1 : Int32) ) ∧ (¬ (b (Int32.toNatClampNeg x3_7)) ≤ (a (Int32.toNatClampNeg x3_7)) → post (-1 : Int32) ))))) (post (0 : Int32) ) kf x3_1))
/-! J6_numberOfTrailingZeros_0f7a4 -/
def zd_J6_numberOfTrailingZeros_0f7a4 (cI : ClassId) : va_W := []
abbrev rmJ6_numberOfTrailingZeros_0f7a4 : Room := { frames := 0, cells := 0, slots := 0, locals := 0 }
def zw_J6_numberOfTrailingZeros_0f7a4 (i : Int32) (post : Int32 → Prop) : Prop := ∀ x0_1 : Int32, x0_1 = ((i ^^^ (-1 : Int32)) &&& (i - (1 : Int32))) → (((0 < x0_1 → (∃ KJ_6 : Int32 → Int32 → Prop, (∀ (x0_4 : Int32) (x1_5 : Int32), KJ_6 x0_4 x1_5 → (∃ KJ_10 : Int32 → Int32 → Prop, (∀ (x0_8 : Int32) (x1_9 : Int32), KJ_10 x0_8 x1_9 → (∃ KJ_14 : Int32 → Int32 → Prop, (∀ (x0_12 : Int32) (x1_13 : Int32), KJ_14 x0_12 x1_13 → ((x0_12 ≤ (4 : Int32) → post (x1_13 + ((Int32.toUInt32 x0_12 >>> (Int32.toUInt32 (1 : Int32) &&& Int32.toUInt32 31)).toInt32)) ) ∧ (¬ x0_12 ≤ (4 : Int32) → ∀ x1_16 : Int32, x1_16 = x1_13 + (2 : Int32) → (∀ x0_17 : Int32, x0_17 = (Int32.toUInt32 x0_12 >>> (Int32.toUInt32 (2 : Int32) &&& Int32.toUInt32 31)).toInt32 → (post (x1_16 + ((Int32.toUInt32 x0_17 >>> (Int32.toUInt32 (1 : Int32) &&& Int32.toUInt32 31)).toInt32)) ))))) ∧ ((x0_8 ≤ (16 : Int32) → (KJ_14 x0_8 x1_9)) ∧ (¬ x0_8 ≤ (16 : Int32) → ∀ x1_18 : Int32, x1_18 = x1_9 + (4 : Int32) → (∀ x0_19 : Int32, x0_19 = (Int32.toUInt32 x0_8 >>> (Int32.toUInt32 (4 : Int32) &&& Int32.toUInt32 31)).toInt32 → ((KJ_14 x0_19 x1_18))))))) ∧ ((x0_4 ≤ (256 : Int32) → (KJ_10 x0_4 x1_5)) ∧ (¬ x0_4 ≤ (256 : Int32) → ∀ x1_20 : Int32, x1_20 = x1_5 + (8 : Int32) → (∀ x0_21 : Int32, x0_21 = (Int32.toUInt32 x0_4 >>> (Int32.toUInt32 (8 : Int32) &&& Int32.toUInt32 31)).toInt32 → ((KJ_10 x0_21 x1_20))))))) ∧ ((x0_1 ≤ (65536 : Int32) → (KJ_6 x0_1 (1 : Int32))) ∧ (¬ x0_1 ≤ (65536 : Int32) → ∀ x1_22 : Int32, x1_22 = (1 : Int32) + (16 : Int32) → (∀ x0_23 : Int32, x0_23 = (Int32.toUInt32 x0_1 >>> (Int32.toUInt32 (16 : Int32) &&& Int32.toUInt32 31)).toInt32 → ((KJ_6 x0_23 x1_22))))))) ∧ (¬ 0 < x0_1 → post (x0_1 &&& (32 : Int32)) )))
/-! X1_twosOf -/
def zd_X1_twosOf (cI : ClassId) (qr : Nat) (nr : Nat) (r : zRow) : va_W := [(qr, .inl (cI, nr, .inl r))]
abbrev rmX1_twosOf : Room := { frames := 1, cells := 0, slots := 0, locals := 21 }
def zw_X1_twosOf_2 (nr : Nat) (r : zRow) (c1 : Int32) (K19 : Int32 → Prop) (K37 : Prop) : Nat → Int32 → Prop
  | 0, _ => False
  | k + 1, p2 => ((c1 ≤ p2 → (K37 )) ∧ (¬ c1 ≤ p2 → (((nI nr) ≤ p2 → (K37 )) ∧ (¬ (nI nr) ≤ p2 → (vp_in p2 nr ∧ (((r (Int32.toNatClampNeg p2)) = 0 → ∀ x2_5 : Int32, x2_5 = p2 + (1 : Int32) → ((zw_X1_twosOf_2 nr r c1 K19 K37 k x2_5))) ∧ (¬ (r (Int32.toNatClampNeg p2)) = 0 → (K19 p2))))))))
def zw_X1_twosOf (nr : Nat) (r : zRow) (top : Int32) (post : Int32 → Prop) : Prop := (∃ kf, zw_X1_twosOf_2 nr r top (fun (x2_6 : Int32) => (vp_in x2_6 nr ∧ zw_J6_numberOfTrailingZeros_0f7a4 (r (Int32.toNatClampNeg x2_6)) (fun (v_8 : Int32) => post ((x2_6 * (30 : Int32)) + v_8) ))) (post (0 : Int32) ) kf (0 : Int32))
/-! X1_shiftDown -/
def zd_X1_shiftDown (cI : ClassId) (qr : Nat) (nr : Nat) (r : zRow) : va_W := [(qr, .inl (cI, nr, .inl r))]
abbrev rmX1_shiftDown : Room := { frames := 1, cells := 0, slots := 0, locals := 21 }
def zw_X1_shiftDown_27 (nr : Nat) (c3 : Int32) (c4 : Int32) (c5 : Int32) (K103 : zRow → Prop) : Nat → Int32 → zRow → Prop
  | 0, _, _ => False
  | k + 1, p6, r => ((c3 ≤ p6 → (K103 r)) ∧ (¬ c3 ≤ p6 → ∀ x7_8 : Int32, x7_8 = (p6 + c4) → ((∃ KJ_11 : Int32 → Prop, (∀ (v_10 : Int32), KJ_11 v_10 → ((c3 ≤ (x7_8 + (1 : Int32)) → (vp_in p6 nr ∧ ∀ r_14 : zRow, r_14 = (upd r (Int32.toNatClampNeg p6) (v_10 ||| (0 : Int32))) → (∀ x6_15 : Int32, x6_15 = p6 + (1 : Int32) → ((zw_X1_shiftDown_27 nr c3 c4 c5 K103 k x6_15 r_14))))) ∧ (¬ c3 ≤ (x7_8 + (1 : Int32)) → (vp_in (x7_8 + (1 : Int32)) nr ∧ ∀ x9_17 : Int32, x9_17 = (((r (Int32.toNatClampNeg (x7_8 + (1 : Int32)))) <<< (((30 : Int32) - c5) &&& 31)) &&& (1073741823 : Int32)) → ((vp_in p6 nr ∧ ∀ r_19 : zRow, r_19 = (upd r (Int32.toNatClampNeg p6) (v_10 ||| x9_17)) → (∀ x6_20 : Int32, x6_20 = p6 + (1 : Int32) → ((zw_X1_shiftDown_27 nr c3 c4 c5 K103 k x6_20 r_19))))))))) ∧ ((c3 ≤ x7_8 → (KJ_11 (0 : Int32))) ∧ (¬ c3 ≤ x7_8 → (vp_in x7_8 nr ∧ (KJ_11 ((Int32.toUInt32 (r (Int32.toNatClampNeg x7_8)) >>> (Int32.toUInt32 c5 &&& Int32.toUInt32 31)).toInt32)))))))))
def zw_X1_shiftDown (nr : Nat) (r : zRow) (bits : Int32) (top : Int32) (post : zRow → Prop) : Prop := ((0 < bits → ∀ x3_2 : Int32, x3_2 = (if (nI nr) < top then (nI nr) else top) → ((¬ (30 : Int32) = 0 ∧ ∀ x4_4 : Int32, x4_4 = (bits / (30 : Int32)) → ((¬ (30 : Int32) = 0 ∧ ∀ x5_6 : Int32, x5_6 = (bits - bits / (30 : Int32) * (30 : Int32)) → ((∃ kf, zw_X1_shiftDown_27 nr x3_2 x4_4 x5_6 (fun (r_22 : zRow) => post r_22) kf (0 : Int32) r))))))) ∧ (¬ 0 < bits → post r))
/-! X1_takeOff -/
def zd_X1_takeOff (cI : ClassId) (qr qb : Nat) (nr nb : Nat) (r : zRow) (b : zRow) : va_W := [(qr, .inl (cI, nr, .inl r)), (qb, .inl (cI, nb, .inl b))]
abbrev rmX1_takeOff : Room := { frames := 2, cells := 0, slots := 0, locals := 50 }
def zw_X1_takeOff_5 (nr nb : Nat) (b : zRow) (c2 : Int32) (K56 : zRow → Prop) : Nat → Int32 → Int32 → zRow → Prop
  | 0, _, _, _ => False
  | k + 1, p3, p4, r => ((c2 ≤ p4 → (K56 r)) ∧ (¬ c2 ≤ p4 → (((nI nr) ≤ p4 → (K56 r)) ∧ (¬ (nI nr) ≤ p4 → (((nI nb) ≤ p4 → (K56 r)) ∧ (¬ (nI nb) ≤ p4 → (vp_in p4 nr ∧ (vp_in p4 nb ∧ ∀ x3_6 : Int32, x3_6 = (p3 + ((r (Int32.toNatClampNeg p4)) - (b (Int32.toNatClampNeg p4)))) → ((vp_in p4 nr ∧ ∀ r_8 : zRow, r_8 = (upd r (Int32.toNatClampNeg p4) (x3_6 &&& (1073741823 : Int32))) → (∀ x3_9 : Int32, x3_9 = (x3_6 >>> ((30 : Int32) &&& 31)) → (∀ x4_10 : Int32, x4_10 = p4 + (1 : Int32) → ((zw_X1_takeOff_5 nr nb b c2 K56 k x3_9 x4_10 r_8))))))))))))))
def zw_X1_takeOff (nr nb : Nat) (r : zRow) (b : zRow) (top : Int32) (post : zRow → Prop) : Prop := (∃ kf, zw_X1_takeOff_5 nr nb b top (fun (r_11 : zRow) => zw_X1_twosOf nr r_11 top (fun (v_12 : Int32) => zw_X1_shiftDown nr r_11 v_12 top (fun (r_13 : zRow) => post r_13))) kf (0 : Int32) (0 : Int32) r)
/-! X1_meetAtDivisor -/
def zd_X1_meetAtDivisor (cI : ClassId) (qa qb : Nat) (na nb : Nat) (a : zRow) (b : zRow) : va_W := [(qa, .inl (cI, na, .inl a)), (qb, .inl (cI, nb, .inl b))]
abbrev rmX1_meetAtDivisor : Room := { frames := 3, cells := 0, slots := 0, locals := 74 }
def zw_X1_meetAtDivisor_17 (na nb : Nat) (a : zRow) (b : zRow) (c3 : Int32) (K44 : Int32 → Prop) : Nat → Int32 → Prop
  | 0, _ => False
  | k + 1, p2 => ((p2 ≤ (1 : Int32) → (K44 p2)) ∧ (¬ p2 ≤ (1 : Int32) → (vp_in (p2 - (1 : Int32)) na ∧ ((¬ (a (Int32.toNatClampNeg (p2 - (1 : Int32)))) = 0 → (K44 p2)) ∧ ((a (Int32.toNatClampNeg (p2 - (1 : Int32)))) = 0 → (vp_in (p2 - (1 : Int32)) nb ∧ ((¬ (b (Int32.toNatClampNeg (p2 - (1 : Int32)))) = 0 → (K44 p2)) ∧ ((b (Int32.toNatClampNeg (p2 - (1 : Int32)))) = 0 → ∀ x2_9 : Int32, x2_9 = p2 + (-1 : Int32) → ((zw_X1_meetAtDivisor_17 na nb a b c3 K44 k x2_9))))))))))
def zw_X1_meetAtDivisor_13 (na nb : Nat) (K57 : zRow → zRow → Prop) (K84 : zRow → zRow → Prop) : Nat → Int32 → Int32 → zRow → zRow → Prop
  | 0, _, _, _, _ => False
  | k + 1, p2, p3, a, b => ((p3 ≤ 0 → (K84 a b)) ∧ (¬ p3 ≤ 0 → (∃ kf, zw_X1_meetAtDivisor_17 na nb a b p3 (fun (x2_10 : Int32) => zw_X1_compare na nb a b x2_10 (fun (v_11 : Int32) => ((¬ v_11 = 0 → ((v_11 ≤ 0 → zw_X1_takeOff nb na b a x2_10 (fun (r_14 : zRow) => ∀ x3_15 : Int32, x3_15 = p3 + (-1 : Int32) → ((zw_X1_meetAtDivisor_13 na nb K57 K84 k x2_10 x3_15 a r_14)))) ∧ (¬ v_11 ≤ 0 → zw_X1_takeOff na nb a b x2_10 (fun (r_16 : zRow) => ∀ x3_17 : Int32, x3_17 = p3 + (-1 : Int32) → ((zw_X1_meetAtDivisor_13 na nb K57 K84 k x2_10 x3_17 r_16 b)))))) ∧ (v_11 = 0 → (K57 a b))))) kf p2)))
def zw_X1_meetAtDivisor (na nb : Nat) (a : zRow) (b : zRow) (post : zRow → zRow → Prop) : Prop := ∀ x2_1 : Int32, x2_1 = (if (nI nb) < (nI na) then (nI nb) else (nI na)) → (∀ x3_2 : Int32, x3_2 = ((60 : Int32) * x2_1) → ((∃ kf, zw_X1_meetAtDivisor_13 na nb (fun (r_18 : zRow) (r_19 : zRow) => post r_18 r_19) (fun (r_20 : zRow) (r_21 : zRow) => post r_20 r_21) kf x2_1 x3_2 a b)))
/-! X1_inverseOf -/
def zd_X1_inverseOf (cI : ClassId) : va_W := []
abbrev rmX1_inverseOf : Room := { frames := 0, cells := 0, slots := 0, locals := 0 }
def zw_X1_inverseOf_4 (c0 : Int32) (K23 : Int32 → Prop) : Nat → Int32 → Int32 → Prop
  | 0, _, _ => False
  | k + 1, p1, p2 => (((4 : Int32) ≤ p2 → (K23 p1)) ∧ (¬ (4 : Int32) ≤ p2 → ∀ x1_2 : Int32, x1_2 = (p1 * ((2 : Int32) - (c0 * p1))) → (∀ x2_3 : Int32, x2_3 = p2 + (1 : Int32) → ((zw_X1_inverseOf_4 c0 K23 k x1_2 x2_3)))))
def zw_X1_inverseOf (odd : Int32) (post : Int32 → Prop) : Prop := (∃ kf, zw_X1_inverseOf_4 odd (fun (x1_4 : Int32) => post x1_4 ) kf odd (0 : Int32))
/-! X1_divideExactly -/
def zd_X1_divideExactly (cI : ClassId) (qr qb : Nat) (nr nb : Nat) (r : zRow) (b : zRow) : va_W := [(qr, .inl (cI, nr, .inl r)), (qb, .inl (cI, nb, .inl b))]
abbrev rmX1_divideExactly : Room := { frames := 1, cells := 0, slots := 0, locals := 28 }
def zw_X1_divideExactly_15 (nr nb : Nat) (b : zRow) (c2 : Int32) (K52 : zRow → Prop) : Nat → Int32 → zRow → Prop
  | 0, _, _ => False
  | k + 1, p3, r => (((nI nr) ≤ p3 → (K52 r)) ∧ (¬ (nI nr) ≤ p3 → (vp_in p3 nr ∧ ∀ x4_6 : Int32, x4_6 = (((r (Int32.toNatClampNeg p3)) * c2) &&& (1073741823 : Int32)) → (zw_X1_gainRaised nr nb r b (Int32.toInt64 (-x4_6)) p3 (fun (r_7 : zRow) => (vp_in p3 nr ∧ ∀ r_9 : zRow, r_9 = (upd r_7 (Int32.toNatClampNeg p3) x4_6) → (∀ x3_10 : Int32, x3_10 = p3 + (1 : Int32) → ((zw_X1_divideExactly_15 nr nb b c2 K52 k x3_10 r_9)))))))))
def zw_X1_divideExactly (nr nb : Nat) (r : zRow) (b : zRow) (post : zRow → Prop) : Prop := ((¬ (nI nb) = 0 → (vp_in (0 : Int32) nb ∧ zw_X1_inverseOf (b (Int32.toNatClampNeg (0 : Int32))) (fun (v_3 : Int32) => (∃ kf, zw_X1_divideExactly_15 nr nb b v_3 (fun (r_11 : zRow) => post r_11) kf (0 : Int32) r)))) ∧ ((nI nb) = 0 → post r))
theorem zy_X1_set : yX1_set.cls ≠ "java/lang/invoke/MethodHandle" ∧ yX1_set.cls ≠ "java/lang/invoke/VarHandle" ∧ (parseMethodDescriptor yX1_set.desc).map (fun d => d.parameters.length) = some 2 := by decide +kernel
set_option maxHeartbeats 4000000 in
set_option maxRecDepth 100000 in
theorem zl_X1_set_2 {p : Program} {l : Launch} {e : Env} {s : State} {m : MethodId} {args : Array Value} {below : List Frame} {meth : Method} {c : Code} {G : va_G} {cI : ClassId} {A : Nat → Prop} {Q : State → Prop} (qr : Nat) (nr : Nat) (c1 : Int32) (K26 : zRow → Prop) (C : zv_C p s m args c cX1_set 3 RX1 wsX1_set G cI A) (hK26 : ∀ (r : zRow), K26 r → zv_V p l e (headSpec wsX1_set rmX1_set).room s m args below meth c Q G A 3 0 0 (zd_X1_set cI qr nr r) 26 [] []) : ∀ (k : Nat) (p2 : Int32) (r : zRow), zw_X1_set_2 nr c1 K26 k p2 r → zv_V p l e (headSpec wsX1_set rmX1_set).room s m args below meth c Q G A 3 0 0 (zd_X1_set cI qr nr r) 2 [(0, .ref qr), (1, .int c1), (2, .int p2)] [] := by
  intro k
  induction k with
  | zero => intro p2 r hF; exact (show False from hF).elim
  | succ k ih =>
    intro p2 r hF
    refine zv_iload_n (pc := 2) C rfl 2 rfl dX1_set_2 ?_
    refine zv_aload_n (pc := 3) C rfl 0 rfl dX1_set_3 ?_
    refine zv_alen (pc := 4) (n := nr) (f := r) (v := (nI nr)) C 0 rfl rfl dX1_set_4 ?_
    refine zv_icmp_ge (pc := 5) (tgt := 26) C dX1_set_5 (by decide) (fun c_1 => ?_) (fun c_1 => ?_)
    · replace hF := And.left hF c_1
      exact zv_lvs [] rfl (hK26 r hF)
    · replace hF := And.right hF c_1
      refine zv_aload_n (pc := 8) C rfl 0 rfl dX1_set_8 ?_
      refine zv_iload_n (pc := 9) C rfl 2 rfl dX1_set_9 ?_
      refine zv_iload_n (pc := 10) C rfl 2 rfl dX1_set_10 ?_
      refine zv_if_ne (pc := 11) (tgt := 18) C dX1_set_11 (by decide) (fun c_2 => ?_) (fun c_2 => ?_)
      · replace hF := And.left hF c_2
        refine zv_iconst (pc := 18) (v := 0) C (by decide) dX1_set_18 ?_
        obtain ⟨h_3, hF⟩ := hF
        obtain ⟨r_4, er_4⟩ : ∃ y : zRow, y = (upd r (Int32.toNatClampNeg p2) (0 : Int32)) := ⟨_, rfl⟩
        replace hF := hF r_4 er_4
        refine zv_iast (pc := 19) (n := nr) (f := r) (ws' := (zd_X1_set cI qr nr r_4)) C 0 h_3 rfl (by rw [er_4]; rfl) dX1_set_19 ?_
        obtain ⟨x2_5, ex2_5⟩ : ∃ y : Int32, y = p2 + (1 : Int32) := ⟨_, rfl⟩
        replace hF := hF x2_5 ex2_5
        refine zv_iinc (pc := 20) (v := x2_5) (lv' := [(2, .int x2_5), (0, .ref qr), (1, .int c1)]) C 2 rfl (by rw [ex2_5]; rfl) (by decide) rfl dX1_set_20 ?_
        refine zv_goto (pc := 23) (tgt := 2) C dX1_set_23 (by decide) ?_
        exact zv_lvs [1, 2, 0] rfl (ih x2_5 r_4 hF)
      · replace hF := And.right hF c_2
        refine zv_iload_n (pc := 14) C rfl 1 rfl dX1_set_14 ?_
        refine zv_goto (pc := 15) (tgt := 19) C dX1_set_15 (by decide) ?_
        obtain ⟨h_6, hF⟩ := hF
        obtain ⟨r_7, er_7⟩ : ∃ y : zRow, y = (upd r (Int32.toNatClampNeg p2) c1) := ⟨_, rfl⟩
        replace hF := hF r_7 er_7
        refine zv_iast (pc := 19) (n := nr) (f := r) (ws' := (zd_X1_set cI qr nr r_7)) C 0 h_6 rfl (by rw [er_7]; rfl) dX1_set_19 ?_
        obtain ⟨x2_8, ex2_8⟩ : ∃ y : Int32, y = p2 + (1 : Int32) := ⟨_, rfl⟩
        replace hF := hF x2_8 ex2_8
        refine zv_iinc (pc := 20) (v := x2_8) (lv' := [(2, .int x2_8), (0, .ref qr), (1, .int c1)]) C 2 rfl (by rw [ex2_8]; rfl) (by decide) rfl dX1_set_20 ?_
        refine zv_goto (pc := 23) (tgt := 2) C dX1_set_23 (by decide) ?_
        exact zv_lvs [1, 2, 0] rfl (ih x2_8 r_7 hF)
set_option maxHeartbeats 4000000 in
set_option maxRecDepth 100000 in
theorem zc_X1_set (l : Launch) (G : va_G) (cI : ClassId) (qr : Nat) (nr : Nat) (r : zRow) (v : Int32) (post : zRow → Prop) (hF : zw_X1_set nr r v post) (sz : Nat) : Met l yX1_set wsX1_set rmX1_set (va_Pc [.ref qr, .int v] (zv_in G cI (zd_X1_set cI qr nr r) sz)) (va_Qv (fun uz : zRow => post uz) (fun (uz : zRow) t => zv_out G cI (va_A (zd_X1_set cI qr nr r) sz) (zd_X1_set cI qr nr uz) t) (va_A (zd_X1_set cI qr nr r) sz)) 0 0 (va_A (zd_X1_set cI qr nr r) sz) := by
  refine zv_met (cc := cX1_set) (maxL := 3) (ret := none) (lv0 := [(0, .ref qr), (1, .int v)]) (Qc := fun A => va_Qv (fun uz : zRow => post uz) (fun (uz : zRow) t => zv_out G cI A (zd_X1_set cI qr nr uz) t) A) (by decide) rfl (Nat.le_of_ble_eq_true rfl) rfl ?_ sz
  intro p e s m below meth c A C hr hlk
  clear sz
  refine zv_iconst (pc := 0) (v := 0) C (by decide) dX1_set_0 ?_
  refine zv_istore_n (pc := 1) (lv' := [(2, .int (0 : Int32)), (0, .ref qr), (1, .int v)]) C rfl (by decide) rfl dX1_set_1 ?_
  obtain ⟨kf, hF⟩ := hF
  refine zv_lvs [1, 2, 0] rfl (zl_X1_set_2 qr nr v _ C ?_ kf (0 : Int32) r hF)
  · intro r_9 hF
    exact zv_vret (pc := 26) C hr hlk r_9 hF rfl dX1_set_26
theorem zy_X1_put : yX1_put.cls ≠ "java/lang/invoke/MethodHandle" ∧ yX1_put.cls ≠ "java/lang/invoke/VarHandle" ∧ (parseMethodDescriptor yX1_put.desc).map (fun d => d.parameters.length) = some 2 := by decide +kernel
set_option maxHeartbeats 4000000 in
set_option maxRecDepth 100000 in
theorem zl_X1_put_2 {p : Program} {l : Launch} {e : Env} {s : State} {m : MethodId} {args : Array Value} {below : List Frame} {meth : Method} {c : Code} {G : va_G} {cI : ClassId} {A : Nat → Prop} {Q : State → Prop} (qr qf : Nat) (nr nf : Nat) (f : zRow) (K30 : zRow → Prop) (C : zv_C p s m args c cX1_put 3 RX1 wsX1_put G cI A) (hK30 : ∀ (r : zRow), K30 r → zv_V p l e (headSpec wsX1_put rmX1_put).room s m args below meth c Q G A 3 0 0 (zd_X1_put cI qr qf nr nf r f) 30 [] []) : ∀ (k : Nat) (p2 : Int32) (r : zRow), zw_X1_put_2 nr nf f K30 k p2 r → zv_V p l e (headSpec wsX1_put rmX1_put).room s m args below meth c Q G A 3 0 0 (zd_X1_put cI qr qf nr nf r f) 2 [(0, .ref qr), (1, .ref qf), (2, .int p2)] [] := by
  intro k
  induction k with
  | zero => intro p2 r hF; exact (show False from hF).elim
  | succ k ih =>
    intro p2 r hF
    refine zv_iload_n (pc := 2) C rfl 2 rfl dX1_put_2 ?_
    refine zv_aload_n (pc := 3) C rfl 0 rfl dX1_put_3 ?_
    refine zv_alen (pc := 4) (n := nr) (f := r) (v := (nI nr)) C 0 rfl rfl dX1_put_4 ?_
    refine zv_icmp_ge (pc := 5) (tgt := 30) C dX1_put_5 (by decide) (fun c_1 => ?_) (fun c_1 => ?_)
    · replace hF := And.left hF c_1
      exact zv_lvs [] rfl (hK30 r hF)
    · replace hF := And.right hF c_1
      refine zv_aload_n (pc := 8) C rfl 0 rfl dX1_put_8 ?_
      refine zv_iload_n (pc := 9) C rfl 2 rfl dX1_put_9 ?_
      refine zv_iload_n (pc := 10) C rfl 2 rfl dX1_put_10 ?_
      refine zv_aload_n (pc := 11) C rfl 1 rfl dX1_put_11 ?_
      refine zv_alen (pc := 12) (n := nf) (f := f) (v := (nI nf)) C 1 rfl rfl dX1_put_12 ?_
      refine zv_icmp_ge (pc := 13) (tgt := 22) C dX1_put_13 (by decide) (fun c_2 => ?_) (fun c_2 => ?_)
      · replace hF := And.left hF c_2
        refine zv_iconst (pc := 22) (v := 0) C (by decide) dX1_put_22 ?_
        obtain ⟨h_3, hF⟩ := hF
        obtain ⟨r_4, er_4⟩ : ∃ y : zRow, y = (upd r (Int32.toNatClampNeg p2) (0 : Int32)) := ⟨_, rfl⟩
        replace hF := hF r_4 er_4
        refine zv_iast (pc := 23) (n := nr) (f := r) (ws' := (zd_X1_put cI qr qf nr nf r_4 f)) C 0 h_3 rfl (by rw [er_4]; rfl) dX1_put_23 ?_
        obtain ⟨x2_5, ex2_5⟩ : ∃ y : Int32, y = p2 + (1 : Int32) := ⟨_, rfl⟩
        replace hF := hF x2_5 ex2_5
        refine zv_iinc (pc := 24) (v := x2_5) (lv' := [(2, .int x2_5), (0, .ref qr), (1, .ref qf)]) C 2 rfl (by rw [ex2_5]; rfl) (by decide) rfl dX1_put_24 ?_
        refine zv_goto (pc := 27) (tgt := 2) C dX1_put_27 (by decide) ?_
        exact zv_lvs [1, 2, 0] rfl (ih x2_5 r_4 hF)
      · replace hF := And.right hF c_2
        refine zv_aload_n (pc := 16) C rfl 1 rfl dX1_put_16 ?_
        refine zv_iload_n (pc := 17) C rfl 2 rfl dX1_put_17 ?_
        obtain ⟨h_6, hF⟩ := hF
        refine zv_iald (pc := 18) (n := nf) (f := f) C 1 h_6 rfl dX1_put_18 ?_
        refine zv_goto (pc := 19) (tgt := 23) C dX1_put_19 (by decide) ?_
        obtain ⟨h_7, hF⟩ := hF
        obtain ⟨r_8, er_8⟩ : ∃ y : zRow, y = (upd r (Int32.toNatClampNeg p2) (f (Int32.toNatClampNeg p2))) := ⟨_, rfl⟩
        replace hF := hF r_8 er_8
        refine zv_iast (pc := 23) (n := nr) (f := r) (ws' := (zd_X1_put cI qr qf nr nf r_8 f)) C 0 h_7 rfl (by rw [er_8]; rfl) dX1_put_23 ?_
        obtain ⟨x2_9, ex2_9⟩ : ∃ y : Int32, y = p2 + (1 : Int32) := ⟨_, rfl⟩
        replace hF := hF x2_9 ex2_9
        refine zv_iinc (pc := 24) (v := x2_9) (lv' := [(2, .int x2_9), (0, .ref qr), (1, .ref qf)]) C 2 rfl (by rw [ex2_9]; rfl) (by decide) rfl dX1_put_24 ?_
        refine zv_goto (pc := 27) (tgt := 2) C dX1_put_27 (by decide) ?_
        exact zv_lvs [1, 2, 0] rfl (ih x2_9 r_8 hF)
set_option maxHeartbeats 4000000 in
set_option maxRecDepth 100000 in
theorem zc_X1_put (l : Launch) (G : va_G) (cI : ClassId) (qr qf : Nat) (nr nf : Nat) (r : zRow) (f : zRow) (post : zRow → Prop) (hF : zw_X1_put nr nf r f post) (sz : Nat) : Met l yX1_put wsX1_put rmX1_put (va_Pc [.ref qr, .ref qf] (zv_in G cI (zd_X1_put cI qr qf nr nf r f) sz)) (va_Qv (fun uz : zRow => post uz) (fun (uz : zRow) t => zv_out G cI (va_A (zd_X1_put cI qr qf nr nf r f) sz) (zd_X1_put cI qr qf nr nf uz f) t) (va_A (zd_X1_put cI qr qf nr nf r f) sz)) 0 0 (va_A (zd_X1_put cI qr qf nr nf r f) sz) := by
  refine zv_met (cc := cX1_put) (maxL := 3) (ret := none) (lv0 := [(0, .ref qr), (1, .ref qf)]) (Qc := fun A => va_Qv (fun uz : zRow => post uz) (fun (uz : zRow) t => zv_out G cI A (zd_X1_put cI qr qf nr nf uz f) t) A) (by decide) rfl (Nat.le_of_ble_eq_true rfl) rfl ?_ sz
  intro p e s m below meth c A C hr hlk
  clear sz
  refine zv_iconst (pc := 0) (v := 0) C (by decide) dX1_put_0 ?_
  refine zv_istore_n (pc := 1) (lv' := [(2, .int (0 : Int32)), (0, .ref qr), (1, .ref qf)]) C rfl (by decide) rfl dX1_put_1 ?_
  obtain ⟨kf, hF⟩ := hF
  refine zv_lvs [1, 2, 0] rfl (zl_X1_put_2 qr qf nr nf f _ C ?_ kf (0 : Int32) r hF)
  · intro r_10 hF
    exact zv_vret (pc := 30) C hr hlk r_10 hF rfl dX1_put_30
theorem zy_X1_signOf : yX1_signOf.cls ≠ "java/lang/invoke/MethodHandle" ∧ yX1_signOf.cls ≠ "java/lang/invoke/VarHandle" ∧ (parseMethodDescriptor yX1_signOf.desc).map (fun d => d.parameters.length) = some 1 := by decide +kernel
set_option maxHeartbeats 4000000 in
set_option maxRecDepth 100000 in
theorem zl_X1_signOf_5 {p : Program} {l : Launch} {e : Env} {s : State} {m : MethodId} {args : Array Value} {below : List Frame} {meth : Method} {c : Code} {G : va_G} {cI : ClassId} {A : Nat → Prop} {Q : State → Prop} (qr : Nat) (nr : Nat) (r : zRow) (K26 : Prop) (K34 : Prop) (K42 : Prop) (C : zv_C p s m args c cX1_signOf 2 RX1 wsX1_signOf G cI A) (hK26 : K26  → zv_V p l e (headSpec wsX1_signOf rmX1_signOf).room s m args below meth c Q G A 2 0 0 (zd_X1_signOf cI qr nr r) 26 [] []) (hK34 : K34  → zv_V p l e (headSpec wsX1_signOf rmX1_signOf).room s m args below meth c Q G A 2 0 0 (zd_X1_signOf cI qr nr r) 34 [] []) (hK42 : K42  → zv_V p l e (headSpec wsX1_signOf rmX1_signOf).room s m args below meth c Q G A 2 0 0 (zd_X1_signOf cI qr nr r) 42 [] []) : ∀ (k : Nat) (p1 : Int32), zw_X1_signOf_5 nr r K26 K34 K42 k p1 → zv_V p l e (headSpec wsX1_signOf rmX1_signOf).room s m args below meth c Q G A 2 0 0 (zd_X1_signOf cI qr nr r) 5 [(0, .ref qr), (1, .int p1)] [] := by
  intro k
  induction k with
  | zero => intro p1 hF; exact (show False from hF).elim
  | succ k ih =>
    intro p1 hF
    refine zv_iload_n (pc := 5) C rfl 1 rfl dX1_signOf_5 ?_
    refine zv_if_lt (pc := 6) (tgt := 42) C dX1_signOf_6 (by decide) (fun c_2 => ?_) (fun c_2 => ?_)
    · replace hF := And.left hF c_2
      exact zv_lvs [] rfl (hK42  hF)
    · replace hF := And.right hF c_2
      refine zv_iload_n (pc := 9) C rfl 1 rfl dX1_signOf_9 ?_
      refine zv_aload_n (pc := 10) C rfl 0 rfl dX1_signOf_10 ?_
      refine zv_alen (pc := 11) (n := nr) (f := r) (v := (nI nr)) C 0 rfl rfl dX1_signOf_11 ?_
      refine zv_iconst (pc := 12) (v := 1) C (by decide) dX1_signOf_12 ?_
      refine zv_isub (pc := 13) C  dX1_signOf_13 ?_
      refine zv_icmp_ne (pc := 14) (tgt := 28) C dX1_signOf_14 (by decide) (fun c_3 => ?_) (fun c_3 => ?_)
      · replace hF := And.left hF c_3
        refine zv_aload_n (pc := 28) C rfl 0 rfl dX1_signOf_28 ?_
        refine zv_iload_n (pc := 29) C rfl 1 rfl dX1_signOf_29 ?_
        obtain ⟨h_4, hF⟩ := hF
        refine zv_iald (pc := 30) (n := nr) (f := r) C 0 h_4 rfl dX1_signOf_30 ?_
        refine zv_if_eq (pc := 31) (tgt := 36) C dX1_signOf_31 (by decide) (fun c_5 => ?_) (fun c_5 => ?_)
        · replace hF := And.left hF c_5
          obtain ⟨x1_6, ex1_6⟩ : ∃ y : Int32, y = p1 + (-1 : Int32) := ⟨_, rfl⟩
          replace hF := hF x1_6 ex1_6
          refine zv_iinc (pc := 36) (v := x1_6) (lv' := [(1, .int x1_6), (0, .ref qr)]) C 1 rfl (by rw [ex1_6]; rfl) (by decide) rfl dX1_signOf_36 ?_
          refine zv_goto (pc := 39) (tgt := 5) C dX1_signOf_39 (by decide) ?_
          exact zv_lvs [1, 0] rfl (ih x1_6 hF)
        · replace hF := And.right hF c_5
          exact zv_lvs [] rfl (hK34  hF)
      · replace hF := And.right hF c_3
        refine zv_aload_n (pc := 17) C rfl 0 rfl dX1_signOf_17 ?_
        refine zv_iload_n (pc := 18) C rfl 1 rfl dX1_signOf_18 ?_
        obtain ⟨h_7, hF⟩ := hF
        refine zv_iald (pc := 19) (n := nr) (f := r) C 0 h_7 rfl dX1_signOf_19 ?_
        refine zv_bipush (pc := 20) (v := 29) C (by decide) dX1_signOf_20 ?_
        refine zv_ishr (pc := 22) C  dX1_signOf_22 ?_
        refine zv_if_eq (pc := 23) (tgt := 28) C dX1_signOf_23 (by decide) (fun c_8 => ?_) (fun c_8 => ?_)
        · replace hF := And.left hF c_8
          refine zv_aload_n (pc := 28) C rfl 0 rfl dX1_signOf_28 ?_
          refine zv_iload_n (pc := 29) C rfl 1 rfl dX1_signOf_29 ?_
          obtain ⟨h_9, hF⟩ := hF
          refine zv_iald (pc := 30) (n := nr) (f := r) C 0 h_9 rfl dX1_signOf_30 ?_
          refine zv_if_eq (pc := 31) (tgt := 36) C dX1_signOf_31 (by decide) (fun c_10 => ?_) (fun c_10 => ?_)
          · replace hF := And.left hF c_10
            obtain ⟨x1_11, ex1_11⟩ : ∃ y : Int32, y = p1 + (-1 : Int32) := ⟨_, rfl⟩
            replace hF := hF x1_11 ex1_11
            refine zv_iinc (pc := 36) (v := x1_11) (lv' := [(1, .int x1_11), (0, .ref qr)]) C 1 rfl (by rw [ex1_11]; rfl) (by decide) rfl dX1_signOf_36 ?_
            refine zv_goto (pc := 39) (tgt := 5) C dX1_signOf_39 (by decide) ?_
            exact zv_lvs [1, 0] rfl (ih x1_11 hF)
          · replace hF := And.right hF c_10
            exact zv_lvs [] rfl (hK34  hF)
        · replace hF := And.right hF c_8
          exact zv_lvs [] rfl (hK26  hF)
set_option maxHeartbeats 4000000 in
set_option maxRecDepth 100000 in
theorem zc_X1_signOf (l : Launch) (G : va_G) (cI : ClassId) (qr : Nat) (nr : Nat) (r : zRow) (post : Int32 → Prop) (hF : zw_X1_signOf nr r post) (sz : Nat) : Met l yX1_signOf wsX1_signOf rmX1_signOf (va_Pc [.ref qr] (zv_in G cI (zd_X1_signOf cI qr nr r) sz)) (va_Qi (fun (rz : Int32) (uz : Unit) => post rz ) (fun (uz : Unit) t => zv_out G cI (va_A (zd_X1_signOf cI qr nr r) sz) (zd_X1_signOf cI qr nr r) t) (va_A (zd_X1_signOf cI qr nr r) sz)) 0 0 (va_A (zd_X1_signOf cI qr nr r) sz) := by
  refine zv_met (cc := cX1_signOf) (maxL := 2) (ret := (some .int)) (lv0 := [(0, .ref qr)]) (Qc := fun A => va_Qi (fun (rz : Int32) (uz : Unit) => post rz ) (fun (uz : Unit) t => zv_out G cI A (zd_X1_signOf cI qr nr r) t) A) (by decide) rfl (Nat.le_of_ble_eq_true rfl) rfl ?_ sz
  intro p e s m below meth c A C hr hlk
  clear sz
  refine zv_aload_n (pc := 0) C rfl 0 rfl dX1_signOf_0 ?_
  refine zv_alen (pc := 1) (n := nr) (f := r) (v := (nI nr)) C 0 rfl rfl dX1_signOf_1 ?_
  refine zv_iconst (pc := 2) (v := 1) C (by decide) dX1_signOf_2 ?_
  refine zv_isub (pc := 3) C  dX1_signOf_3 ?_
  refine zv_topi (fun x1_1 ex1_1 => ?_)
  replace hF := hF x1_1 ex1_1
  refine zv_istore_n (pc := 4) (lv' := [(1, .int x1_1), (0, .ref qr)]) C rfl (by decide) rfl dX1_signOf_4 ?_
  obtain ⟨kf, hF⟩ := hF
  refine zv_lvs [1, 0] rfl (zl_X1_signOf_5 qr nr r _ _ _ C ?_ ?_ ?_ kf x1_1 hF)
  · intro  hF
    refine zv_iconst (pc := 26) (v := -1) C (by decide) dX1_signOf_26 ?_
    exact zv_iret (pc := 27) C hr hlk (-1 : Int32) () hF rfl dX1_signOf_27
  · intro  hF
    refine zv_iconst (pc := 34) (v := 1) C (by decide) dX1_signOf_34 ?_
    exact zv_iret (pc := 35) C hr hlk (1 : Int32) () hF rfl dX1_signOf_35
  · intro  hF
    refine zv_iconst (pc := 42) (v := 0) C (by decide) dX1_signOf_42 ?_
    exact zv_iret (pc := 43) C hr hlk (0 : Int32) () hF rfl dX1_signOf_43
theorem zy_X1_putSize : yX1_putSize.cls ≠ "java/lang/invoke/MethodHandle" ∧ yX1_putSize.cls ≠ "java/lang/invoke/VarHandle" ∧ (parseMethodDescriptor yX1_putSize.desc).map (fun d => d.parameters.length) = some 2 := by decide +kernel
set_option maxHeartbeats 4000000 in
set_option maxRecDepth 100000 in
theorem zl_X1_putSize_17 {p : Program} {l : Launch} {e : Env} {s : State} {m : MethodId} {args : Array Value} {below : List Frame} {meth : Method} {c : Code} {G : va_G} {cI : ClassId} {A : Nat → Prop} {Q : State → Prop} (qr qf : Nat) (nr nf : Nat) (f : zRow) (K60 : zRow → Prop) (C : zv_C p s m args c cX1_putSize 4 RX1 wsX1_putSize G cI A) (hK60 : ∀ (r : zRow), K60 r → zv_V p l e (headSpec wsX1_putSize rmX1_putSize).room s m args below meth c Q G A 4 0 0 (zd_X1_putSize cI qr qf nr nf r f) 60 [] []) : ∀ (k : Nat) (p2 : Int32) (p3 : Int32) (r : zRow), zw_X1_putSize_17 nr nf f K60 k p2 p3 r → zv_V p l e (headSpec wsX1_putSize rmX1_putSize).room s m args below meth c Q G A 4 0 0 (zd_X1_putSize cI qr qf nr nf r f) 17 [(0, .ref qr), (1, .ref qf), (2, .int p2), (3, .int p3)] [] := by
  intro k
  induction k with
  | zero => intro p2 p3 r hF; exact (show False from hF).elim
  | succ k ih =>
    intro p2 p3 r hF
    refine zv_iload_n (pc := 17) C rfl 3 rfl dX1_putSize_17 ?_
    refine zv_aload_n (pc := 18) C rfl 0 rfl dX1_putSize_18 ?_
    refine zv_alen (pc := 19) (n := nr) (f := r) (v := (nI nr)) C 0 rfl rfl dX1_putSize_19 ?_
    refine zv_icmp_ge (pc := 20) (tgt := 60) C dX1_putSize_20 (by decide) (fun c_3 => ?_) (fun c_3 => ?_)
    · replace hF := And.left hF c_3
      exact zv_lvs [] rfl (hK60 r hF)
    · replace hF := And.right hF c_3
      refine zv_iload_n (pc := 23) C rfl 3 rfl dX1_putSize_23 ?_
      refine zv_aload_n (pc := 24) C rfl 1 rfl dX1_putSize_24 ?_
      refine zv_alen (pc := 25) (n := nf) (f := f) (v := (nI nf)) C 1 rfl rfl dX1_putSize_25 ?_
      refine zv_icmp_ge (pc := 26) (tgt := 50) C dX1_putSize_26 (by decide) (fun c_4 => ?_) (fun c_4 => ?_)
      · replace hF := And.left hF c_4
        refine zv_aload_n (pc := 50) C rfl 0 rfl dX1_putSize_50 ?_
        refine zv_iload_n (pc := 51) C rfl 3 rfl dX1_putSize_51 ?_
        refine zv_iconst (pc := 52) (v := 0) C (by decide) dX1_putSize_52 ?_
        obtain ⟨h_5, hF⟩ := hF
        obtain ⟨r_6, er_6⟩ : ∃ y : zRow, y = (upd r (Int32.toNatClampNeg p3) (0 : Int32)) := ⟨_, rfl⟩
        replace hF := hF r_6 er_6
        refine zv_iast (pc := 53) (n := nr) (f := r) (ws' := (zd_X1_putSize cI qr qf nr nf r_6 f)) C 0 h_5 rfl (by rw [er_6]; rfl) dX1_putSize_53 ?_
        obtain ⟨x3_7, ex3_7⟩ : ∃ y : Int32, y = p3 + (1 : Int32) := ⟨_, rfl⟩
        replace hF := hF x3_7 ex3_7
        refine zv_iinc (pc := 54) (v := x3_7) (lv' := [(3, .int x3_7), (0, .ref qr), (1, .ref qf), (2, .int p2)]) C 3 rfl (by rw [ex3_7]; rfl) (by decide) rfl dX1_putSize_54 ?_
        refine zv_goto (pc := 57) (tgt := 17) C dX1_putSize_57 (by decide) ?_
        exact zv_lvs [1, 2, 3, 0] rfl (ih p2 x3_7 r_6 hF)
      · replace hF := And.right hF c_4
        refine zv_iload_n (pc := 29) C rfl 2 rfl dX1_putSize_29 ?_
        refine zv_aload_n (pc := 30) C rfl 1 rfl dX1_putSize_30 ?_
        refine zv_iload_n (pc := 31) C rfl 3 rfl dX1_putSize_31 ?_
        obtain ⟨h_8, hF⟩ := hF
        refine zv_iald (pc := 32) (n := nf) (f := f) C 1 h_8 rfl dX1_putSize_32 ?_
        refine zv_isub (pc := 33) C  dX1_putSize_33 ?_
        refine zv_topi (fun x2_9 ex2_9 => ?_)
        replace hF := hF x2_9 ex2_9
        refine zv_istore_n (pc := 34) (lv' := [(2, .int x2_9), (0, .ref qr), (1, .ref qf), (3, .int p3)]) C rfl (by decide) rfl dX1_putSize_34 ?_
        refine zv_aload_n (pc := 35) C rfl 1 rfl dX1_putSize_35 ?_
        refine zv_iload_n (pc := 36) C rfl 3 rfl dX1_putSize_36 ?_
        refine zv_iload_n (pc := 37) C rfl 0 rfl dX1_putSize_37 ?_
        refine zv_ldc (pc := 38) C (v := 1073741823) (List.mem_of_getElem? (i := 1) rfl) dX1_putSize_38 ?_
        refine zv_iand (pc := 40) C  dX1_putSize_40 ?_
        obtain ⟨h_10, hF⟩ := hF
        obtain ⟨r_11, er_11⟩ : ∃ y : zRow, y = (upd r (Int32.toNatClampNeg p3) (x2_9 &&& (1073741823 : Int32))) := ⟨_, rfl⟩
        replace hF := hF r_11 er_11
        refine zv_iast (pc := 41) (n := nr) (f := r) (ws' := (zd_X1_putSize cI qr qf nr nf r_11 f)) C 0 h_10 rfl (by rw [er_11]; rfl) dX1_putSize_41 ?_
        refine zv_iload_n (pc := 42) C rfl 0 rfl dX1_putSize_42 ?_
        refine zv_bipush (pc := 43) (v := 30) C (by decide) dX1_putSize_43 ?_
        refine zv_ishr (pc := 45) C  dX1_putSize_45 ?_
        refine zv_topi (fun x2_12 ex2_12 => ?_)
        replace hF := hF x2_12 ex2_12
        refine zv_istore_n (pc := 46) (lv' := [(2, .int x2_12), (0, .ref qr), (1, .ref qf), (3, .int p3)]) C rfl (by decide) rfl dX1_putSize_46 ?_
        refine zv_goto (pc := 47) (tgt := 54) C dX1_putSize_47 (by decide) ?_
        obtain ⟨x3_13, ex3_13⟩ : ∃ y : Int32, y = p3 + (1 : Int32) := ⟨_, rfl⟩
        replace hF := hF x3_13 ex3_13
        refine zv_iinc (pc := 54) (v := x3_13) (lv' := [(3, .int x3_13), (2, .int x2_12), (0, .ref qr), (1, .ref qf)]) C 3 rfl (by rw [ex3_13]; rfl) (by decide) rfl dX1_putSize_54 ?_
        refine zv_goto (pc := 57) (tgt := 17) C dX1_putSize_57 (by decide) ?_
        exact zv_lvs [2, 3, 1, 0] rfl (ih x2_12 x3_13 r_11 hF)
set_option maxHeartbeats 4000000 in
set_option maxRecDepth 100000 in
theorem zc_X1_putSize (l : Launch) (G : va_G) (cI : ClassId) (qr qf : Nat) (nr nf : Nat) (r : zRow) (f : zRow) (post : zRow → Prop) (hF : zw_X1_putSize nr nf r f post) (sz : Nat) : Met l yX1_putSize wsX1_putSize rmX1_putSize (va_Pc [.ref qr, .ref qf] (zv_in G cI (zd_X1_putSize cI qr qf nr nf r f) sz)) (va_Qv (fun uz : zRow => post uz) (fun (uz : zRow) t => zv_out G cI (va_A (zd_X1_putSize cI qr qf nr nf r f) sz) (zd_X1_putSize cI qr qf nr nf uz f) t) (va_A (zd_X1_putSize cI qr qf nr nf r f) sz)) 0 0 (va_A (zd_X1_putSize cI qr qf nr nf r f) sz) := by
  refine zv_met (cc := cX1_putSize) (maxL := 4) (ret := none) (lv0 := [(0, .ref qr), (1, .ref qf)]) (Qc := fun A => va_Qv (fun uz : zRow => post uz) (fun (uz : zRow) t => zv_out G cI A (zd_X1_putSize cI qr qf nr nf uz f) t) A) (by decide) rfl (Nat.le_of_ble_eq_true rfl) rfl ?_ sz
  intro p e s m below meth c A C hr hlk
  clear sz
  refine zv_aload_n (pc := 0) C rfl 1 rfl dX1_putSize_0 ?_
  refine zv_ci0 (pc := 1) (ws' := (fun uz : Unit => (zd_X1_putSize cI qr qf nr nf r f))) C (zv_runS (As := [.ref qf]) (rest := []) C (zc_X1_signOf l G cI qf nf f _ hF) (va_cwS 1 C.2.2.2.2.1 gX1_putSize_X1_signOf rfl rfl rfl zy_X1_signOf ⟨Nat.le_of_ble_eq_true rfl, Nat.le_of_ble_eq_true rfl⟩) rfl rfl (Nat.le_of_ble_eq_true rfl) ⟨Nat.zero_le _, Nat.zero_le _⟩ dX1_putSize_1) [1] [0] rfl rfl rfl rfl rfl (fun _ => rfl) (fun _ => rfl) (fun _ => rfl) (fun v_1 uz hF => ?_)
  refine zv_if_lt (pc := 4) (tgt := 13) C dX1_putSize_4 (by decide) (fun c_2 => ?_) (fun c_2 => ?_)
  · replace hF := And.left hF c_2
    refine zv_iconst (pc := 13) (v := 0) C (by decide) dX1_putSize_13 ?_
    refine zv_istore_n (pc := 14) (lv' := [(2, .int (0 : Int32)), (0, .ref qr), (1, .ref qf)]) C rfl (by decide) rfl dX1_putSize_14 ?_
    refine zv_iconst (pc := 15) (v := 0) C (by decide) dX1_putSize_15 ?_
    refine zv_istore_n (pc := 16) (lv' := [(3, .int (0 : Int32)), (2, .int (0 : Int32)), (0, .ref qr), (1, .ref qf)]) C rfl (by decide) rfl dX1_putSize_16 ?_
    obtain ⟨kf, hF⟩ := hF
    refine zv_lvs [2, 3, 1, 0] rfl (zl_X1_putSize_17 qr qf nr nf f _ C ?_ kf (0 : Int32) (0 : Int32) r hF)
    · intro r_14 hF
      exact zv_vret (pc := 60) C hr hlk r_14 hF rfl dX1_putSize_60
  · replace hF := And.right hF c_2
    refine zv_aload_n (pc := 7) C rfl 0 rfl dX1_putSize_7 ?_
    refine zv_aload_n (pc := 8) C rfl 1 rfl dX1_putSize_8 ?_
    refine zv_cv0 (pc := 9) (ws' := (fun uz : zRow => (zd_X1_putSize cI qr qf nr nf uz f))) C (zv_runS (As := [.ref qr, .ref qf]) (rest := []) C (zc_X1_put l G cI qr qf nr nf r f _ hF) (va_cwS 2 C.2.2.2.2.1 gX1_putSize_X1_put rfl rfl rfl zy_X1_put ⟨Nat.le_of_ble_eq_true rfl, Nat.le_of_ble_eq_true rfl⟩) rfl rfl (Nat.le_of_ble_eq_true rfl) ⟨Nat.zero_le _, Nat.zero_le _⟩ dX1_putSize_9) [0, 1] [] rfl rfl rfl rfl rfl (fun _ => rfl) (fun _ => rfl) (fun _ => rfl) (fun uz hF => ?_)
    obtain ⟨r_15, hE⟩ : ∃ z, z = uz := ⟨_, rfl⟩; subst hE
    exact zv_vret (pc := 12) C hr hlk r_15 hF rfl dX1_putSize_12
theorem zy_X1_scale : yX1_scale.cls ≠ "java/lang/invoke/MethodHandle" ∧ yX1_scale.cls ≠ "java/lang/invoke/VarHandle" ∧ (parseMethodDescriptor yX1_scale.desc).map (fun d => d.parameters.length) = some 2 := by decide +kernel
set_option maxHeartbeats 4000000 in
set_option maxRecDepth 100000 in
theorem zl_X1_scale_5 {p : Program} {l : Launch} {e : Env} {s : State} {m : MethodId} {args : Array Value} {below : List Frame} {meth : Method} {c : Code} {G : va_G} {cI : ClassId} {A : Nat → Prop} {Q : State → Prop} (qr : Nat) (nr : Nat) (c1 : Int64) (K43 : zRow → Prop) (C : zv_C p s m args c cX1_scale 6 RX1 wsX1_scale G cI A) (hK43 : ∀ (r : zRow), K43 r → zv_V p l e (headSpec wsX1_scale rmX1_scale).room s m args below meth c Q G A 6 0 0 (zd_X1_scale cI qr nr r) 43 [] []) : ∀ (k : Nat) (p3 : Int64) (p5 : Int32) (r : zRow), zw_X1_scale_5 nr c1 K43 k p3 p5 r → zv_V p l e (headSpec wsX1_scale rmX1_scale).room s m args below meth c Q G A 6 0 0 (zd_X1_scale cI qr nr r) 5 [(0, .ref qr), (1, .long c1), (3, .long p3), (5, .int p5)] [] := by
  intro k
  induction k with
  | zero => intro p3 p5 r hF; exact (show False from hF).elim
  | succ k ih =>
    intro p3 p5 r hF
    refine zv_iload (pc := 5) C 3 rfl dX1_scale_5 ?_
    refine zv_aload_n (pc := 7) C rfl 0 rfl dX1_scale_7 ?_
    refine zv_alen (pc := 8) (n := nr) (f := r) (v := (nI nr)) C 0 rfl rfl dX1_scale_8 ?_
    refine zv_icmp_ge (pc := 9) (tgt := 43) C dX1_scale_9 (by decide) (fun c_1 => ?_) (fun c_1 => ?_)
    · replace hF := And.left hF c_1
      exact zv_lvs [] rfl (hK43 r hF)
    · replace hF := And.right hF c_1
      refine zv_lload_n (pc := 12) C rfl 2 rfl dX1_scale_12 ?_
      refine zv_aload_n (pc := 13) C rfl 0 rfl dX1_scale_13 ?_
      refine zv_iload (pc := 14) C 3 rfl dX1_scale_14 ?_
      obtain ⟨h_2, hF⟩ := hF
      refine zv_iald (pc := 16) (n := nr) (f := r) C 0 h_2 rfl dX1_scale_16 ?_
      refine zv_i2l (pc := 17) C  dX1_scale_17 ?_
      refine zv_lload_n (pc := 18) C rfl 1 rfl dX1_scale_18 ?_
      refine zv_lmul (pc := 19) C  dX1_scale_19 ?_
      refine zv_ladd (pc := 20) C  dX1_scale_20 ?_
      refine zv_topl (fun x3_3 ex3_3 => ?_)
      replace hF := hF x3_3 ex3_3
      refine zv_lstore_n (pc := 21) (lv' := [(3, .long x3_3), (0, .ref qr), (1, .long c1), (5, .int p5)]) C rfl (by decide) rfl dX1_scale_21 ?_
      refine zv_aload_n (pc := 22) C rfl 1 rfl dX1_scale_22 ?_
      refine zv_iload (pc := 23) C 3 rfl dX1_scale_23 ?_
      refine zv_lload_n (pc := 25) C rfl 0 rfl dX1_scale_25 ?_
      refine zv_ldc2 (pc := 26) C (v := 1073741823) (List.mem_of_getElem? (i := 1) rfl) dX1_scale_26 ?_
      refine zv_land (pc := 29) C  dX1_scale_29 ?_
      refine zv_l2i (pc := 30) C  dX1_scale_30 ?_
      obtain ⟨h_4, hF⟩ := hF
      obtain ⟨r_5, er_5⟩ : ∃ y : zRow, y = (upd r (Int32.toNatClampNeg p5) (Int64.toInt32 (x3_3 &&& (1073741823 : Int64)))) := ⟨_, rfl⟩
      replace hF := hF r_5 er_5
      refine zv_iast (pc := 31) (n := nr) (f := r) (ws' := (zd_X1_scale cI qr nr r_5)) C 0 h_4 rfl (by rw [er_5]; rfl) dX1_scale_31 ?_
      refine zv_lload_n (pc := 32) C rfl 0 rfl dX1_scale_32 ?_
      refine zv_bipush (pc := 33) (v := 30) C (by decide) dX1_scale_33 ?_
      refine zv_lshr (pc := 35) C  dX1_scale_35 ?_
      refine zv_topl (fun x3_6 ex3_6 => ?_)
      replace hF := hF x3_6 ex3_6
      refine zv_lstore_n (pc := 36) (lv' := [(3, .long x3_6), (0, .ref qr), (1, .long c1), (5, .int p5)]) C rfl (by decide) rfl dX1_scale_36 ?_
      obtain ⟨x5_7, ex5_7⟩ : ∃ y : Int32, y = p5 + (1 : Int32) := ⟨_, rfl⟩
      replace hF := hF x5_7 ex5_7
      refine zv_iinc (pc := 37) (v := x5_7) (lv' := [(5, .int x5_7), (3, .long x3_6), (0, .ref qr), (1, .long c1)]) C 3 rfl (by rw [ex5_7]; rfl) (by decide) rfl dX1_scale_37 ?_
      refine zv_goto (pc := 40) (tgt := 5) C dX1_scale_40 (by decide) ?_
      exact zv_lvs [2, 3, 1, 0] rfl (ih x3_6 x5_7 r_5 hF)
set_option maxHeartbeats 4000000 in
set_option maxRecDepth 100000 in
theorem zc_X1_scale (l : Launch) (G : va_G) (cI : ClassId) (qr : Nat) (nr : Nat) (r : zRow) (fa : Int64) (post : zRow → Prop) (hF : zw_X1_scale nr r fa post) (sz : Nat) : Met l yX1_scale wsX1_scale rmX1_scale (va_Pc [.ref qr, .long fa] (zv_in G cI (zd_X1_scale cI qr nr r) sz)) (va_Qv (fun uz : zRow => post uz) (fun (uz : zRow) t => zv_out G cI (va_A (zd_X1_scale cI qr nr r) sz) (zd_X1_scale cI qr nr uz) t) (va_A (zd_X1_scale cI qr nr r) sz)) 0 0 (va_A (zd_X1_scale cI qr nr r) sz) := by
  refine zv_met (cc := cX1_scale) (maxL := 6) (ret := none) (lv0 := [(0, .ref qr), (1, .long fa)]) (Qc := fun A => va_Qv (fun uz : zRow => post uz) (fun (uz : zRow) t => zv_out G cI A (zd_X1_scale cI qr nr uz) t) A) (by decide) rfl (Nat.le_of_ble_eq_true rfl) rfl ?_ sz
  intro p e s m below meth c A C hr hlk
  clear sz
  refine zv_lconst (pc := 0) (v := 0) C (by decide) dX1_scale_0 ?_
  refine zv_lstore_n (pc := 1) (lv' := [(3, .long (0 : Int64)), (0, .ref qr), (1, .long fa)]) C rfl (by decide) rfl dX1_scale_1 ?_
  refine zv_iconst (pc := 2) (v := 0) C (by decide) dX1_scale_2 ?_
  refine zv_istore (pc := 3) (lv' := [(5, .int (0 : Int32)), (3, .long (0 : Int64)), (0, .ref qr), (1, .long fa)]) C (by decide) rfl dX1_scale_3 ?_
  obtain ⟨kf, hF⟩ := hF
  refine zv_lvs [2, 3, 1, 0] rfl (zl_X1_scale_5 qr nr fa _ C ?_ kf (0 : Int64) (0 : Int32) r hF)
  · intro r_8 hF
    exact zv_vret (pc := 43) C hr hlk r_8 hF rfl dX1_scale_43
theorem zy_X1_gain : yX1_gain.cls ≠ "java/lang/invoke/MethodHandle" ∧ yX1_gain.cls ≠ "java/lang/invoke/VarHandle" ∧ (parseMethodDescriptor yX1_gain.desc).map (fun d => d.parameters.length) = some 3 := by decide +kernel
set_option maxHeartbeats 4000000 in
set_option maxRecDepth 100000 in
theorem zl_X1_gain_6 {p : Program} {l : Launch} {e : Env} {s : State} {m : MethodId} {args : Array Value} {below : List Frame} {meth : Method} {c : Code} {G : va_G} {cI : ClassId} {A : Nat → Prop} {Q : State → Prop} (qr qo : Nat) (nr no : Nat) (o : zRow) (c2 : Int64) (K62 : zRow → Prop) (C : zv_C p s m args c cX1_gain 7 RX1 wsX1_gain G cI A) (hK62 : ∀ (r : zRow), K62 r → zv_V p l e (headSpec wsX1_gain rmX1_gain).room s m args below meth c Q G A 7 0 0 (zd_X1_gain cI qr qo nr no r o) 62 [] []) : ∀ (k : Nat) (p4 : Int64) (p6 : Int32) (r : zRow), zw_X1_gain_6 nr no o c2 K62 k p4 p6 r → zv_V p l e (headSpec wsX1_gain rmX1_gain).room s m args below meth c Q G A 7 0 0 (zd_X1_gain cI qr qo nr no r o) 6 [(0, .ref qr), (1, .ref qo), (2, .long c2), (4, .long p4), (6, .int p6)] [] := by
  intro k
  induction k with
  | zero => intro p4 p6 r hF; exact (show False from hF).elim
  | succ k ih =>
    intro p4 p6 r hF
    refine zv_iload (pc := 6) C 4 rfl dX1_gain_6 ?_
    refine zv_aload_n (pc := 8) C rfl 0 rfl dX1_gain_8 ?_
    refine zv_alen (pc := 9) (n := nr) (f := r) (v := (nI nr)) C 0 rfl rfl dX1_gain_9 ?_
    refine zv_icmp_ge (pc := 10) (tgt := 62) C dX1_gain_10 (by decide) (fun c_1 => ?_) (fun c_1 => ?_)
    · replace hF := And.left hF c_1
      exact zv_lvs [] rfl (hK62 r hF)
    · replace hF := And.right hF c_1
      refine zv_iload (pc := 13) C 4 rfl dX1_gain_13 ?_
      refine zv_aload_n (pc := 15) C rfl 1 rfl dX1_gain_15 ?_
      refine zv_alen (pc := 16) (n := no) (f := o) (v := (nI no)) C 1 rfl rfl dX1_gain_16 ?_
      refine zv_icmp_ge (pc := 17) (tgt := 62) C dX1_gain_17 (by decide) (fun c_2 => ?_) (fun c_2 => ?_)
      · replace hF := And.left hF c_2
        exact zv_lvs [] rfl (hK62 r hF)
      · replace hF := And.right hF c_2
        refine zv_lload (pc := 20) C 3 rfl dX1_gain_20 ?_
        refine zv_aload_n (pc := 22) C rfl 0 rfl dX1_gain_22 ?_
        refine zv_iload (pc := 23) C 4 rfl dX1_gain_23 ?_
        obtain ⟨h_3, hF⟩ := hF
        refine zv_iald (pc := 25) (n := nr) (f := r) C 0 h_3 rfl dX1_gain_25 ?_
        refine zv_i2l (pc := 26) C  dX1_gain_26 ?_
        refine zv_aload_n (pc := 27) C rfl 1 rfl dX1_gain_27 ?_
        refine zv_iload (pc := 28) C 4 rfl dX1_gain_28 ?_
        obtain ⟨h_4, hF⟩ := hF
        refine zv_iald (pc := 30) (n := no) (f := o) C 1 h_4 rfl dX1_gain_30 ?_
        refine zv_i2l (pc := 31) C  dX1_gain_31 ?_
        refine zv_lload_n (pc := 32) C rfl 2 rfl dX1_gain_32 ?_
        refine zv_lmul (pc := 33) C  dX1_gain_33 ?_
        refine zv_ladd (pc := 34) C  dX1_gain_34 ?_
        refine zv_ladd (pc := 35) C  dX1_gain_35 ?_
        refine zv_topl (fun x4_5 ex4_5 => ?_)
        replace hF := hF x4_5 ex4_5
        refine zv_lstore (pc := 36) (lv' := [(4, .long x4_5), (0, .ref qr), (1, .ref qo), (2, .long c2), (6, .int p6)]) C (by decide) rfl dX1_gain_36 ?_
        refine zv_aload_n (pc := 38) C rfl 1 rfl dX1_gain_38 ?_
        refine zv_iload (pc := 39) C 4 rfl dX1_gain_39 ?_
        refine zv_lload (pc := 41) C 0 rfl dX1_gain_41 ?_
        refine zv_ldc2 (pc := 43) C (v := 1073741823) (List.mem_of_getElem? (i := 1) rfl) dX1_gain_43 ?_
        refine zv_land (pc := 46) C  dX1_gain_46 ?_
        refine zv_l2i (pc := 47) C  dX1_gain_47 ?_
        obtain ⟨h_6, hF⟩ := hF
        obtain ⟨r_7, er_7⟩ : ∃ y : zRow, y = (upd r (Int32.toNatClampNeg p6) (Int64.toInt32 (x4_5 &&& (1073741823 : Int64)))) := ⟨_, rfl⟩
        replace hF := hF r_7 er_7
        refine zv_iast (pc := 48) (n := nr) (f := r) (ws' := (zd_X1_gain cI qr qo nr no r_7 o)) C 0 h_6 rfl (by rw [er_7]; rfl) dX1_gain_48 ?_
        refine zv_lload (pc := 49) C 0 rfl dX1_gain_49 ?_
        refine zv_bipush (pc := 51) (v := 30) C (by decide) dX1_gain_51 ?_
        refine zv_lshr (pc := 53) C  dX1_gain_53 ?_
        refine zv_topl (fun x4_8 ex4_8 => ?_)
        replace hF := hF x4_8 ex4_8
        refine zv_lstore (pc := 54) (lv' := [(4, .long x4_8), (0, .ref qr), (1, .ref qo), (2, .long c2), (6, .int p6)]) C (by decide) rfl dX1_gain_54 ?_
        obtain ⟨x6_9, ex6_9⟩ : ∃ y : Int32, y = p6 + (1 : Int32) := ⟨_, rfl⟩
        replace hF := hF x6_9 ex6_9
        refine zv_iinc (pc := 56) (v := x6_9) (lv' := [(6, .int x6_9), (4, .long x4_8), (0, .ref qr), (1, .ref qo), (2, .long c2)]) C 4 rfl (by rw [ex6_9]; rfl) (by decide) rfl dX1_gain_56 ?_
        refine zv_goto (pc := 59) (tgt := 6) C dX1_gain_59 (by decide) ?_
        exact zv_lvs [2, 3, 4, 1, 0] rfl (ih x4_8 x6_9 r_7 hF)
set_option maxHeartbeats 4000000 in
set_option maxRecDepth 100000 in
theorem zc_X1_gain (l : Launch) (G : va_G) (cI : ClassId) (qr qo : Nat) (nr no : Nat) (r : zRow) (o : zRow) (fa : Int64) (post : zRow → Prop) (hF : zw_X1_gain nr no r o fa post) (sz : Nat) : Met l yX1_gain wsX1_gain rmX1_gain (va_Pc [.ref qr, .ref qo, .long fa] (zv_in G cI (zd_X1_gain cI qr qo nr no r o) sz)) (va_Qv (fun uz : zRow => post uz) (fun (uz : zRow) t => zv_out G cI (va_A (zd_X1_gain cI qr qo nr no r o) sz) (zd_X1_gain cI qr qo nr no uz o) t) (va_A (zd_X1_gain cI qr qo nr no r o) sz)) 0 0 (va_A (zd_X1_gain cI qr qo nr no r o) sz) := by
  refine zv_met (cc := cX1_gain) (maxL := 7) (ret := none) (lv0 := [(0, .ref qr), (1, .ref qo), (2, .long fa)]) (Qc := fun A => va_Qv (fun uz : zRow => post uz) (fun (uz : zRow) t => zv_out G cI A (zd_X1_gain cI qr qo nr no uz o) t) A) (by decide) rfl (Nat.le_of_ble_eq_true rfl) rfl ?_ sz
  intro p e s m below meth c A C hr hlk
  clear sz
  refine zv_lconst (pc := 0) (v := 0) C (by decide) dX1_gain_0 ?_
  refine zv_lstore (pc := 1) (lv' := [(4, .long (0 : Int64)), (0, .ref qr), (1, .ref qo), (2, .long fa)]) C (by decide) rfl dX1_gain_1 ?_
  refine zv_iconst (pc := 3) (v := 0) C (by decide) dX1_gain_3 ?_
  refine zv_istore (pc := 4) (lv' := [(6, .int (0 : Int32)), (4, .long (0 : Int64)), (0, .ref qr), (1, .ref qo), (2, .long fa)]) C (by decide) rfl dX1_gain_4 ?_
  obtain ⟨kf, hF⟩ := hF
  refine zv_lvs [2, 3, 4, 1, 0] rfl (zl_X1_gain_6 qr qo nr no o fa _ C ?_ kf (0 : Int64) (0 : Int32) r hF)
  · intro r_10 hF
    exact zv_vret (pc := 62) C hr hlk r_10 hF rfl dX1_gain_62
theorem zy_X1_gainRaised : yX1_gainRaised.cls ≠ "java/lang/invoke/MethodHandle" ∧ yX1_gainRaised.cls ≠ "java/lang/invoke/VarHandle" ∧ (parseMethodDescriptor yX1_gainRaised.desc).map (fun d => d.parameters.length) = some 4 := by decide +kernel
set_option maxHeartbeats 4000000 in
set_option maxRecDepth 100000 in
theorem zl_X1_gainRaised_16 {p : Program} {l : Launch} {e : Env} {s : State} {m : MethodId} {args : Array Value} {below : List Frame} {meth : Method} {c : Code} {G : va_G} {cI : ClassId} {A : Nat → Prop} {Q : State → Prop} (qr qo : Nat) (nr no : Nat) (o : zRow) (c2 : Int64) (K93 : zRow → Prop) (C : zv_C p s m args c cX1_gainRaised 9 RX1 wsX1_gainRaised G cI A) (hK93 : ∀ (r : zRow), K93 r → zv_V p l e (headSpec wsX1_gainRaised rmX1_gainRaised).room s m args below meth c Q G A 9 0 0 (zd_X1_gainRaised cI qr qo nr no r o) 93 [] []) : ∀ (k : Nat) (p5 : Int64) (p7 : Int32) (p8 : Int32) (r : zRow), zw_X1_gainRaised_16 nr no o c2 K93 k p5 p7 p8 r → zv_V p l e (headSpec wsX1_gainRaised rmX1_gainRaised).room s m args below meth c Q G A 9 0 0 (zd_X1_gainRaised cI qr qo nr no r o) 16 [(0, .ref qr), (1, .ref qo), (2, .long c2), (5, .long p5), (7, .int p7), (8, .int p8)] [] := by
  intro k
  induction k with
  | zero => intro p5 p7 p8 r hF; exact (show False from hF).elim
  | succ k ih =>
    intro p5 p7 p8 r hF
    refine zv_iload (pc := 16) C 4 rfl dX1_gainRaised_16 ?_
    refine zv_aload_n (pc := 18) C rfl 0 rfl dX1_gainRaised_18 ?_
    refine zv_alen (pc := 19) (n := nr) (f := r) (v := (nI nr)) C 0 rfl rfl dX1_gainRaised_19 ?_
    refine zv_icmp_ge (pc := 20) (tgt := 93) C dX1_gainRaised_20 (by decide) (fun c_2 => ?_) (fun c_2 => ?_)
    · replace hF := And.left hF c_2
      exact zv_lvs [] rfl (hK93 r hF)
    · replace hF := And.right hF c_2
      refine zv_iload (pc := 23) C 5 rfl dX1_gainRaised_23 ?_
      refine zv_aload_n (pc := 25) C rfl 1 rfl dX1_gainRaised_25 ?_
      refine zv_alen (pc := 26) (n := no) (f := o) (v := (nI no)) C 1 rfl rfl dX1_gainRaised_26 ?_
      obtain ⟨KJ_4, h0KJ_4, hF⟩ := hF
      refine zv_join (α := Unit) (KK := fun uz => KJ_4 ) (wsJ := fun uz => (zd_X1_gainRaised cI qr qo nr no r o)) (pcJ := 37) (lvJ := fun uz => [(0, .ref qr), (1, .ref qo), (2, .long c2), (5, .long p5), (7, .int p7), (8, .int p8)]) (stJ := fun uz => []) ?_ (fun hKJ_4 => ?_)
      · rintro - hF
        replace hF := h0KJ_4  hF
        refine zv_lload (pc := 37) C 3 rfl dX1_gainRaised_37 ?_
        refine zv_aload_n (pc := 39) C rfl 0 rfl dX1_gainRaised_39 ?_
        refine zv_iload (pc := 40) C 4 rfl dX1_gainRaised_40 ?_
        obtain ⟨h_5, hF⟩ := hF
        refine zv_iald (pc := 42) (n := nr) (f := r) C 0 h_5 rfl dX1_gainRaised_42 ?_
        refine zv_i2l (pc := 43) C  dX1_gainRaised_43 ?_
        refine zv_iload (pc := 44) C 5 rfl dX1_gainRaised_44 ?_
        refine zv_aload_n (pc := 46) C rfl 1 rfl dX1_gainRaised_46 ?_
        refine zv_alen (pc := 47) (n := no) (f := o) (v := (nI no)) C 1 rfl rfl dX1_gainRaised_47 ?_
        obtain ⟨KJ_8, h0KJ_8, hF⟩ := hF
        refine zv_join (α := Int64) (KK := fun uz => KJ_8 uz) (wsJ := fun uz => (zd_X1_gainRaised cI qr qo nr no r o)) (pcJ := 62) (lvJ := fun uz => [(0, .ref qr), (1, .ref qo), (2, .long c2), (7, .int p7), (8, .int p8)]) (stJ := fun uz => [.long uz, .long (Int32.toInt64 (r (Int32.toNatClampNeg p7))), .long p5]) ?_ (fun hKJ_8 => ?_)
        · rintro v_7 hF
          replace hF := h0KJ_8 v_7 hF
          refine zv_ladd (pc := 62) C  dX1_gainRaised_62 ?_
          refine zv_ladd (pc := 63) C  dX1_gainRaised_63 ?_
          refine zv_topl (fun x5_9 ex5_9 => ?_)
          replace hF := hF x5_9 ex5_9
          refine zv_lstore (pc := 64) (lv' := [(5, .long x5_9), (0, .ref qr), (1, .ref qo), (2, .long c2), (7, .int p7), (8, .int p8)]) C (by decide) rfl dX1_gainRaised_64 ?_
          refine zv_aload_n (pc := 66) C rfl 1 rfl dX1_gainRaised_66 ?_
          refine zv_iload (pc := 67) C 4 rfl dX1_gainRaised_67 ?_
          refine zv_lload (pc := 69) C 0 rfl dX1_gainRaised_69 ?_
          refine zv_ldc2 (pc := 71) C (v := 1073741823) (List.mem_of_getElem? (i := 1) rfl) dX1_gainRaised_71 ?_
          refine zv_land (pc := 74) C  dX1_gainRaised_74 ?_
          refine zv_l2i (pc := 75) C  dX1_gainRaised_75 ?_
          obtain ⟨h_10, hF⟩ := hF
          obtain ⟨r_11, er_11⟩ : ∃ y : zRow, y = (upd r (Int32.toNatClampNeg p7) (Int64.toInt32 (x5_9 &&& (1073741823 : Int64)))) := ⟨_, rfl⟩
          replace hF := hF r_11 er_11
          refine zv_iast (pc := 76) (n := nr) (f := r) (ws' := (zd_X1_gainRaised cI qr qo nr no r_11 o)) C 0 h_10 rfl (by rw [er_11]; rfl) dX1_gainRaised_76 ?_
          refine zv_lload (pc := 77) C 0 rfl dX1_gainRaised_77 ?_
          refine zv_bipush (pc := 79) (v := 30) C (by decide) dX1_gainRaised_79 ?_
          refine zv_lshr (pc := 81) C  dX1_gainRaised_81 ?_
          refine zv_topl (fun x5_12 ex5_12 => ?_)
          replace hF := hF x5_12 ex5_12
          refine zv_lstore (pc := 82) (lv' := [(5, .long x5_12), (0, .ref qr), (1, .ref qo), (2, .long c2), (7, .int p7), (8, .int p8)]) C (by decide) rfl dX1_gainRaised_82 ?_
          obtain ⟨x7_13, ex7_13⟩ : ∃ y : Int32, y = p7 + (1 : Int32) := ⟨_, rfl⟩
          replace hF := hF x7_13 ex7_13
          refine zv_iinc (pc := 84) (v := x7_13) (lv' := [(7, .int x7_13), (5, .long x5_12), (0, .ref qr), (1, .ref qo), (2, .long c2), (8, .int p8)]) C 4 rfl (by rw [ex7_13]; rfl) (by decide) rfl dX1_gainRaised_84 ?_
          obtain ⟨x8_14, ex8_14⟩ : ∃ y : Int32, y = p8 + (1 : Int32) := ⟨_, rfl⟩
          replace hF := hF x8_14 ex8_14
          refine zv_iinc (pc := 87) (v := x8_14) (lv' := [(8, .int x8_14), (7, .int x7_13), (5, .long x5_12), (0, .ref qr), (1, .ref qo), (2, .long c2)]) C 5 rfl (by rw [ex8_14]; rfl) (by decide) rfl dX1_gainRaised_87 ?_
          refine zv_goto (pc := 90) (tgt := 16) C dX1_gainRaised_90 (by decide) ?_
          exact zv_lvs [3, 4, 5, 2, 1, 0] rfl (ih x5_12 x7_13 x8_14 r_11 hF)
        · skip
          refine zv_icmp_ge (pc := 48) (tgt := 61) C dX1_gainRaised_48 (by decide) (fun c_6 => ?_) (fun c_6 => ?_)
          · replace hF := And.left hF c_6
            refine zv_lconst (pc := 61) (v := 0) C (by decide) dX1_gainRaised_61 ?_
            exact zv_lvs [0, 1, 2, 4, 5] rfl (hKJ_8 (0 : Int64) hF)
          · replace hF := And.right hF c_6
            refine zv_aload_n (pc := 51) C rfl 1 rfl dX1_gainRaised_51 ?_
            refine zv_iload (pc := 52) C 5 rfl dX1_gainRaised_52 ?_
            obtain ⟨h_15, hF⟩ := hF
            refine zv_iald (pc := 54) (n := no) (f := o) C 1 h_15 rfl dX1_gainRaised_54 ?_
            refine zv_i2l (pc := 55) C  dX1_gainRaised_55 ?_
            refine zv_lload_n (pc := 56) C rfl 2 rfl dX1_gainRaised_56 ?_
            refine zv_lmul (pc := 57) C  dX1_gainRaised_57 ?_
            refine zv_goto (pc := 58) (tgt := 62) C dX1_gainRaised_58 (by decide) ?_
            exact zv_lvs [0, 1, 2, 4, 5] rfl (hKJ_8 ((Int32.toInt64 (o (Int32.toNatClampNeg p8))) * c2) hF)
      · skip
        refine zv_icmp_lt (pc := 27) (tgt := 37) C dX1_gainRaised_27 (by decide) (fun c_3 => ?_) (fun c_3 => ?_)
        · replace hF := And.left hF c_3
          exact zv_lvs [0, 1, 2, 3, 4, 5] rfl (hKJ_4 () hF)
        · replace hF := And.right hF c_3
          refine zv_lload (pc := 30) C 3 rfl dX1_gainRaised_30 ?_
          refine zv_lconst (pc := 32) (v := 0) C (by decide) dX1_gainRaised_32 ?_
          refine zv_lcmp (pc := 33) C  dX1_gainRaised_33 ?_
          refine zv_if_eq (pc := 34) (tgt := 93) C dX1_gainRaised_34 (by decide) (fun c_16 => ?_) (fun c_16 => ?_)
          · replace hF := And.left hF c_16
            exact zv_lvs [] rfl (hK93 r hF)
          · replace hF := And.right hF c_16
            exact zv_lvs [0, 1, 2, 3, 4, 5] rfl (hKJ_4 () hF)
set_option maxHeartbeats 4000000 in
set_option maxRecDepth 100000 in
theorem zc_X1_gainRaised (l : Launch) (G : va_G) (cI : ClassId) (qr qo : Nat) (nr no : Nat) (r : zRow) (o : zRow) (fa : Int64) (pl : Int32) (post : zRow → Prop) (hF : zw_X1_gainRaised nr no r o fa pl post) (sz : Nat) : Met l yX1_gainRaised wsX1_gainRaised rmX1_gainRaised (va_Pc [.ref qr, .ref qo, .long fa, .int pl] (zv_in G cI (zd_X1_gainRaised cI qr qo nr no r o) sz)) (va_Qv (fun uz : zRow => post uz) (fun (uz : zRow) t => zv_out G cI (va_A (zd_X1_gainRaised cI qr qo nr no r o) sz) (zd_X1_gainRaised cI qr qo nr no uz o) t) (va_A (zd_X1_gainRaised cI qr qo nr no r o) sz)) 0 0 (va_A (zd_X1_gainRaised cI qr qo nr no r o) sz) := by
  refine zv_met (cc := cX1_gainRaised) (maxL := 9) (ret := none) (lv0 := [(0, .ref qr), (1, .ref qo), (2, .long fa), (4, .int pl)]) (Qc := fun A => va_Qv (fun uz : zRow => post uz) (fun (uz : zRow) t => zv_out G cI A (zd_X1_gainRaised cI qr qo nr no uz o) t) A) (by decide) rfl (Nat.le_of_ble_eq_true rfl) rfl ?_ sz
  intro p e s m below meth c A C hr hlk
  clear sz
  refine zv_iload (pc := 0) C 3 rfl dX1_gainRaised_0 ?_
  refine zv_if_ge (pc := 2) (tgt := 6) C dX1_gainRaised_2 (by decide) (fun c_1 => ?_) (fun c_1 => ?_)
  · replace hF := And.left hF c_1
    refine zv_lconst (pc := 6) (v := 0) C (by decide) dX1_gainRaised_6 ?_
    refine zv_lstore (pc := 7) (lv' := [(5, .long (0 : Int64)), (0, .ref qr), (1, .ref qo), (2, .long fa), (4, .int pl)]) C (by decide) rfl dX1_gainRaised_7 ?_
    refine zv_iload (pc := 9) C 4 rfl dX1_gainRaised_9 ?_
    refine zv_istore (pc := 11) (lv' := [(7, .int pl), (5, .long (0 : Int64)), (0, .ref qr), (1, .ref qo), (2, .long fa), (4, .int pl)]) C (by decide) rfl dX1_gainRaised_11 ?_
    refine zv_iconst (pc := 13) (v := 0) C (by decide) dX1_gainRaised_13 ?_
    refine zv_istore (pc := 14) (lv' := [(8, .int (0 : Int32)), (7, .int pl), (5, .long (0 : Int64)), (0, .ref qr), (1, .ref qo), (2, .long fa), (4, .int pl)]) C (by decide) rfl dX1_gainRaised_14 ?_
    obtain ⟨kf, hF⟩ := hF
    refine zv_lvs [3, 4, 5, 2, 1, 0] rfl (zl_X1_gainRaised_16 qr qo nr no o fa _ C ?_ kf (0 : Int64) pl (0 : Int32) r hF)
    · intro r_17 hF
      exact zv_vret (pc := 93) C hr hlk r_17 hF rfl dX1_gainRaised_93
  · replace hF := And.right hF c_1
    exact zv_vret (pc := 5) C hr hlk r hF rfl dX1_gainRaised_5
theorem zy_X1_multiply : yX1_multiply.cls ≠ "java/lang/invoke/MethodHandle" ∧ yX1_multiply.cls ≠ "java/lang/invoke/VarHandle" ∧ (parseMethodDescriptor yX1_multiply.desc).map (fun d => d.parameters.length) = some 3 := by decide +kernel
set_option maxHeartbeats 4000000 in
set_option maxRecDepth 100000 in
theorem zl_X1_multiply_7 {p : Program} {l : Launch} {e : Env} {s : State} {m : MethodId} {args : Array Value} {below : List Frame} {meth : Method} {c : Code} {G : va_G} {cI : ClassId} {A : Nat → Prop} {Q : State → Prop} (qr qa qb : Nat) (nr na nb : Nat) (a : zRow) (b : zRow) (K35 : zRow → Prop) (C : zv_C p s m args c cX1_multiply 4 RX1 wsX1_multiply G cI A) (hK35 : ∀ (r : zRow), K35 r → zv_V p l e (headSpec wsX1_multiply rmX1_multiply).room s m args below meth c Q G A 4 0 0 (zd_X1_multiply cI qr qa qb nr na nb r a b) 35 [] []) : ∀ (k : Nat) (p3 : Int32) (r : zRow), zw_X1_multiply_7 nr na nb a b K35 k p3 r → zv_V p l e (headSpec wsX1_multiply rmX1_multiply).room s m args below meth c Q G A 4 0 0 (zd_X1_multiply cI qr qa qb nr na nb r a b) 7 [(0, .ref qr), (1, .ref qa), (2, .ref qb), (3, .int p3)] [] := by
  intro k
  induction k with
  | zero => intro p3 r hF; exact (show False from hF).elim
  | succ k ih =>
    intro p3 r hF
    refine zv_iload_n (pc := 7) C rfl 3 rfl dX1_multiply_7 ?_
    refine zv_aload_n (pc := 8) C rfl 1 rfl dX1_multiply_8 ?_
    refine zv_alen (pc := 9) (n := na) (f := a) (v := (nI na)) C 1 rfl rfl dX1_multiply_9 ?_
    refine zv_icmp_ge (pc := 10) (tgt := 35) C dX1_multiply_10 (by decide) (fun c_2 => ?_) (fun c_2 => ?_)
    · replace hF := And.left hF c_2
      exact zv_lvs [] rfl (hK35 r hF)
    · replace hF := And.right hF c_2
      refine zv_aload_n (pc := 13) C rfl 1 rfl dX1_multiply_13 ?_
      refine zv_iload_n (pc := 14) C rfl 3 rfl dX1_multiply_14 ?_
      obtain ⟨h_3, hF⟩ := hF
      refine zv_iald (pc := 15) (n := na) (f := a) C 1 h_3 rfl dX1_multiply_15 ?_
      refine zv_if_eq (pc := 16) (tgt := 29) C dX1_multiply_16 (by decide) (fun c_4 => ?_) (fun c_4 => ?_)
      · replace hF := And.left hF c_4
        obtain ⟨x3_5, ex3_5⟩ : ∃ y : Int32, y = p3 + (1 : Int32) := ⟨_, rfl⟩
        replace hF := hF x3_5 ex3_5
        refine zv_iinc (pc := 29) (v := x3_5) (lv' := [(3, .int x3_5), (0, .ref qr), (1, .ref qa), (2, .ref qb)]) C 3 rfl (by rw [ex3_5]; rfl) (by decide) rfl dX1_multiply_29 ?_
        refine zv_goto (pc := 32) (tgt := 7) C dX1_multiply_32 (by decide) ?_
        exact zv_lvs [1, 2, 3, 0] rfl (ih x3_5 r hF)
      · replace hF := And.right hF c_4
        refine zv_aload_n (pc := 19) C rfl 0 rfl dX1_multiply_19 ?_
        refine zv_aload_n (pc := 20) C rfl 2 rfl dX1_multiply_20 ?_
        refine zv_aload_n (pc := 21) C rfl 1 rfl dX1_multiply_21 ?_
        refine zv_iload_n (pc := 22) C rfl 3 rfl dX1_multiply_22 ?_
        obtain ⟨h_6, hF⟩ := hF
        refine zv_iald (pc := 23) (n := na) (f := a) C 1 h_6 rfl dX1_multiply_23 ?_
        refine zv_i2l (pc := 24) C  dX1_multiply_24 ?_
        refine zv_iload_n (pc := 25) C rfl 3 rfl dX1_multiply_25 ?_
        refine zv_cv0 (pc := 26) (ws' := (fun uz : zRow => (zd_X1_multiply cI qr qa qb nr na nb uz a b))) C (zv_runS (As := [.ref qr, .ref qb, .long (Int32.toInt64 (a (Int32.toNatClampNeg p3))), .int p3]) (rest := []) C (zc_X1_gainRaised l G cI qr qb nr nb r b (Int32.toInt64 (a (Int32.toNatClampNeg p3))) p3 _ hF) (va_cwS 4 C.2.2.2.2.1 gX1_multiply_X1_gainRaised rfl rfl rfl zy_X1_gainRaised ⟨Nat.le_of_ble_eq_true rfl, Nat.le_of_ble_eq_true rfl⟩) rfl rfl (Nat.le_of_ble_eq_true rfl) ⟨Nat.zero_le _, Nat.zero_le _⟩ dX1_multiply_26) [0, 2] [1] rfl rfl rfl rfl rfl (fun _ => rfl) (fun _ => rfl) (fun _ => rfl) (fun uz hF => ?_)
        obtain ⟨r_7, hE⟩ : ∃ z, z = uz := ⟨_, rfl⟩; subst hE
        obtain ⟨x3_8, ex3_8⟩ : ∃ y : Int32, y = p3 + (1 : Int32) := ⟨_, rfl⟩
        replace hF := hF x3_8 ex3_8
        refine zv_iinc (pc := 29) (v := x3_8) (lv' := [(3, .int x3_8), (0, .ref qr), (1, .ref qa), (2, .ref qb)]) C 3 rfl (by rw [ex3_8]; rfl) (by decide) rfl dX1_multiply_29 ?_
        refine zv_goto (pc := 32) (tgt := 7) C dX1_multiply_32 (by decide) ?_
        exact zv_lvs [1, 2, 3, 0] rfl (ih x3_8 r_7 hF)
set_option maxHeartbeats 4000000 in
set_option maxRecDepth 100000 in
theorem zc_X1_multiply (l : Launch) (G : va_G) (cI : ClassId) (qr qa qb : Nat) (nr na nb : Nat) (r : zRow) (a : zRow) (b : zRow) (post : zRow → Prop) (hF : zw_X1_multiply nr na nb r a b post) (sz : Nat) : Met l yX1_multiply wsX1_multiply rmX1_multiply (va_Pc [.ref qr, .ref qa, .ref qb] (zv_in G cI (zd_X1_multiply cI qr qa qb nr na nb r a b) sz)) (va_Qv (fun uz : zRow => post uz) (fun (uz : zRow) t => zv_out G cI (va_A (zd_X1_multiply cI qr qa qb nr na nb r a b) sz) (zd_X1_multiply cI qr qa qb nr na nb uz a b) t) (va_A (zd_X1_multiply cI qr qa qb nr na nb r a b) sz)) 0 0 (va_A (zd_X1_multiply cI qr qa qb nr na nb r a b) sz) := by
  refine zv_met (cc := cX1_multiply) (maxL := 4) (ret := none) (lv0 := [(0, .ref qr), (1, .ref qa), (2, .ref qb)]) (Qc := fun A => va_Qv (fun uz : zRow => post uz) (fun (uz : zRow) t => zv_out G cI A (zd_X1_multiply cI qr qa qb nr na nb uz a b) t) A) (by decide) rfl (Nat.le_of_ble_eq_true rfl) rfl ?_ sz
  intro p e s m below meth c A C hr hlk
  clear sz
  refine zv_aload_n (pc := 0) C rfl 0 rfl dX1_multiply_0 ?_
  refine zv_iconst (pc := 1) (v := 0) C (by decide) dX1_multiply_1 ?_
  refine zv_cv0 (pc := 2) (ws' := (fun uz : zRow => (zd_X1_multiply cI qr qa qb nr na nb uz a b))) C (zv_runS (As := [.ref qr, .int (0 : Int32)]) (rest := []) C (zc_X1_set l G cI qr nr r (0 : Int32) _ hF) (va_cwS 2 C.2.2.2.2.1 gX1_multiply_X1_set rfl rfl rfl zy_X1_set ⟨Nat.le_of_ble_eq_true rfl, Nat.le_of_ble_eq_true rfl⟩) rfl rfl (Nat.le_of_ble_eq_true rfl) ⟨Nat.zero_le _, Nat.zero_le _⟩ dX1_multiply_2) [0] [1, 2] rfl rfl rfl rfl rfl (fun _ => rfl) (fun _ => rfl) (fun _ => rfl) (fun uz hF => ?_)
  obtain ⟨r_1, hE⟩ : ∃ z, z = uz := ⟨_, rfl⟩; subst hE
  refine zv_iconst (pc := 5) (v := 0) C (by decide) dX1_multiply_5 ?_
  refine zv_istore_n (pc := 6) (lv' := [(3, .int (0 : Int32)), (0, .ref qr), (1, .ref qa), (2, .ref qb)]) C rfl (by decide) rfl dX1_multiply_6 ?_
  obtain ⟨kf, hF⟩ := hF
  refine zv_lvs [1, 2, 3, 0] rfl (zl_X1_multiply_7 qr qa qb nr na nb a b _ C ?_ kf (0 : Int32) r_1 hF)
  · intro r_9 hF
    exact zv_vret (pc := 35) C hr hlk r_9 hF rfl dX1_multiply_35
set_option maxHeartbeats 4000000 in
set_option maxRecDepth 100000 in
theorem zl_X1_multiply_sq_7 {p : Program} {l : Launch} {e : Env} {s : State} {m : MethodId} {args : Array Value} {below : List Frame} {meth : Method} {c : Code} {G : va_G} {cI : ClassId} {A : Nat → Prop} {Q : State → Prop} (qr qa : Nat) (nr na : Nat) (a : zRow) (K35 : zRow → Prop) (C : zv_C p s m args c cX1_multiply 4 RX1 wsX1_multiply G cI A) (hK35 : ∀ (r : zRow), K35 r → zv_V p l e (headSpec wsX1_multiply rmX1_multiply_sq).room s m args below meth c Q G A 4 0 0 (zd_X1_multiply_sq cI qr qa nr na r a) 35 [] []) : ∀ (k : Nat) (p3 : Int32) (r : zRow), zw_X1_multiply_sq_7 nr na a K35 k p3 r → zv_V p l e (headSpec wsX1_multiply rmX1_multiply_sq).room s m args below meth c Q G A 4 0 0 (zd_X1_multiply_sq cI qr qa nr na r a) 7 [(0, .ref qr), (1, .ref qa), (2, .ref qa), (3, .int p3)] [] := by
  intro k
  induction k with
  | zero => intro p3 r hF; exact (show False from hF).elim
  | succ k ih =>
    intro p3 r hF
    refine zv_iload_n (pc := 7) C rfl 3 rfl dX1_multiply_7 ?_
    refine zv_aload_n (pc := 8) C rfl 1 rfl dX1_multiply_8 ?_
    refine zv_alen (pc := 9) (n := na) (f := a) (v := (nI na)) C 1 rfl rfl dX1_multiply_9 ?_
    refine zv_icmp_ge (pc := 10) (tgt := 35) C dX1_multiply_10 (by decide) (fun c_2 => ?_) (fun c_2 => ?_)
    · replace hF := And.left hF c_2
      exact zv_lvs [] rfl (hK35 r hF)
    · replace hF := And.right hF c_2
      refine zv_aload_n (pc := 13) C rfl 1 rfl dX1_multiply_13 ?_
      refine zv_iload_n (pc := 14) C rfl 3 rfl dX1_multiply_14 ?_
      obtain ⟨h_3, hF⟩ := hF
      refine zv_iald (pc := 15) (n := na) (f := a) C 1 h_3 rfl dX1_multiply_15 ?_
      refine zv_if_eq (pc := 16) (tgt := 29) C dX1_multiply_16 (by decide) (fun c_4 => ?_) (fun c_4 => ?_)
      · replace hF := And.left hF c_4
        obtain ⟨x3_5, ex3_5⟩ : ∃ y : Int32, y = p3 + (1 : Int32) := ⟨_, rfl⟩
        replace hF := hF x3_5 ex3_5
        refine zv_iinc (pc := 29) (v := x3_5) (lv' := [(3, .int x3_5), (0, .ref qr), (1, .ref qa), (2, .ref qa)]) C 3 rfl (by rw [ex3_5]; rfl) (by decide) rfl dX1_multiply_29 ?_
        refine zv_goto (pc := 32) (tgt := 7) C dX1_multiply_32 (by decide) ?_
        exact zv_lvs [1, 2, 3, 0] rfl (ih x3_5 r hF)
      · replace hF := And.right hF c_4
        refine zv_aload_n (pc := 19) C rfl 0 rfl dX1_multiply_19 ?_
        refine zv_aload_n (pc := 20) C rfl 2 rfl dX1_multiply_20 ?_
        refine zv_aload_n (pc := 21) C rfl 1 rfl dX1_multiply_21 ?_
        refine zv_iload_n (pc := 22) C rfl 3 rfl dX1_multiply_22 ?_
        obtain ⟨h_6, hF⟩ := hF
        refine zv_iald (pc := 23) (n := na) (f := a) C 1 h_6 rfl dX1_multiply_23 ?_
        refine zv_i2l (pc := 24) C  dX1_multiply_24 ?_
        refine zv_iload_n (pc := 25) C rfl 3 rfl dX1_multiply_25 ?_
        refine zv_cv0 (pc := 26) (ws' := (fun uz : zRow => (zd_X1_multiply_sq cI qr qa nr na uz a))) C (zv_runS (As := [.ref qr, .ref qa, .long (Int32.toInt64 (a (Int32.toNatClampNeg p3))), .int p3]) (rest := []) C (zc_X1_gainRaised l G cI qr qa nr na r a (Int32.toInt64 (a (Int32.toNatClampNeg p3))) p3 _ hF) (va_cwS 4 C.2.2.2.2.1 gX1_multiply_X1_gainRaised rfl rfl rfl zy_X1_gainRaised ⟨Nat.le_of_ble_eq_true rfl, Nat.le_of_ble_eq_true rfl⟩) rfl rfl (Nat.le_of_ble_eq_true rfl) ⟨Nat.zero_le _, Nat.zero_le _⟩ dX1_multiply_26) [0, 1] [] rfl rfl rfl rfl rfl (fun _ => rfl) (fun _ => rfl) (fun _ => rfl) (fun uz hF => ?_)
        obtain ⟨r_7, hE⟩ : ∃ z, z = uz := ⟨_, rfl⟩; subst hE
        obtain ⟨x3_8, ex3_8⟩ : ∃ y : Int32, y = p3 + (1 : Int32) := ⟨_, rfl⟩
        replace hF := hF x3_8 ex3_8
        refine zv_iinc (pc := 29) (v := x3_8) (lv' := [(3, .int x3_8), (0, .ref qr), (1, .ref qa), (2, .ref qa)]) C 3 rfl (by rw [ex3_8]; rfl) (by decide) rfl dX1_multiply_29 ?_
        refine zv_goto (pc := 32) (tgt := 7) C dX1_multiply_32 (by decide) ?_
        exact zv_lvs [1, 2, 3, 0] rfl (ih x3_8 r_7 hF)
set_option maxHeartbeats 4000000 in
set_option maxRecDepth 100000 in
theorem zc_X1_multiply_sq (l : Launch) (G : va_G) (cI : ClassId) (qr qa : Nat) (nr na : Nat) (r : zRow) (a : zRow) (post : zRow → Prop) (hF : zw_X1_multiply_sq nr na r a post) (sz : Nat) : Met l yX1_multiply wsX1_multiply rmX1_multiply_sq (va_Pc [.ref qr, .ref qa, .ref qa] (zv_in G cI (zd_X1_multiply_sq cI qr qa nr na r a) sz)) (va_Qv (fun uz : zRow => post uz) (fun (uz : zRow) t => zv_out G cI (va_A (zd_X1_multiply_sq cI qr qa nr na r a) sz) (zd_X1_multiply_sq cI qr qa nr na uz a) t) (va_A (zd_X1_multiply_sq cI qr qa nr na r a) sz)) 0 0 (va_A (zd_X1_multiply_sq cI qr qa nr na r a) sz) := by
  refine zv_met (cc := cX1_multiply) (maxL := 4) (ret := none) (lv0 := [(0, .ref qr), (1, .ref qa), (2, .ref qa)]) (Qc := fun A => va_Qv (fun uz : zRow => post uz) (fun (uz : zRow) t => zv_out G cI A (zd_X1_multiply_sq cI qr qa nr na uz a) t) A) (by decide) rfl (Nat.le_of_ble_eq_true rfl) rfl ?_ sz
  intro p e s m below meth c A C hr hlk
  clear sz
  refine zv_aload_n (pc := 0) C rfl 0 rfl dX1_multiply_0 ?_
  refine zv_iconst (pc := 1) (v := 0) C (by decide) dX1_multiply_1 ?_
  refine zv_cv0 (pc := 2) (ws' := (fun uz : zRow => (zd_X1_multiply_sq cI qr qa nr na uz a))) C (zv_runS (As := [.ref qr, .int (0 : Int32)]) (rest := []) C (zc_X1_set l G cI qr nr r (0 : Int32) _ hF) (va_cwS 2 C.2.2.2.2.1 gX1_multiply_X1_set rfl rfl rfl zy_X1_set ⟨Nat.le_of_ble_eq_true rfl, Nat.le_of_ble_eq_true rfl⟩) rfl rfl (Nat.le_of_ble_eq_true rfl) ⟨Nat.zero_le _, Nat.zero_le _⟩ dX1_multiply_2) [0] [1] rfl rfl rfl rfl rfl (fun _ => rfl) (fun _ => rfl) (fun _ => rfl) (fun uz hF => ?_)
  obtain ⟨r_1, hE⟩ : ∃ z, z = uz := ⟨_, rfl⟩; subst hE
  refine zv_iconst (pc := 5) (v := 0) C (by decide) dX1_multiply_5 ?_
  refine zv_istore_n (pc := 6) (lv' := [(3, .int (0 : Int32)), (0, .ref qr), (1, .ref qa), (2, .ref qa)]) C rfl (by decide) rfl dX1_multiply_6 ?_
  obtain ⟨kf, hF⟩ := hF
  refine zv_lvs [1, 2, 3, 0] rfl (zl_X1_multiply_sq_7 qr qa nr na a _ C ?_ kf (0 : Int32) r_1 hF)
  · intro r_9 hF
    exact zv_vret (pc := 35) C hr hlk r_9 hF rfl dX1_multiply_35
theorem zy_X1_compare : yX1_compare.cls ≠ "java/lang/invoke/MethodHandle" ∧ yX1_compare.cls ≠ "java/lang/invoke/VarHandle" ∧ (parseMethodDescriptor yX1_compare.desc).map (fun d => d.parameters.length) = some 3 := by decide +kernel
set_option maxHeartbeats 4000000 in
set_option maxRecDepth 100000 in
theorem zl_X1_compare_14 {p : Program} {l : Launch} {e : Env} {s : State} {m : MethodId} {args : Array Value} {below : List Frame} {meth : Method} {c : Code} {G : va_G} {cI : ClassId} {A : Nat → Prop} {Q : State → Prop} (qa qb : Nat) (na nb : Nat) (a : zRow) (b : zRow) (K27 : Int32 → Prop) (K48 : Prop) (C : zv_C p s m args c cX1_compare 4 RX1 wsX1_compare G cI A) (hK27 : ∀ (p3 : Int32), K27 p3 → zv_V p l e (headSpec wsX1_compare rmX1_compare).room s m args below meth c Q G A 4 0 0 (zd_X1_compare cI qa qb na nb a b) 27 [(0, .ref qa), (1, .ref qb), (3, .int p3)] []) (hK48 : K48  → zv_V p l e (headSpec wsX1_compare rmX1_compare).room s m args below meth c Q G A 4 0 0 (zd_X1_compare cI qa qb na nb a b) 48 [] []) : ∀ (k : Nat) (p3 : Int32), zw_X1_compare_14 na nb a b K27 K48 k p3 → zv_V p l e (headSpec wsX1_compare rmX1_compare).room s m args below meth c Q G A 4 0 0 (zd_X1_compare cI qa qb na nb a b) 14 [(0, .ref qa), (1, .ref qb), (3, .int p3)] [] := by
  intro k
  induction k with
  | zero => intro p3 hF; exact (show False from hF).elim
  | succ k ih =>
    intro p3 hF
    refine zv_iload_n (pc := 14) C rfl 2 rfl dX1_compare_14 ?_
    refine zv_if_lt (pc := 15) (tgt := 48) C dX1_compare_15 (by decide) (fun c_2 => ?_) (fun c_2 => ?_)
    · replace hF := And.left hF c_2
      exact zv_lvs [] rfl (hK48  hF)
    · replace hF := And.right hF c_2
      refine zv_aload_n (pc := 18) C rfl 0 rfl dX1_compare_18 ?_
      refine zv_iload_n (pc := 19) C rfl 2 rfl dX1_compare_19 ?_
      obtain ⟨h_3, hF⟩ := hF
      refine zv_iald (pc := 20) (n := na) (f := a) C 0 h_3 rfl dX1_compare_20 ?_
      refine zv_aload_n (pc := 21) C rfl 1 rfl dX1_compare_21 ?_
      refine zv_iload_n (pc := 22) C rfl 2 rfl dX1_compare_22 ?_
      obtain ⟨h_4, hF⟩ := hF
      refine zv_iald (pc := 23) (n := nb) (f := b) C 1 h_4 rfl dX1_compare_23 ?_
      refine zv_icmp_eq (pc := 24) (tgt := 42) C dX1_compare_24 (by decide) (fun c_5 => ?_) (fun c_5 => ?_)
      · replace hF := And.left hF c_5
        obtain ⟨x3_6, ex3_6⟩ : ∃ y : Int32, y = p3 + (-1 : Int32) := ⟨_, rfl⟩
        replace hF := hF x3_6 ex3_6
        refine zv_iinc (pc := 42) (v := x3_6) (lv' := [(3, .int x3_6), (0, .ref qa), (1, .ref qb)]) C 2 rfl (by rw [ex3_6]; rfl) (by decide) rfl dX1_compare_42 ?_
        refine zv_goto (pc := 45) (tgt := 14) C dX1_compare_45 (by decide) ?_
        exact zv_lvs [1, 2, 0] rfl (ih x3_6 hF)
      · replace hF := And.right hF c_5
        exact zv_lvs [0, 1, 2] rfl (hK27 p3 hF)
set_option maxHeartbeats 4000000 in
set_option maxRecDepth 100000 in
theorem zc_X1_compare (l : Launch) (G : va_G) (cI : ClassId) (qa qb : Nat) (na nb : Nat) (a : zRow) (b : zRow) (top : Int32) (post : Int32 → Prop) (hF : zw_X1_compare na nb a b top post) (sz : Nat) : Met l yX1_compare wsX1_compare rmX1_compare (va_Pc [.ref qa, .ref qb, .int top] (zv_in G cI (zd_X1_compare cI qa qb na nb a b) sz)) (va_Qi (fun (rz : Int32) (uz : Unit) => post rz ) (fun (uz : Unit) t => zv_out G cI (va_A (zd_X1_compare cI qa qb na nb a b) sz) (zd_X1_compare cI qa qb na nb a b) t) (va_A (zd_X1_compare cI qa qb na nb a b) sz)) 0 0 (va_A (zd_X1_compare cI qa qb na nb a b) sz) := by
  refine zv_met (cc := cX1_compare) (maxL := 4) (ret := (some .int)) (lv0 := [(0, .ref qa), (1, .ref qb), (2, .int top)]) (Qc := fun A => va_Qi (fun (rz : Int32) (uz : Unit) => post rz ) (fun (uz : Unit) t => zv_out G cI A (zd_X1_compare cI qa qb na nb a b) t) A) (by decide) rfl (Nat.le_of_ble_eq_true rfl) rfl ?_ sz
  intro p e s m below meth c A C hr hlk
  clear sz
  refine zv_iload_n (pc := 0) C rfl 2 rfl dX1_compare_0 ?_
  refine zv_aload_n (pc := 1) C rfl 0 rfl dX1_compare_1 ?_
  refine zv_alen (pc := 2) (n := na) (f := a) (v := (nI na)) C 0 rfl rfl dX1_compare_2 ?_
  refine zv_aload_n (pc := 3) C rfl 1 rfl dX1_compare_3 ?_
  refine zv_alen (pc := 4) (n := nb) (f := b) (v := (nI nb)) C 1 rfl rfl dX1_compare_4 ?_
  refine zv_mmin (pc := 5) C (List.mem_of_getElem? (i := 1) rfl) (List.mem_of_getElem? (i := 2) rfl) (List.mem_of_getElem? (i := 3) rfl) (List.mem_of_getElem? (i := 4) rfl) (Nat.le_of_ble_eq_true rfl) (Nat.le_of_ble_eq_true rfl) (Nat.zero_le _) (Nat.zero_le _) dX1_compare_5 ?_
  refine zv_mmin (pc := 8) C (List.mem_of_getElem? (i := 1) rfl) (List.mem_of_getElem? (i := 2) rfl) (List.mem_of_getElem? (i := 3) rfl) (List.mem_of_getElem? (i := 4) rfl) (Nat.le_of_ble_eq_true rfl) (Nat.le_of_ble_eq_true rfl) (Nat.zero_le _) (Nat.zero_le _) dX1_compare_8 ?_
  refine zv_iconst (pc := 11) (v := 1) C (by decide) dX1_compare_11 ?_
  refine zv_isub (pc := 12) C  dX1_compare_12 ?_
  refine zv_topi (fun x3_1 ex3_1 => ?_)
  replace hF := hF x3_1 ex3_1
  refine zv_istore_n (pc := 13) (lv' := [(3, .int x3_1), (0, .ref qa), (1, .ref qb), (2, .int top)]) C rfl (by decide) rfl dX1_compare_13 ?_
  obtain ⟨kf, hF⟩ := hF
  refine zv_lvs [1, 2, 0] rfl (zl_X1_compare_14 qa qb na nb a b _ _ C ?_ ?_ kf x3_1 hF)
  · intro x3_7 hF
    refine zv_aload_n (pc := 27) C rfl 0 rfl dX1_compare_27 ?_
    refine zv_iload_n (pc := 28) C rfl 2 rfl dX1_compare_28 ?_
    obtain ⟨h_8, hF⟩ := hF
    refine zv_iald (pc := 29) (n := na) (f := a) C 0 h_8 rfl dX1_compare_29 ?_
    refine zv_aload_n (pc := 30) C rfl 1 rfl dX1_compare_30 ?_
    refine zv_iload_n (pc := 31) C rfl 2 rfl dX1_compare_31 ?_
    obtain ⟨h_9, hF⟩ := hF
    refine zv_iald (pc := 32) (n := nb) (f := b) C 1 h_9 rfl dX1_compare_32 ?_
    refine zv_icmp_ge (pc := 33) (tgt := 40) C dX1_compare_33 (by decide) (fun c_10 => ?_) (fun c_10 => ?_)
    · replace hF := And.left hF c_10
      refine zv_iconst (pc := 40) (v := 1) C (by decide) dX1_compare_40 ?_
      exact zv_iret (pc := 41) C hr hlk (1 : Int32) () hF rfl dX1_compare_41
    · replace hF := And.right hF c_10
      refine zv_iconst (pc := 36) (v := -1) C (by decide) dX1_compare_36 ?_
      refine zv_goto (pc := 37) (tgt := 41) C dX1_compare_37 (by decide) ?_
      exact zv_iret (pc := 41) C hr hlk (-1 : Int32) () hF rfl dX1_compare_41
  · intro  hF
    refine zv_iconst (pc := 48) (v := 0) C (by decide) dX1_compare_48 ?_
    exact zv_iret (pc := 49) C hr hlk (0 : Int32) () hF rfl dX1_compare_49
theorem zy_J6_numberOfTrailingZeros_0f7a4 : yJ6_numberOfTrailingZeros_0f7a4.cls ≠ "java/lang/invoke/MethodHandle" ∧ yJ6_numberOfTrailingZeros_0f7a4.cls ≠ "java/lang/invoke/VarHandle" ∧ (parseMethodDescriptor yJ6_numberOfTrailingZeros_0f7a4.desc).map (fun d => d.parameters.length) = some 1 := by decide +kernel
set_option maxHeartbeats 4000000 in
set_option maxRecDepth 100000 in
theorem zc_J6_numberOfTrailingZeros_0f7a4 (l : Launch) (G : va_G) (cI : ClassId) (i : Int32) (post : Int32 → Prop) (hF : zw_J6_numberOfTrailingZeros_0f7a4 i post) (sz : Nat) : Met l yJ6_numberOfTrailingZeros_0f7a4 wsJ6_numberOfTrailingZeros_0f7a4 rmJ6_numberOfTrailingZeros_0f7a4 (va_Pc [.int i] (zv_in G cI (zd_J6_numberOfTrailingZeros_0f7a4 cI ) sz)) (va_Qi (fun (rz : Int32) (uz : Unit) => post rz ) (fun (uz : Unit) t => zv_out G cI (va_A (zd_J6_numberOfTrailingZeros_0f7a4 cI ) sz) (zd_J6_numberOfTrailingZeros_0f7a4 cI ) t) (va_A (zd_J6_numberOfTrailingZeros_0f7a4 cI ) sz)) 0 0 (va_A (zd_J6_numberOfTrailingZeros_0f7a4 cI ) sz) := by
  refine zv_met (cc := cJ6_numberOfTrailingZeros_0f7a4) (maxL := 2) (ret := (some .int)) (lv0 := [(0, .int i)]) (Qc := fun A => va_Qi (fun (rz : Int32) (uz : Unit) => post rz ) (fun (uz : Unit) t => zv_out G cI A (zd_J6_numberOfTrailingZeros_0f7a4 cI ) t) A) (by decide) rfl (Nat.le_of_ble_eq_true rfl) rfl ?_ sz
  intro p e s m below meth c A C hr hlk
  clear sz
  refine zv_iload_n (pc := 0) C rfl 0 rfl dJ6_numberOfTrailingZeros_0f7a4_0 ?_
  refine zv_iconst (pc := 1) (v := -1) C (by decide) dJ6_numberOfTrailingZeros_0f7a4_1 ?_
  refine zv_ixor (pc := 2) C  dJ6_numberOfTrailingZeros_0f7a4_2 ?_
  refine zv_iload_n (pc := 3) C rfl 0 rfl dJ6_numberOfTrailingZeros_0f7a4_3 ?_
  refine zv_iconst (pc := 4) (v := 1) C (by decide) dJ6_numberOfTrailingZeros_0f7a4_4 ?_
  refine zv_isub (pc := 5) C  dJ6_numberOfTrailingZeros_0f7a4_5 ?_
  refine zv_iand (pc := 6) C  dJ6_numberOfTrailingZeros_0f7a4_6 ?_
  refine zv_topi (fun x0_1 ex0_1 => ?_)
  replace hF := hF x0_1 ex0_1
  refine zv_istore_n (pc := 7) (lv' := [(0, .int x0_1)]) C rfl (by decide) rfl dJ6_numberOfTrailingZeros_0f7a4_7 ?_
  refine zv_iload_n (pc := 8) C rfl 0 rfl dJ6_numberOfTrailingZeros_0f7a4_8 ?_
  refine zv_if_gt (pc := 9) (tgt := 17) C dJ6_numberOfTrailingZeros_0f7a4_9 (by decide) (fun c_2 => ?_) (fun c_2 => ?_)
  · replace hF := And.left hF c_2
    refine zv_iconst (pc := 17) (v := 1) C (by decide) dJ6_numberOfTrailingZeros_0f7a4_17 ?_
    refine zv_istore_n (pc := 18) (lv' := [(1, .int (1 : Int32)), (0, .int x0_1)]) C rfl (by decide) rfl dJ6_numberOfTrailingZeros_0f7a4_18 ?_
    refine zv_iload_n (pc := 19) C rfl 1 rfl dJ6_numberOfTrailingZeros_0f7a4_19 ?_
    refine zv_ldcw (pc := 20) C (v := 65536) (List.mem_of_getElem? (i := 1) rfl) dJ6_numberOfTrailingZeros_0f7a4_20 ?_
    obtain ⟨KJ_6, h0KJ_6, hF⟩ := hF
    refine zv_join (α := Int32 × Int32) (KK := fun uz => KJ_6 uz.1 uz.2) (wsJ := fun uz => (zd_J6_numberOfTrailingZeros_0f7a4 cI )) (pcJ := 34) (lvJ := fun uz => [(0, .int uz.1), (1, .int uz.2)]) (stJ := fun uz => []) ?_ (fun hKJ_6 => ?_)
    · rintro ⟨x0_4, x1_5⟩ hF
      replace hF := h0KJ_6 x0_4 x1_5 hF
      refine zv_iload_n (pc := 34) C rfl 0 rfl dJ6_numberOfTrailingZeros_0f7a4_34 ?_
      refine zv_sipush (pc := 35) (v := 256) C (by decide) dJ6_numberOfTrailingZeros_0f7a4_35 ?_
      obtain ⟨KJ_10, h0KJ_10, hF⟩ := hF
      refine zv_join (α := Int32 × Int32) (KK := fun uz => KJ_10 uz.1 uz.2) (wsJ := fun uz => (zd_J6_numberOfTrailingZeros_0f7a4 cI )) (pcJ := 49) (lvJ := fun uz => [(0, .int uz.1), (1, .int uz.2)]) (stJ := fun uz => []) ?_ (fun hKJ_10 => ?_)
      · rintro ⟨x0_8, x1_9⟩ hF
        replace hF := h0KJ_10 x0_8 x1_9 hF
        refine zv_iload_n (pc := 49) C rfl 0 rfl dJ6_numberOfTrailingZeros_0f7a4_49 ?_
        refine zv_bipush (pc := 50) (v := 16) C (by decide) dJ6_numberOfTrailingZeros_0f7a4_50 ?_
        obtain ⟨KJ_14, h0KJ_14, hF⟩ := hF
        refine zv_join (α := Int32 × Int32) (KK := fun uz => KJ_14 uz.1 uz.2) (wsJ := fun uz => (zd_J6_numberOfTrailingZeros_0f7a4 cI )) (pcJ := 62) (lvJ := fun uz => [(0, .int uz.1), (1, .int uz.2)]) (stJ := fun uz => []) ?_ (fun hKJ_14 => ?_)
        · rintro ⟨x0_12, x1_13⟩ hF
          replace hF := h0KJ_14 x0_12 x1_13 hF
          refine zv_iload_n (pc := 62) C rfl 0 rfl dJ6_numberOfTrailingZeros_0f7a4_62 ?_
          refine zv_iconst (pc := 63) (v := 4) C (by decide) dJ6_numberOfTrailingZeros_0f7a4_63 ?_
          refine zv_icmp_le (pc := 64) (tgt := 74) C dJ6_numberOfTrailingZeros_0f7a4_64 (by decide) (fun c_15 => ?_) (fun c_15 => ?_)
          · replace hF := And.left hF c_15
            refine zv_iload_n (pc := 74) C rfl 1 rfl dJ6_numberOfTrailingZeros_0f7a4_74 ?_
            refine zv_iload_n (pc := 75) C rfl 0 rfl dJ6_numberOfTrailingZeros_0f7a4_75 ?_
            refine zv_iconst (pc := 76) (v := 1) C (by decide) dJ6_numberOfTrailingZeros_0f7a4_76 ?_
            refine zv_iushr (pc := 77) C  dJ6_numberOfTrailingZeros_0f7a4_77 ?_
            refine zv_iadd (pc := 78) C  dJ6_numberOfTrailingZeros_0f7a4_78 ?_
            exact zv_iret (pc := 79) C hr hlk (x1_13 + ((Int32.toUInt32 x0_12 >>> (Int32.toUInt32 (1 : Int32) &&& Int32.toUInt32 31)).toInt32)) () hF rfl dJ6_numberOfTrailingZeros_0f7a4_79
          · replace hF := And.right hF c_15
            obtain ⟨x1_16, ex1_16⟩ : ∃ y : Int32, y = x1_13 + (2 : Int32) := ⟨_, rfl⟩
            replace hF := hF x1_16 ex1_16
            refine zv_iinc (pc := 67) (v := x1_16) (lv' := [(1, .int x1_16), (0, .int x0_12)]) C 1 rfl (by rw [ex1_16]; rfl) (by decide) rfl dJ6_numberOfTrailingZeros_0f7a4_67 ?_
            refine zv_iload_n (pc := 70) C rfl 1 rfl dJ6_numberOfTrailingZeros_0f7a4_70 ?_
            refine zv_iconst (pc := 71) (v := 2) C (by decide) dJ6_numberOfTrailingZeros_0f7a4_71 ?_
            refine zv_iushr (pc := 72) C  dJ6_numberOfTrailingZeros_0f7a4_72 ?_
            refine zv_topi (fun x0_17 ex0_17 => ?_)
            replace hF := hF x0_17 ex0_17
            refine zv_istore_n (pc := 73) (lv' := [(0, .int x0_17), (1, .int x1_16)]) C rfl (by decide) rfl dJ6_numberOfTrailingZeros_0f7a4_73 ?_
            refine zv_iload_n (pc := 74) C rfl 1 rfl dJ6_numberOfTrailingZeros_0f7a4_74 ?_
            refine zv_iload_n (pc := 75) C rfl 0 rfl dJ6_numberOfTrailingZeros_0f7a4_75 ?_
            refine zv_iconst (pc := 76) (v := 1) C (by decide) dJ6_numberOfTrailingZeros_0f7a4_76 ?_
            refine zv_iushr (pc := 77) C  dJ6_numberOfTrailingZeros_0f7a4_77 ?_
            refine zv_iadd (pc := 78) C  dJ6_numberOfTrailingZeros_0f7a4_78 ?_
            exact zv_iret (pc := 79) C hr hlk (x1_16 + ((Int32.toUInt32 x0_17 >>> (Int32.toUInt32 (1 : Int32) &&& Int32.toUInt32 31)).toInt32)) () hF rfl dJ6_numberOfTrailingZeros_0f7a4_79
        · skip
          refine zv_icmp_le (pc := 52) (tgt := 62) C dJ6_numberOfTrailingZeros_0f7a4_52 (by decide) (fun c_11 => ?_) (fun c_11 => ?_)
          · replace hF := And.left hF c_11
            exact zv_lvs [0, 1] rfl (hKJ_14 (x0_8, x1_9) hF)
          · replace hF := And.right hF c_11
            obtain ⟨x1_18, ex1_18⟩ : ∃ y : Int32, y = x1_9 + (4 : Int32) := ⟨_, rfl⟩
            replace hF := hF x1_18 ex1_18
            refine zv_iinc (pc := 55) (v := x1_18) (lv' := [(1, .int x1_18), (0, .int x0_8)]) C 1 rfl (by rw [ex1_18]; rfl) (by decide) rfl dJ6_numberOfTrailingZeros_0f7a4_55 ?_
            refine zv_iload_n (pc := 58) C rfl 1 rfl dJ6_numberOfTrailingZeros_0f7a4_58 ?_
            refine zv_iconst (pc := 59) (v := 4) C (by decide) dJ6_numberOfTrailingZeros_0f7a4_59 ?_
            refine zv_iushr (pc := 60) C  dJ6_numberOfTrailingZeros_0f7a4_60 ?_
            refine zv_topi (fun x0_19 ex0_19 => ?_)
            replace hF := hF x0_19 ex0_19
            refine zv_istore_n (pc := 61) (lv' := [(0, .int x0_19), (1, .int x1_18)]) C rfl (by decide) rfl dJ6_numberOfTrailingZeros_0f7a4_61 ?_
            exact zv_lvs [0, 1] rfl (hKJ_14 (x0_19, x1_18) hF)
      · skip
        refine zv_icmp_le (pc := 38) (tgt := 49) C dJ6_numberOfTrailingZeros_0f7a4_38 (by decide) (fun c_7 => ?_) (fun c_7 => ?_)
        · replace hF := And.left hF c_7
          exact zv_lvs [0, 1] rfl (hKJ_10 (x0_4, x1_5) hF)
        · replace hF := And.right hF c_7
          obtain ⟨x1_20, ex1_20⟩ : ∃ y : Int32, y = x1_5 + (8 : Int32) := ⟨_, rfl⟩
          replace hF := hF x1_20 ex1_20
          refine zv_iinc (pc := 41) (v := x1_20) (lv' := [(1, .int x1_20), (0, .int x0_4)]) C 1 rfl (by rw [ex1_20]; rfl) (by decide) rfl dJ6_numberOfTrailingZeros_0f7a4_41 ?_
          refine zv_iload_n (pc := 44) C rfl 1 rfl dJ6_numberOfTrailingZeros_0f7a4_44 ?_
          refine zv_bipush (pc := 45) (v := 8) C (by decide) dJ6_numberOfTrailingZeros_0f7a4_45 ?_
          refine zv_iushr (pc := 47) C  dJ6_numberOfTrailingZeros_0f7a4_47 ?_
          refine zv_topi (fun x0_21 ex0_21 => ?_)
          replace hF := hF x0_21 ex0_21
          refine zv_istore_n (pc := 48) (lv' := [(0, .int x0_21), (1, .int x1_20)]) C rfl (by decide) rfl dJ6_numberOfTrailingZeros_0f7a4_48 ?_
          exact zv_lvs [0, 1] rfl (hKJ_10 (x0_21, x1_20) hF)
    · skip
      refine zv_icmp_le (pc := 23) (tgt := 34) C dJ6_numberOfTrailingZeros_0f7a4_23 (by decide) (fun c_3 => ?_) (fun c_3 => ?_)
      · replace hF := And.left hF c_3
        exact zv_lvs [1, 0] rfl (hKJ_6 (x0_1, (1 : Int32)) hF)
      · replace hF := And.right hF c_3
        obtain ⟨x1_22, ex1_22⟩ : ∃ y : Int32, y = (1 : Int32) + (16 : Int32) := ⟨_, rfl⟩
        replace hF := hF x1_22 ex1_22
        refine zv_iinc (pc := 26) (v := x1_22) (lv' := [(1, .int x1_22), (0, .int x0_1)]) C 0 rfl (by rw [ex1_22]; rfl) (by decide) rfl dJ6_numberOfTrailingZeros_0f7a4_26 ?_
        refine zv_iload_n (pc := 29) C rfl 1 rfl dJ6_numberOfTrailingZeros_0f7a4_29 ?_
        refine zv_bipush (pc := 30) (v := 16) C (by decide) dJ6_numberOfTrailingZeros_0f7a4_30 ?_
        refine zv_iushr (pc := 32) C  dJ6_numberOfTrailingZeros_0f7a4_32 ?_
        refine zv_topi (fun x0_23 ex0_23 => ?_)
        replace hF := hF x0_23 ex0_23
        refine zv_istore_n (pc := 33) (lv' := [(0, .int x0_23), (1, .int x1_22)]) C rfl (by decide) rfl dJ6_numberOfTrailingZeros_0f7a4_33 ?_
        exact zv_lvs [0, 1] rfl (hKJ_6 (x0_23, x1_22) hF)
  · replace hF := And.right hF c_2
    refine zv_iload_n (pc := 12) C rfl 0 rfl dJ6_numberOfTrailingZeros_0f7a4_12 ?_
    refine zv_bipush (pc := 13) (v := 32) C (by decide) dJ6_numberOfTrailingZeros_0f7a4_13 ?_
    refine zv_iand (pc := 15) C  dJ6_numberOfTrailingZeros_0f7a4_15 ?_
    exact zv_iret (pc := 16) C hr hlk (x0_1 &&& (32 : Int32)) () hF rfl dJ6_numberOfTrailingZeros_0f7a4_16
theorem zy_X1_twosOf : yX1_twosOf.cls ≠ "java/lang/invoke/MethodHandle" ∧ yX1_twosOf.cls ≠ "java/lang/invoke/VarHandle" ∧ (parseMethodDescriptor yX1_twosOf.desc).map (fun d => d.parameters.length) = some 2 := by decide +kernel
set_option maxHeartbeats 4000000 in
set_option maxRecDepth 100000 in
theorem zl_X1_twosOf_2 {p : Program} {l : Launch} {e : Env} {s : State} {m : MethodId} {args : Array Value} {below : List Frame} {meth : Method} {c : Code} {G : va_G} {cI : ClassId} {A : Nat → Prop} {Q : State → Prop} (qr : Nat) (nr : Nat) (r : zRow) (c1 : Int32) (K19 : Int32 → Prop) (K37 : Prop) (C : zv_C p s m args c cX1_twosOf 3 RX1 wsX1_twosOf G cI A) (hK19 : ∀ (p2 : Int32), K19 p2 → zv_V p l e (headSpec wsX1_twosOf rmX1_twosOf).room s m args below meth c Q G A 3 0 0 (zd_X1_twosOf cI qr nr r) 19 [(0, .ref qr), (2, .int p2)] []) (hK37 : K37  → zv_V p l e (headSpec wsX1_twosOf rmX1_twosOf).room s m args below meth c Q G A 3 0 0 (zd_X1_twosOf cI qr nr r) 37 [] []) : ∀ (k : Nat) (p2 : Int32), zw_X1_twosOf_2 nr r c1 K19 K37 k p2 → zv_V p l e (headSpec wsX1_twosOf rmX1_twosOf).room s m args below meth c Q G A 3 0 0 (zd_X1_twosOf cI qr nr r) 2 [(0, .ref qr), (1, .int c1), (2, .int p2)] [] := by
  intro k
  induction k with
  | zero => intro p2 hF; exact (show False from hF).elim
  | succ k ih =>
    intro p2 hF
    refine zv_iload_n (pc := 2) C rfl 2 rfl dX1_twosOf_2 ?_
    refine zv_iload_n (pc := 3) C rfl 1 rfl dX1_twosOf_3 ?_
    refine zv_icmp_ge (pc := 4) (tgt := 37) C dX1_twosOf_4 (by decide) (fun c_1 => ?_) (fun c_1 => ?_)
    · replace hF := And.left hF c_1
      exact zv_lvs [] rfl (hK37  hF)
    · replace hF := And.right hF c_1
      refine zv_iload_n (pc := 7) C rfl 2 rfl dX1_twosOf_7 ?_
      refine zv_aload_n (pc := 8) C rfl 0 rfl dX1_twosOf_8 ?_
      refine zv_alen (pc := 9) (n := nr) (f := r) (v := (nI nr)) C 0 rfl rfl dX1_twosOf_9 ?_
      refine zv_icmp_ge (pc := 10) (tgt := 37) C dX1_twosOf_10 (by decide) (fun c_2 => ?_) (fun c_2 => ?_)
      · replace hF := And.left hF c_2
        exact zv_lvs [] rfl (hK37  hF)
      · replace hF := And.right hF c_2
        refine zv_aload_n (pc := 13) C rfl 0 rfl dX1_twosOf_13 ?_
        refine zv_iload_n (pc := 14) C rfl 2 rfl dX1_twosOf_14 ?_
        obtain ⟨h_3, hF⟩ := hF
        refine zv_iald (pc := 15) (n := nr) (f := r) C 0 h_3 rfl dX1_twosOf_15 ?_
        refine zv_if_eq (pc := 16) (tgt := 31) C dX1_twosOf_16 (by decide) (fun c_4 => ?_) (fun c_4 => ?_)
        · replace hF := And.left hF c_4
          obtain ⟨x2_5, ex2_5⟩ : ∃ y : Int32, y = p2 + (1 : Int32) := ⟨_, rfl⟩
          replace hF := hF x2_5 ex2_5
          refine zv_iinc (pc := 31) (v := x2_5) (lv' := [(2, .int x2_5), (0, .ref qr), (1, .int c1)]) C 2 rfl (by rw [ex2_5]; rfl) (by decide) rfl dX1_twosOf_31 ?_
          refine zv_goto (pc := 34) (tgt := 2) C dX1_twosOf_34 (by decide) ?_
          exact zv_lvs [1, 2, 0] rfl (ih x2_5 hF)
        · replace hF := And.right hF c_4
          exact zv_lvs [0, 2] rfl (hK19 p2 hF)
set_option maxHeartbeats 4000000 in
set_option maxRecDepth 100000 in
theorem zc_X1_twosOf (l : Launch) (G : va_G) (cI : ClassId) (qr : Nat) (nr : Nat) (r : zRow) (top : Int32) (post : Int32 → Prop) (hF : zw_X1_twosOf nr r top post) (sz : Nat) : Met l yX1_twosOf wsX1_twosOf rmX1_twosOf (va_Pc [.ref qr, .int top] (zv_in G cI (zd_X1_twosOf cI qr nr r) sz)) (va_Qi (fun (rz : Int32) (uz : Unit) => post rz ) (fun (uz : Unit) t => zv_out G cI (va_A (zd_X1_twosOf cI qr nr r) sz) (zd_X1_twosOf cI qr nr r) t) (va_A (zd_X1_twosOf cI qr nr r) sz)) 0 0 (va_A (zd_X1_twosOf cI qr nr r) sz) := by
  refine zv_met (cc := cX1_twosOf) (maxL := 3) (ret := (some .int)) (lv0 := [(0, .ref qr), (1, .int top)]) (Qc := fun A => va_Qi (fun (rz : Int32) (uz : Unit) => post rz ) (fun (uz : Unit) t => zv_out G cI A (zd_X1_twosOf cI qr nr r) t) A) (by decide) rfl (Nat.le_of_ble_eq_true rfl) rfl ?_ sz
  intro p e s m below meth c A C hr hlk
  clear sz
  refine zv_iconst (pc := 0) (v := 0) C (by decide) dX1_twosOf_0 ?_
  refine zv_istore_n (pc := 1) (lv' := [(2, .int (0 : Int32)), (0, .ref qr), (1, .int top)]) C rfl (by decide) rfl dX1_twosOf_1 ?_
  obtain ⟨kf, hF⟩ := hF
  refine zv_lvs [1, 2, 0] rfl (zl_X1_twosOf_2 qr nr r top _ _ C ?_ ?_ kf (0 : Int32) hF)
  · intro x2_6 hF
    refine zv_iload_n (pc := 19) C rfl 1 rfl dX1_twosOf_19 ?_
    refine zv_bipush (pc := 20) (v := 30) C (by decide) dX1_twosOf_20 ?_
    refine zv_imul (pc := 22) C  dX1_twosOf_22 ?_
    refine zv_aload_n (pc := 23) C rfl 0 rfl dX1_twosOf_23 ?_
    refine zv_iload_n (pc := 24) C rfl 1 rfl dX1_twosOf_24 ?_
    obtain ⟨h_7, hF⟩ := hF
    refine zv_iald (pc := 25) (n := nr) (f := r) C 0 h_7 rfl dX1_twosOf_25 ?_
    refine zv_ci0 (pc := 26) (ws' := (fun uz : Unit => (zd_X1_twosOf cI qr nr r))) C (zv_runS (As := [.int (r (Int32.toNatClampNeg x2_6))]) (rest := [.int (x2_6 * (30 : Int32))]) C (zc_J6_numberOfTrailingZeros_0f7a4 l G cI (r (Int32.toNatClampNeg x2_6)) _ hF) (va_cwS 1 C.2.2.2.2.1 gX1_twosOf_J6_numberOfTrailingZeros_0f7a4 rfl rfl rfl zy_J6_numberOfTrailingZeros_0f7a4 ⟨Nat.le_of_ble_eq_true rfl, Nat.le_of_ble_eq_true rfl⟩) rfl rfl (Nat.le_of_ble_eq_true rfl) ⟨Nat.zero_le _, Nat.zero_le _⟩ dX1_twosOf_26) [] [0] rfl rfl rfl rfl rfl (fun _ => rfl) (fun _ => rfl) (fun _ => rfl) (fun v_8 uz hF => ?_)
    refine zv_iadd (pc := 29) C  dX1_twosOf_29 ?_
    exact zv_iret (pc := 30) C hr hlk ((x2_6 * (30 : Int32)) + v_8) () hF rfl dX1_twosOf_30
  · intro  hF
    refine zv_iconst (pc := 37) (v := 0) C (by decide) dX1_twosOf_37 ?_
    exact zv_iret (pc := 38) C hr hlk (0 : Int32) () hF rfl dX1_twosOf_38
theorem zy_X1_shiftDown : yX1_shiftDown.cls ≠ "java/lang/invoke/MethodHandle" ∧ yX1_shiftDown.cls ≠ "java/lang/invoke/VarHandle" ∧ (parseMethodDescriptor yX1_shiftDown.desc).map (fun d => d.parameters.length) = some 3 := by decide +kernel
set_option maxHeartbeats 4000000 in
set_option maxRecDepth 100000 in
theorem zl_X1_shiftDown_27 {p : Program} {l : Launch} {e : Env} {s : State} {m : MethodId} {args : Array Value} {below : List Frame} {meth : Method} {c : Code} {G : va_G} {cI : ClassId} {A : Nat → Prop} {Q : State → Prop} (qr : Nat) (nr : Nat) (c3 : Int32) (c4 : Int32) (c5 : Int32) (K103 : zRow → Prop) (C : zv_C p s m args c cX1_shiftDown 10 RX1 wsX1_shiftDown G cI A) (hK103 : ∀ (r : zRow), K103 r → zv_V p l e (headSpec wsX1_shiftDown rmX1_shiftDown).room s m args below meth c Q G A 10 0 0 (zd_X1_shiftDown cI qr nr r) 103 [] []) : ∀ (k : Nat) (p6 : Int32) (r : zRow), zw_X1_shiftDown_27 nr c3 c4 c5 K103 k p6 r → zv_V p l e (headSpec wsX1_shiftDown rmX1_shiftDown).room s m args below meth c Q G A 10 0 0 (zd_X1_shiftDown cI qr nr r) 27 [(0, .ref qr), (3, .int c3), (4, .int c4), (5, .int c5), (6, .int p6)] [] := by
  intro k
  induction k with
  | zero => intro p6 r hF; exact (show False from hF).elim
  | succ k ih =>
    intro p6 r hF
    refine zv_iload (pc := 27) C 4 rfl dX1_shiftDown_27 ?_
    refine zv_iload_n (pc := 29) C rfl 1 rfl dX1_shiftDown_29 ?_
    refine zv_icmp_ge (pc := 30) (tgt := 103) C dX1_shiftDown_30 (by decide) (fun c_7 => ?_) (fun c_7 => ?_)
    · replace hF := And.left hF c_7
      exact zv_lvs [] rfl (hK103 r hF)
    · replace hF := And.right hF c_7
      refine zv_iload (pc := 33) C 4 rfl dX1_shiftDown_33 ?_
      refine zv_iload (pc := 35) C 2 rfl dX1_shiftDown_35 ?_
      refine zv_iadd (pc := 37) C  dX1_shiftDown_37 ?_
      refine zv_topi (fun x7_8 ex7_8 => ?_)
      replace hF := hF x7_8 ex7_8
      refine zv_istore (pc := 38) (lv' := [(7, .int x7_8), (0, .ref qr), (3, .int c3), (4, .int c4), (5, .int c5), (6, .int p6)]) C (by decide) rfl dX1_shiftDown_38 ?_
      refine zv_iload (pc := 40) C 0 rfl dX1_shiftDown_40 ?_
      refine zv_iload_n (pc := 42) C rfl 2 rfl dX1_shiftDown_42 ?_
      obtain ⟨KJ_11, h0KJ_11, hF⟩ := hF
      refine zv_join (α := Int32) (KK := fun uz => KJ_11 uz) (wsJ := fun uz => (zd_X1_shiftDown cI qr nr r)) (pcJ := 57) (lvJ := fun uz => [(0, .ref qr), (3, .int c3), (4, .int c4), (5, .int c5), (6, .int p6), (7, .int x7_8)]) (stJ := fun uz => [.int uz]) ?_ (fun hKJ_11 => ?_)
      · rintro v_10 hF
        replace hF := h0KJ_11 v_10 hF
        refine zv_istore (pc := 57) (lv' := [(8, .int v_10), (0, .ref qr), (3, .int c3), (4, .int c4), (5, .int c5), (6, .int p6), (7, .int x7_8)]) C (by decide) rfl dX1_shiftDown_57 ?_
        refine zv_iload (pc := 59) C 6 rfl dX1_shiftDown_59 ?_
        refine zv_iconst (pc := 61) (v := 1) C (by decide) dX1_shiftDown_61 ?_
        refine zv_iadd (pc := 62) C  dX1_shiftDown_62 ?_
        refine zv_iload_n (pc := 63) C rfl 2 rfl dX1_shiftDown_63 ?_
        refine zv_icmp_ge (pc := 64) (tgt := 85) C dX1_shiftDown_64 (by decide) (fun c_12 => ?_) (fun c_12 => ?_)
        · replace hF := And.left hF c_12
          refine zv_iconst (pc := 85) (v := 0) C (by decide) dX1_shiftDown_85 ?_
          refine zv_istore (pc := 86) (lv' := [(9, .int (0 : Int32)), (8, .int v_10), (0, .ref qr), (3, .int c3), (4, .int c4), (5, .int c5), (6, .int p6), (7, .int x7_8)]) C (by decide) rfl dX1_shiftDown_86 ?_
          refine zv_aload_n (pc := 88) C rfl 2 rfl dX1_shiftDown_88 ?_
          refine zv_iload (pc := 89) C 6 rfl dX1_shiftDown_89 ?_
          refine zv_iload (pc := 91) C 1 rfl dX1_shiftDown_91 ?_
          refine zv_iload (pc := 93) C 0 rfl dX1_shiftDown_93 ?_
          refine zv_ior (pc := 95) C  dX1_shiftDown_95 ?_
          obtain ⟨h_13, hF⟩ := hF
          obtain ⟨r_14, er_14⟩ : ∃ y : zRow, y = (upd r (Int32.toNatClampNeg p6) (v_10 ||| (0 : Int32))) := ⟨_, rfl⟩
          replace hF := hF r_14 er_14
          refine zv_iast (pc := 96) (n := nr) (f := r) (ws' := (zd_X1_shiftDown cI qr nr r_14)) C 0 h_13 rfl (by rw [er_14]; rfl) dX1_shiftDown_96 ?_
          obtain ⟨x6_15, ex6_15⟩ : ∃ y : Int32, y = p6 + (1 : Int32) := ⟨_, rfl⟩
          replace hF := hF x6_15 ex6_15
          refine zv_iinc (pc := 97) (v := x6_15) (lv' := [(6, .int x6_15), (9, .int (0 : Int32)), (8, .int v_10), (0, .ref qr), (3, .int c3), (4, .int c4), (5, .int c5), (7, .int x7_8)]) C 6 rfl (by rw [ex6_15]; rfl) (by decide) rfl dX1_shiftDown_97 ?_
          refine zv_goto (pc := 100) (tgt := 27) C dX1_shiftDown_100 (by decide) ?_
          exact zv_lvs [3, 4, 5, 6, 0] rfl (ih x6_15 r_14 hF)
        · replace hF := And.right hF c_12
          refine zv_aload_n (pc := 67) C rfl 1 rfl dX1_shiftDown_67 ?_
          refine zv_iload (pc := 68) C 6 rfl dX1_shiftDown_68 ?_
          refine zv_iconst (pc := 70) (v := 1) C (by decide) dX1_shiftDown_70 ?_
          refine zv_iadd (pc := 71) C  dX1_shiftDown_71 ?_
          obtain ⟨h_16, hF⟩ := hF
          refine zv_iald (pc := 72) (n := nr) (f := r) C 0 h_16 rfl dX1_shiftDown_72 ?_
          refine zv_bipush (pc := 73) (v := 30) C (by decide) dX1_shiftDown_73 ?_
          refine zv_iload (pc := 75) C 4 rfl dX1_shiftDown_75 ?_
          refine zv_isub (pc := 77) C  dX1_shiftDown_77 ?_
          refine zv_ishl (pc := 78) C  dX1_shiftDown_78 ?_
          refine zv_ldc (pc := 79) C (v := 1073741823) (List.mem_of_getElem? (i := 5) rfl) dX1_shiftDown_79 ?_
          refine zv_iand (pc := 81) C  dX1_shiftDown_81 ?_
          refine zv_goto (pc := 82) (tgt := 86) C dX1_shiftDown_82 (by decide) ?_
          refine zv_topi (fun x9_17 ex9_17 => ?_)
          replace hF := hF x9_17 ex9_17
          refine zv_istore (pc := 86) (lv' := [(9, .int x9_17), (8, .int v_10), (0, .ref qr), (3, .int c3), (4, .int c4), (5, .int c5), (6, .int p6), (7, .int x7_8)]) C (by decide) rfl dX1_shiftDown_86 ?_
          refine zv_aload_n (pc := 88) C rfl 2 rfl dX1_shiftDown_88 ?_
          refine zv_iload (pc := 89) C 6 rfl dX1_shiftDown_89 ?_
          refine zv_iload (pc := 91) C 1 rfl dX1_shiftDown_91 ?_
          refine zv_iload (pc := 93) C 0 rfl dX1_shiftDown_93 ?_
          refine zv_ior (pc := 95) C  dX1_shiftDown_95 ?_
          obtain ⟨h_18, hF⟩ := hF
          obtain ⟨r_19, er_19⟩ : ∃ y : zRow, y = (upd r (Int32.toNatClampNeg p6) (v_10 ||| x9_17)) := ⟨_, rfl⟩
          replace hF := hF r_19 er_19
          refine zv_iast (pc := 96) (n := nr) (f := r) (ws' := (zd_X1_shiftDown cI qr nr r_19)) C 0 h_18 rfl (by rw [er_19]; rfl) dX1_shiftDown_96 ?_
          obtain ⟨x6_20, ex6_20⟩ : ∃ y : Int32, y = p6 + (1 : Int32) := ⟨_, rfl⟩
          replace hF := hF x6_20 ex6_20
          refine zv_iinc (pc := 97) (v := x6_20) (lv' := [(6, .int x6_20), (9, .int x9_17), (8, .int v_10), (0, .ref qr), (3, .int c3), (4, .int c4), (5, .int c5), (7, .int x7_8)]) C 6 rfl (by rw [ex6_20]; rfl) (by decide) rfl dX1_shiftDown_97 ?_
          refine zv_goto (pc := 100) (tgt := 27) C dX1_shiftDown_100 (by decide) ?_
          exact zv_lvs [3, 4, 5, 6, 0] rfl (ih x6_20 r_19 hF)
      · skip
        refine zv_icmp_ge (pc := 43) (tgt := 56) C dX1_shiftDown_43 (by decide) (fun c_9 => ?_) (fun c_9 => ?_)
        · replace hF := And.left hF c_9
          refine zv_iconst (pc := 56) (v := 0) C (by decide) dX1_shiftDown_56 ?_
          exact zv_lvs [1, 2, 3, 4, 5, 0] rfl (hKJ_11 (0 : Int32) hF)
        · replace hF := And.right hF c_9
          refine zv_aload_n (pc := 46) C rfl 1 rfl dX1_shiftDown_46 ?_
          refine zv_iload (pc := 47) C 0 rfl dX1_shiftDown_47 ?_
          obtain ⟨h_21, hF⟩ := hF
          refine zv_iald (pc := 49) (n := nr) (f := r) C 0 h_21 rfl dX1_shiftDown_49 ?_
          refine zv_iload (pc := 50) C 4 rfl dX1_shiftDown_50 ?_
          refine zv_iushr (pc := 52) C  dX1_shiftDown_52 ?_
          refine zv_goto (pc := 53) (tgt := 57) C dX1_shiftDown_53 (by decide) ?_
          exact zv_lvs [1, 2, 3, 4, 5, 0] rfl (hKJ_11 ((Int32.toUInt32 (r (Int32.toNatClampNeg x7_8)) >>> (Int32.toUInt32 c5 &&& Int32.toUInt32 31)).toInt32) hF)
set_option maxHeartbeats 4000000 in
set_option maxRecDepth 100000 in
theorem zc_X1_shiftDown (l : Launch) (G : va_G) (cI : ClassId) (qr : Nat) (nr : Nat) (r : zRow) (bits : Int32) (top : Int32) (post : zRow → Prop) (hF : zw_X1_shiftDown nr r bits top post) (sz : Nat) : Met l yX1_shiftDown wsX1_shiftDown rmX1_shiftDown (va_Pc [.ref qr, .int bits, .int top] (zv_in G cI (zd_X1_shiftDown cI qr nr r) sz)) (va_Qv (fun uz : zRow => post uz) (fun (uz : zRow) t => zv_out G cI (va_A (zd_X1_shiftDown cI qr nr r) sz) (zd_X1_shiftDown cI qr nr uz) t) (va_A (zd_X1_shiftDown cI qr nr r) sz)) 0 0 (va_A (zd_X1_shiftDown cI qr nr r) sz) := by
  refine zv_met (cc := cX1_shiftDown) (maxL := 10) (ret := none) (lv0 := [(0, .ref qr), (1, .int bits), (2, .int top)]) (Qc := fun A => va_Qv (fun uz : zRow => post uz) (fun (uz : zRow) t => zv_out G cI A (zd_X1_shiftDown cI qr nr uz) t) A) (by decide) rfl (Nat.le_of_ble_eq_true rfl) rfl ?_ sz
  intro p e s m below meth c A C hr hlk
  clear sz
  refine zv_iload_n (pc := 0) C rfl 1 rfl dX1_shiftDown_0 ?_
  refine zv_if_gt (pc := 1) (tgt := 5) C dX1_shiftDown_1 (by decide) (fun c_1 => ?_) (fun c_1 => ?_)
  · replace hF := And.left hF c_1
    refine zv_iload_n (pc := 5) C rfl 2 rfl dX1_shiftDown_5 ?_
    refine zv_aload_n (pc := 6) C rfl 0 rfl dX1_shiftDown_6 ?_
    refine zv_alen (pc := 7) (n := nr) (f := r) (v := (nI nr)) C 0 rfl rfl dX1_shiftDown_7 ?_
    refine zv_mmin (pc := 8) C (List.mem_of_getElem? (i := 1) rfl) (List.mem_of_getElem? (i := 2) rfl) (List.mem_of_getElem? (i := 3) rfl) (List.mem_of_getElem? (i := 4) rfl) (Nat.le_of_ble_eq_true rfl) (Nat.le_of_ble_eq_true rfl) (Nat.zero_le _) (Nat.zero_le _) dX1_shiftDown_8 ?_
    refine zv_topi (fun x3_2 ex3_2 => ?_)
    replace hF := hF x3_2 ex3_2
    refine zv_istore_n (pc := 11) (lv' := [(3, .int x3_2), (0, .ref qr), (1, .int bits), (2, .int top)]) C rfl (by decide) rfl dX1_shiftDown_11 ?_
    refine zv_iload_n (pc := 12) C rfl 2 rfl dX1_shiftDown_12 ?_
    refine zv_bipush (pc := 13) (v := 30) C (by decide) dX1_shiftDown_13 ?_
    obtain ⟨hz_3, hF⟩ := hF
    refine zv_idiv (pc := 15) C hz_3 dX1_shiftDown_15 ?_
    refine zv_topi (fun x4_4 ex4_4 => ?_)
    replace hF := hF x4_4 ex4_4
    refine zv_istore (pc := 16) (lv' := [(4, .int x4_4), (3, .int x3_2), (0, .ref qr), (1, .int bits), (2, .int top)]) C (by decide) rfl dX1_shiftDown_16 ?_
    refine zv_iload_n (pc := 18) C rfl 3 rfl dX1_shiftDown_18 ?_
    refine zv_bipush (pc := 19) (v := 30) C (by decide) dX1_shiftDown_19 ?_
    obtain ⟨hz_5, hF⟩ := hF
    refine zv_irem (pc := 21) C hz_5 dX1_shiftDown_21 ?_
    refine zv_topi (fun x5_6 ex5_6 => ?_)
    replace hF := hF x5_6 ex5_6
    refine zv_istore (pc := 22) (lv' := [(5, .int x5_6), (4, .int x4_4), (3, .int x3_2), (0, .ref qr), (1, .int bits), (2, .int top)]) C (by decide) rfl dX1_shiftDown_22 ?_
    refine zv_iconst (pc := 24) (v := 0) C (by decide) dX1_shiftDown_24 ?_
    refine zv_istore (pc := 25) (lv' := [(6, .int (0 : Int32)), (5, .int x5_6), (4, .int x4_4), (3, .int x3_2), (0, .ref qr), (1, .int bits), (2, .int top)]) C (by decide) rfl dX1_shiftDown_25 ?_
    obtain ⟨kf, hF⟩ := hF
    refine zv_lvs [4, 3, 2, 1, 0] rfl (zl_X1_shiftDown_27 qr nr x3_2 x4_4 x5_6 _ C ?_ kf (0 : Int32) r hF)
    · intro r_22 hF
      exact zv_vret (pc := 103) C hr hlk r_22 hF rfl dX1_shiftDown_103
  · replace hF := And.right hF c_1
    exact zv_vret (pc := 4) C hr hlk r hF rfl dX1_shiftDown_4
theorem zy_X1_takeOff : yX1_takeOff.cls ≠ "java/lang/invoke/MethodHandle" ∧ yX1_takeOff.cls ≠ "java/lang/invoke/VarHandle" ∧ (parseMethodDescriptor yX1_takeOff.desc).map (fun d => d.parameters.length) = some 3 := by decide +kernel
set_option maxHeartbeats 4000000 in
set_option maxRecDepth 100000 in
theorem zl_X1_takeOff_5 {p : Program} {l : Launch} {e : Env} {s : State} {m : MethodId} {args : Array Value} {below : List Frame} {meth : Method} {c : Code} {G : va_G} {cI : ClassId} {A : Nat → Prop} {Q : State → Prop} (qr qb : Nat) (nr nb : Nat) (b : zRow) (c2 : Int32) (K56 : zRow → Prop) (C : zv_C p s m args c cX1_takeOff 5 RX1 wsX1_takeOff G cI A) (hK56 : ∀ (r : zRow), K56 r → zv_V p l e (headSpec wsX1_takeOff rmX1_takeOff).room s m args below meth c Q G A 5 0 0 (zd_X1_takeOff cI qr qb nr nb r b) 56 [(0, .ref qr), (2, .int c2)] []) : ∀ (k : Nat) (p3 : Int32) (p4 : Int32) (r : zRow), zw_X1_takeOff_5 nr nb b c2 K56 k p3 p4 r → zv_V p l e (headSpec wsX1_takeOff rmX1_takeOff).room s m args below meth c Q G A 5 0 0 (zd_X1_takeOff cI qr qb nr nb r b) 5 [(0, .ref qr), (1, .ref qb), (2, .int c2), (3, .int p3), (4, .int p4)] [] := by
  intro k
  induction k with
  | zero => intro p3 p4 r hF; exact (show False from hF).elim
  | succ k ih =>
    intro p3 p4 r hF
    refine zv_iload (pc := 5) C 4 rfl dX1_takeOff_5 ?_
    refine zv_iload_n (pc := 7) C rfl 2 rfl dX1_takeOff_7 ?_
    refine zv_icmp_ge (pc := 8) (tgt := 56) C dX1_takeOff_8 (by decide) (fun c_1 => ?_) (fun c_1 => ?_)
    · replace hF := And.left hF c_1
      exact zv_lvs [0, 2] rfl (hK56 r hF)
    · replace hF := And.right hF c_1
      refine zv_iload (pc := 11) C 4 rfl dX1_takeOff_11 ?_
      refine zv_aload_n (pc := 13) C rfl 0 rfl dX1_takeOff_13 ?_
      refine zv_alen (pc := 14) (n := nr) (f := r) (v := (nI nr)) C 0 rfl rfl dX1_takeOff_14 ?_
      refine zv_icmp_ge (pc := 15) (tgt := 56) C dX1_takeOff_15 (by decide) (fun c_2 => ?_) (fun c_2 => ?_)
      · replace hF := And.left hF c_2
        exact zv_lvs [0, 2] rfl (hK56 r hF)
      · replace hF := And.right hF c_2
        refine zv_iload (pc := 18) C 4 rfl dX1_takeOff_18 ?_
        refine zv_aload_n (pc := 20) C rfl 1 rfl dX1_takeOff_20 ?_
        refine zv_alen (pc := 21) (n := nb) (f := b) (v := (nI nb)) C 1 rfl rfl dX1_takeOff_21 ?_
        refine zv_icmp_ge (pc := 22) (tgt := 56) C dX1_takeOff_22 (by decide) (fun c_3 => ?_) (fun c_3 => ?_)
        · replace hF := And.left hF c_3
          exact zv_lvs [0, 2] rfl (hK56 r hF)
        · replace hF := And.right hF c_3
          refine zv_iload_n (pc := 25) C rfl 3 rfl dX1_takeOff_25 ?_
          refine zv_aload_n (pc := 26) C rfl 0 rfl dX1_takeOff_26 ?_
          refine zv_iload (pc := 27) C 4 rfl dX1_takeOff_27 ?_
          obtain ⟨h_4, hF⟩ := hF
          refine zv_iald (pc := 29) (n := nr) (f := r) C 0 h_4 rfl dX1_takeOff_29 ?_
          refine zv_aload_n (pc := 30) C rfl 1 rfl dX1_takeOff_30 ?_
          refine zv_iload (pc := 31) C 4 rfl dX1_takeOff_31 ?_
          obtain ⟨h_5, hF⟩ := hF
          refine zv_iald (pc := 33) (n := nb) (f := b) C 1 h_5 rfl dX1_takeOff_33 ?_
          refine zv_isub (pc := 34) C  dX1_takeOff_34 ?_
          refine zv_iadd (pc := 35) C  dX1_takeOff_35 ?_
          refine zv_topi (fun x3_6 ex3_6 => ?_)
          replace hF := hF x3_6 ex3_6
          refine zv_istore_n (pc := 36) (lv' := [(3, .int x3_6), (0, .ref qr), (1, .ref qb), (2, .int c2), (4, .int p4)]) C rfl (by decide) rfl dX1_takeOff_36 ?_
          refine zv_aload_n (pc := 37) C rfl 1 rfl dX1_takeOff_37 ?_
          refine zv_iload (pc := 38) C 4 rfl dX1_takeOff_38 ?_
          refine zv_iload_n (pc := 40) C rfl 0 rfl dX1_takeOff_40 ?_
          refine zv_ldc (pc := 41) C (v := 1073741823) (List.mem_of_getElem? (i := 1) rfl) dX1_takeOff_41 ?_
          refine zv_iand (pc := 43) C  dX1_takeOff_43 ?_
          obtain ⟨h_7, hF⟩ := hF
          obtain ⟨r_8, er_8⟩ : ∃ y : zRow, y = (upd r (Int32.toNatClampNeg p4) (x3_6 &&& (1073741823 : Int32))) := ⟨_, rfl⟩
          replace hF := hF r_8 er_8
          refine zv_iast (pc := 44) (n := nr) (f := r) (ws' := (zd_X1_takeOff cI qr qb nr nb r_8 b)) C 0 h_7 rfl (by rw [er_8]; rfl) dX1_takeOff_44 ?_
          refine zv_iload_n (pc := 45) C rfl 0 rfl dX1_takeOff_45 ?_
          refine zv_bipush (pc := 46) (v := 30) C (by decide) dX1_takeOff_46 ?_
          refine zv_ishr (pc := 48) C  dX1_takeOff_48 ?_
          refine zv_topi (fun x3_9 ex3_9 => ?_)
          replace hF := hF x3_9 ex3_9
          refine zv_istore_n (pc := 49) (lv' := [(3, .int x3_9), (0, .ref qr), (1, .ref qb), (2, .int c2), (4, .int p4)]) C rfl (by decide) rfl dX1_takeOff_49 ?_
          obtain ⟨x4_10, ex4_10⟩ : ∃ y : Int32, y = p4 + (1 : Int32) := ⟨_, rfl⟩
          replace hF := hF x4_10 ex4_10
          refine zv_iinc (pc := 50) (v := x4_10) (lv' := [(4, .int x4_10), (3, .int x3_9), (0, .ref qr), (1, .ref qb), (2, .int c2)]) C 4 rfl (by rw [ex4_10]; rfl) (by decide) rfl dX1_takeOff_50 ?_
          refine zv_goto (pc := 53) (tgt := 5) C dX1_takeOff_53 (by decide) ?_
          exact zv_lvs [2, 3, 4, 1, 0] rfl (ih x3_9 x4_10 r_8 hF)
set_option maxHeartbeats 4000000 in
set_option maxRecDepth 100000 in
theorem zc_X1_takeOff (l : Launch) (G : va_G) (cI : ClassId) (qr qb : Nat) (nr nb : Nat) (r : zRow) (b : zRow) (top : Int32) (post : zRow → Prop) (hF : zw_X1_takeOff nr nb r b top post) (sz : Nat) : Met l yX1_takeOff wsX1_takeOff rmX1_takeOff (va_Pc [.ref qr, .ref qb, .int top] (zv_in G cI (zd_X1_takeOff cI qr qb nr nb r b) sz)) (va_Qv (fun uz : zRow => post uz) (fun (uz : zRow) t => zv_out G cI (va_A (zd_X1_takeOff cI qr qb nr nb r b) sz) (zd_X1_takeOff cI qr qb nr nb uz b) t) (va_A (zd_X1_takeOff cI qr qb nr nb r b) sz)) 0 0 (va_A (zd_X1_takeOff cI qr qb nr nb r b) sz) := by
  refine zv_met (cc := cX1_takeOff) (maxL := 5) (ret := none) (lv0 := [(0, .ref qr), (1, .ref qb), (2, .int top)]) (Qc := fun A => va_Qv (fun uz : zRow => post uz) (fun (uz : zRow) t => zv_out G cI A (zd_X1_takeOff cI qr qb nr nb uz b) t) A) (by decide) rfl (Nat.le_of_ble_eq_true rfl) rfl ?_ sz
  intro p e s m below meth c A C hr hlk
  clear sz
  refine zv_iconst (pc := 0) (v := 0) C (by decide) dX1_takeOff_0 ?_
  refine zv_istore_n (pc := 1) (lv' := [(3, .int (0 : Int32)), (0, .ref qr), (1, .ref qb), (2, .int top)]) C rfl (by decide) rfl dX1_takeOff_1 ?_
  refine zv_iconst (pc := 2) (v := 0) C (by decide) dX1_takeOff_2 ?_
  refine zv_istore (pc := 3) (lv' := [(4, .int (0 : Int32)), (3, .int (0 : Int32)), (0, .ref qr), (1, .ref qb), (2, .int top)]) C (by decide) rfl dX1_takeOff_3 ?_
  obtain ⟨kf, hF⟩ := hF
  refine zv_lvs [2, 3, 4, 1, 0] rfl (zl_X1_takeOff_5 qr qb nr nb b top _ C ?_ kf (0 : Int32) (0 : Int32) r hF)
  · intro r_11 hF
    refine zv_aload_n (pc := 56) C rfl 0 rfl dX1_takeOff_56 ?_
    refine zv_aload_n (pc := 57) C rfl 0 rfl dX1_takeOff_57 ?_
    refine zv_iload_n (pc := 58) C rfl 1 rfl dX1_takeOff_58 ?_
    refine zv_ci0 (pc := 59) (ws' := (fun uz : Unit => (zd_X1_takeOff cI qr qb nr nb r_11 b))) C (zv_runS (As := [.ref qr, .int top]) (rest := [.ref qr]) C (zc_X1_twosOf l G cI qr nr r_11 top _ hF) (va_cwS 2 C.2.2.2.2.1 gX1_takeOff_X1_twosOf rfl rfl rfl zy_X1_twosOf ⟨Nat.le_of_ble_eq_true rfl, Nat.le_of_ble_eq_true rfl⟩) rfl rfl (Nat.le_of_ble_eq_true rfl) ⟨Nat.zero_le _, Nat.zero_le _⟩ dX1_takeOff_59) [0] [1] rfl rfl rfl rfl rfl (fun _ => rfl) (fun _ => rfl) (fun _ => rfl) (fun v_12 uz hF => ?_)
    refine zv_iload_n (pc := 62) C rfl 1 rfl dX1_takeOff_62 ?_
    refine zv_cv0 (pc := 63) (ws' := (fun uz : zRow => (zd_X1_takeOff cI qr qb nr nb uz b))) C (zv_runS (As := [.ref qr, .int v_12, .int top]) (rest := []) C (zc_X1_shiftDown l G cI qr nr r_11 v_12 top _ hF) (va_cwS 3 C.2.2.2.2.1 gX1_takeOff_X1_shiftDown rfl rfl rfl zy_X1_shiftDown ⟨Nat.le_of_ble_eq_true rfl, Nat.le_of_ble_eq_true rfl⟩) rfl rfl (Nat.le_of_ble_eq_true rfl) ⟨Nat.zero_le _, Nat.zero_le _⟩ dX1_takeOff_63) [0] [1] rfl rfl rfl rfl rfl (fun _ => rfl) (fun _ => rfl) (fun _ => rfl) (fun uz hF => ?_)
    obtain ⟨r_13, hE⟩ : ∃ z, z = uz := ⟨_, rfl⟩; subst hE
    exact zv_vret (pc := 66) C hr hlk r_13 hF rfl dX1_takeOff_66
theorem zy_X1_meetAtDivisor : yX1_meetAtDivisor.cls ≠ "java/lang/invoke/MethodHandle" ∧ yX1_meetAtDivisor.cls ≠ "java/lang/invoke/VarHandle" ∧ (parseMethodDescriptor yX1_meetAtDivisor.desc).map (fun d => d.parameters.length) = some 2 := by decide +kernel
set_option maxHeartbeats 4000000 in
set_option maxRecDepth 100000 in
theorem zl_X1_meetAtDivisor_17 {p : Program} {l : Launch} {e : Env} {s : State} {m : MethodId} {args : Array Value} {below : List Frame} {meth : Method} {c : Code} {G : va_G} {cI : ClassId} {A : Nat → Prop} {Q : State → Prop} (qa qb : Nat) (na nb : Nat) (a : zRow) (b : zRow) (c3 : Int32) (K44 : Int32 → Prop) (C : zv_C p s m args c cX1_meetAtDivisor 5 RX1 wsX1_meetAtDivisor G cI A) (hK44 : ∀ (p2 : Int32), K44 p2 → zv_V p l e (headSpec wsX1_meetAtDivisor rmX1_meetAtDivisor).room s m args below meth c Q G A 5 0 0 (zd_X1_meetAtDivisor cI qa qb na nb a b) 44 [(0, .ref qa), (1, .ref qb), (2, .int p2), (3, .int c3)] []) : ∀ (k : Nat) (p2 : Int32), zw_X1_meetAtDivisor_17 na nb a b c3 K44 k p2 → zv_V p l e (headSpec wsX1_meetAtDivisor rmX1_meetAtDivisor).room s m args below meth c Q G A 5 0 0 (zd_X1_meetAtDivisor cI qa qb na nb a b) 17 [(0, .ref qa), (1, .ref qb), (2, .int p2), (3, .int c3)] [] := by
  intro k
  induction k with
  | zero => intro p2 hF; exact (show False from hF).elim
  | succ k ih =>
    intro p2 hF
    refine zv_iload_n (pc := 17) C rfl 2 rfl dX1_meetAtDivisor_17 ?_
    refine zv_iconst (pc := 18) (v := 1) C (by decide) dX1_meetAtDivisor_18 ?_
    refine zv_icmp_le (pc := 19) (tgt := 44) C dX1_meetAtDivisor_19 (by decide) (fun c_4 => ?_) (fun c_4 => ?_)
    · replace hF := And.left hF c_4
      exact zv_lvs [0, 1, 2, 3] rfl (hK44 p2 hF)
    · replace hF := And.right hF c_4
      refine zv_aload_n (pc := 22) C rfl 0 rfl dX1_meetAtDivisor_22 ?_
      refine zv_iload_n (pc := 23) C rfl 2 rfl dX1_meetAtDivisor_23 ?_
      refine zv_iconst (pc := 24) (v := 1) C (by decide) dX1_meetAtDivisor_24 ?_
      refine zv_isub (pc := 25) C  dX1_meetAtDivisor_25 ?_
      obtain ⟨h_5, hF⟩ := hF
      refine zv_iald (pc := 26) (n := na) (f := a) C 0 h_5 rfl dX1_meetAtDivisor_26 ?_
      refine zv_if_ne (pc := 27) (tgt := 44) C dX1_meetAtDivisor_27 (by decide) (fun c_6 => ?_) (fun c_6 => ?_)
      · replace hF := And.left hF c_6
        exact zv_lvs [0, 1, 2, 3] rfl (hK44 p2 hF)
      · replace hF := And.right hF c_6
        refine zv_aload_n (pc := 30) C rfl 1 rfl dX1_meetAtDivisor_30 ?_
        refine zv_iload_n (pc := 31) C rfl 2 rfl dX1_meetAtDivisor_31 ?_
        refine zv_iconst (pc := 32) (v := 1) C (by decide) dX1_meetAtDivisor_32 ?_
        refine zv_isub (pc := 33) C  dX1_meetAtDivisor_33 ?_
        obtain ⟨h_7, hF⟩ := hF
        refine zv_iald (pc := 34) (n := nb) (f := b) C 1 h_7 rfl dX1_meetAtDivisor_34 ?_
        refine zv_if_ne (pc := 35) (tgt := 44) C dX1_meetAtDivisor_35 (by decide) (fun c_8 => ?_) (fun c_8 => ?_)
        · replace hF := And.left hF c_8
          exact zv_lvs [0, 1, 2, 3] rfl (hK44 p2 hF)
        · replace hF := And.right hF c_8
          obtain ⟨x2_9, ex2_9⟩ : ∃ y : Int32, y = p2 + (-1 : Int32) := ⟨_, rfl⟩
          replace hF := hF x2_9 ex2_9
          refine zv_iinc (pc := 38) (v := x2_9) (lv' := [(2, .int x2_9), (0, .ref qa), (1, .ref qb), (3, .int c3)]) C 2 rfl (by rw [ex2_9]; rfl) (by decide) rfl dX1_meetAtDivisor_38 ?_
          refine zv_goto (pc := 41) (tgt := 17) C dX1_meetAtDivisor_41 (by decide) ?_
          exact zv_lvs [1, 2, 0, 3] rfl (ih x2_9 hF)
set_option maxHeartbeats 4000000 in
set_option maxRecDepth 100000 in
theorem zl_X1_meetAtDivisor_13 {p : Program} {l : Launch} {e : Env} {s : State} {m : MethodId} {args : Array Value} {below : List Frame} {meth : Method} {c : Code} {G : va_G} {cI : ClassId} {A : Nat → Prop} {Q : State → Prop} (qa qb : Nat) (na nb : Nat) (K57 : zRow → zRow → Prop) (K84 : zRow → zRow → Prop) (C : zv_C p s m args c cX1_meetAtDivisor 5 RX1 wsX1_meetAtDivisor G cI A) (hK57 : ∀ (a : zRow) (b : zRow), K57 a b → zv_V p l e (headSpec wsX1_meetAtDivisor rmX1_meetAtDivisor).room s m args below meth c Q G A 5 0 0 (zd_X1_meetAtDivisor cI qa qb na nb a b) 57 [] []) (hK84 : ∀ (a : zRow) (b : zRow), K84 a b → zv_V p l e (headSpec wsX1_meetAtDivisor rmX1_meetAtDivisor).room s m args below meth c Q G A 5 0 0 (zd_X1_meetAtDivisor cI qa qb na nb a b) 84 [] []) : ∀ (k : Nat) (p2 : Int32) (p3 : Int32) (a : zRow) (b : zRow), zw_X1_meetAtDivisor_13 na nb K57 K84 k p2 p3 a b → zv_V p l e (headSpec wsX1_meetAtDivisor rmX1_meetAtDivisor).room s m args below meth c Q G A 5 0 0 (zd_X1_meetAtDivisor cI qa qb na nb a b) 13 [(0, .ref qa), (1, .ref qb), (2, .int p2), (3, .int p3)] [] := by
  intro k
  induction k with
  | zero => intro p2 p3 a b hF; exact (show False from hF).elim
  | succ k ih =>
    intro p2 p3 a b hF
    refine zv_iload_n (pc := 13) C rfl 3 rfl dX1_meetAtDivisor_13 ?_
    refine zv_if_le (pc := 14) (tgt := 84) C dX1_meetAtDivisor_14 (by decide) (fun c_3 => ?_) (fun c_3 => ?_)
    · replace hF := And.left hF c_3
      exact zv_lvs [] rfl (hK84 a b hF)
    · replace hF := And.right hF c_3
      obtain ⟨kf, hF⟩ := hF
      refine zv_lvs [0, 1, 2, 3] rfl (zl_X1_meetAtDivisor_17 qa qb na nb a b p3 _ C ?_ kf p2 hF)
      · intro x2_10 hF
        refine zv_aload_n (pc := 44) C rfl 0 rfl dX1_meetAtDivisor_44 ?_
        refine zv_aload_n (pc := 45) C rfl 1 rfl dX1_meetAtDivisor_45 ?_
        refine zv_iload_n (pc := 46) C rfl 2 rfl dX1_meetAtDivisor_46 ?_
        refine zv_ci0 (pc := 47) (ws' := (fun uz : Unit => (zd_X1_meetAtDivisor cI qa qb na nb a b))) C (zv_runS (As := [.ref qa, .ref qb, .int x2_10]) (rest := []) C (zc_X1_compare l G cI qa qb na nb a b x2_10 _ hF) (va_cwS 3 C.2.2.2.2.1 gX1_meetAtDivisor_X1_compare rfl rfl rfl zy_X1_compare ⟨Nat.le_of_ble_eq_true rfl, Nat.le_of_ble_eq_true rfl⟩) rfl rfl (Nat.le_of_ble_eq_true rfl) ⟨Nat.zero_le _, Nat.zero_le _⟩ dX1_meetAtDivisor_47) [0, 1] [] rfl rfl rfl rfl rfl (fun _ => rfl) (fun _ => rfl) (fun _ => rfl) (fun v_11 uz hF => ?_)
        refine zv_istore (pc := 50) (lv' := [(4, .int v_11), (0, .ref qa), (1, .ref qb), (2, .int x2_10), (3, .int p3)]) C (by decide) rfl dX1_meetAtDivisor_50 ?_
        refine zv_iload (pc := 52) C 0 rfl dX1_meetAtDivisor_52 ?_
        refine zv_if_ne (pc := 54) (tgt := 58) C dX1_meetAtDivisor_54 (by decide) (fun c_12 => ?_) (fun c_12 => ?_)
        · replace hF := And.left hF c_12
          refine zv_iload (pc := 58) C 0 rfl dX1_meetAtDivisor_58 ?_
          refine zv_if_le (pc := 60) (tgt := 72) C dX1_meetAtDivisor_60 (by decide) (fun c_13 => ?_) (fun c_13 => ?_)
          · replace hF := And.left hF c_13
            refine zv_aload_n (pc := 72) C rfl 2 rfl dX1_meetAtDivisor_72 ?_
            refine zv_aload_n (pc := 73) C rfl 1 rfl dX1_meetAtDivisor_73 ?_
            refine zv_iload_n (pc := 74) C rfl 3 rfl dX1_meetAtDivisor_74 ?_
            refine zv_cv0 (pc := 75) (ws' := (fun uz : zRow => (zd_X1_meetAtDivisor cI qa qb na nb a uz))) C (zv_runS (As := [.ref qb, .ref qa, .int x2_10]) (rest := []) C (zc_X1_takeOff l G cI qb qa nb na b a x2_10 _ hF) (va_cwS 3 C.2.2.2.2.1 gX1_meetAtDivisor_X1_takeOff rfl rfl rfl zy_X1_takeOff ⟨Nat.le_of_ble_eq_true rfl, Nat.le_of_ble_eq_true rfl⟩) rfl rfl (Nat.le_of_ble_eq_true rfl) ⟨Nat.zero_le _, Nat.zero_le _⟩ dX1_meetAtDivisor_75) [1, 0] [] rfl rfl rfl rfl rfl (fun _ => rfl) (fun _ => rfl) (fun _ => rfl) (fun uz hF => ?_)
            obtain ⟨r_14, hE⟩ : ∃ z, z = uz := ⟨_, rfl⟩; subst hE
            obtain ⟨x3_15, ex3_15⟩ : ∃ y : Int32, y = p3 + (-1 : Int32) := ⟨_, rfl⟩
            replace hF := hF x3_15 ex3_15
            refine zv_iinc (pc := 78) (v := x3_15) (lv' := [(3, .int x3_15), (4, .int v_11), (0, .ref qa), (1, .ref qb), (2, .int x2_10)]) C 4 rfl (by rw [ex3_15]; rfl) (by decide) rfl dX1_meetAtDivisor_78 ?_
            refine zv_goto (pc := 81) (tgt := 13) C dX1_meetAtDivisor_81 (by decide) ?_
            exact zv_lvs [2, 3, 4, 0] rfl (ih x2_10 x3_15 a r_14 hF)
          · replace hF := And.right hF c_13
            refine zv_aload_n (pc := 63) C rfl 1 rfl dX1_meetAtDivisor_63 ?_
            refine zv_aload_n (pc := 64) C rfl 2 rfl dX1_meetAtDivisor_64 ?_
            refine zv_iload_n (pc := 65) C rfl 3 rfl dX1_meetAtDivisor_65 ?_
            refine zv_cv0 (pc := 66) (ws' := (fun uz : zRow => (zd_X1_meetAtDivisor cI qa qb na nb uz b))) C (zv_runS (As := [.ref qa, .ref qb, .int x2_10]) (rest := []) C (zc_X1_takeOff l G cI qa qb na nb a b x2_10 _ hF) (va_cwS 3 C.2.2.2.2.1 gX1_meetAtDivisor_X1_takeOff rfl rfl rfl zy_X1_takeOff ⟨Nat.le_of_ble_eq_true rfl, Nat.le_of_ble_eq_true rfl⟩) rfl rfl (Nat.le_of_ble_eq_true rfl) ⟨Nat.zero_le _, Nat.zero_le _⟩ dX1_meetAtDivisor_66) [0, 1] [] rfl rfl rfl rfl rfl (fun _ => rfl) (fun _ => rfl) (fun _ => rfl) (fun uz hF => ?_)
            obtain ⟨r_16, hE⟩ : ∃ z, z = uz := ⟨_, rfl⟩; subst hE
            refine zv_goto (pc := 69) (tgt := 78) C dX1_meetAtDivisor_69 (by decide) ?_
            obtain ⟨x3_17, ex3_17⟩ : ∃ y : Int32, y = p3 + (-1 : Int32) := ⟨_, rfl⟩
            replace hF := hF x3_17 ex3_17
            refine zv_iinc (pc := 78) (v := x3_17) (lv' := [(3, .int x3_17), (4, .int v_11), (0, .ref qa), (1, .ref qb), (2, .int x2_10)]) C 4 rfl (by rw [ex3_17]; rfl) (by decide) rfl dX1_meetAtDivisor_78 ?_
            refine zv_goto (pc := 81) (tgt := 13) C dX1_meetAtDivisor_81 (by decide) ?_
            exact zv_lvs [2, 3, 4, 0] rfl (ih x2_10 x3_17 r_16 b hF)
        · replace hF := And.right hF c_12
          exact zv_lvs [] rfl (hK57 a b hF)
set_option maxHeartbeats 4000000 in
set_option maxRecDepth 100000 in
theorem zc_X1_meetAtDivisor (l : Launch) (G : va_G) (cI : ClassId) (qa qb : Nat) (na nb : Nat) (a : zRow) (b : zRow) (post : zRow → zRow → Prop) (hF : zw_X1_meetAtDivisor na nb a b post) (sz : Nat) : Met l yX1_meetAtDivisor wsX1_meetAtDivisor rmX1_meetAtDivisor (va_Pc [.ref qa, .ref qb] (zv_in G cI (zd_X1_meetAtDivisor cI qa qb na nb a b) sz)) (va_Qv (fun uz : zRow × zRow => post uz.1 uz.2) (fun (uz : zRow × zRow) t => zv_out G cI (va_A (zd_X1_meetAtDivisor cI qa qb na nb a b) sz) (zd_X1_meetAtDivisor cI qa qb na nb uz.1 uz.2) t) (va_A (zd_X1_meetAtDivisor cI qa qb na nb a b) sz)) 0 0 (va_A (zd_X1_meetAtDivisor cI qa qb na nb a b) sz) := by
  refine zv_met (cc := cX1_meetAtDivisor) (maxL := 5) (ret := none) (lv0 := [(0, .ref qa), (1, .ref qb)]) (Qc := fun A => va_Qv (fun uz : zRow × zRow => post uz.1 uz.2) (fun (uz : zRow × zRow) t => zv_out G cI A (zd_X1_meetAtDivisor cI qa qb na nb uz.1 uz.2) t) A) (by decide) rfl (Nat.le_of_ble_eq_true rfl) rfl ?_ sz
  intro p e s m below meth c A C hr hlk
  clear sz
  refine zv_aload_n (pc := 0) C rfl 0 rfl dX1_meetAtDivisor_0 ?_
  refine zv_alen (pc := 1) (n := na) (f := a) (v := (nI na)) C 0 rfl rfl dX1_meetAtDivisor_1 ?_
  refine zv_aload_n (pc := 2) C rfl 1 rfl dX1_meetAtDivisor_2 ?_
  refine zv_alen (pc := 3) (n := nb) (f := b) (v := (nI nb)) C 1 rfl rfl dX1_meetAtDivisor_3 ?_
  refine zv_mmin (pc := 4) C (List.mem_of_getElem? (i := 1) rfl) (List.mem_of_getElem? (i := 2) rfl) (List.mem_of_getElem? (i := 3) rfl) (List.mem_of_getElem? (i := 4) rfl) (Nat.le_of_ble_eq_true rfl) (Nat.le_of_ble_eq_true rfl) (Nat.zero_le _) (Nat.zero_le _) dX1_meetAtDivisor_4 ?_
  refine zv_topi (fun x2_1 ex2_1 => ?_)
  replace hF := hF x2_1 ex2_1
  refine zv_istore_n (pc := 7) (lv' := [(2, .int x2_1), (0, .ref qa), (1, .ref qb)]) C rfl (by decide) rfl dX1_meetAtDivisor_7 ?_
  refine zv_bipush (pc := 8) (v := 60) C (by decide) dX1_meetAtDivisor_8 ?_
  refine zv_iload_n (pc := 10) C rfl 0 rfl dX1_meetAtDivisor_10 ?_
  refine zv_imul (pc := 11) C  dX1_meetAtDivisor_11 ?_
  refine zv_topi (fun x3_2 ex3_2 => ?_)
  replace hF := hF x3_2 ex3_2
  refine zv_istore_n (pc := 12) (lv' := [(3, .int x3_2), (2, .int x2_1), (0, .ref qa), (1, .ref qb)]) C rfl (by decide) rfl dX1_meetAtDivisor_12 ?_
  obtain ⟨kf, hF⟩ := hF
  refine zv_lvs [2, 3, 1, 0] rfl (zl_X1_meetAtDivisor_13 qa qb na nb _ _ C ?_ ?_ kf x2_1 x3_2 a b hF)
  · intro r_18 r_19 hF
    exact zv_vret (pc := 57) C hr hlk (r_18, r_19) hF rfl dX1_meetAtDivisor_57
  · intro r_20 r_21 hF
    exact zv_vret (pc := 84) C hr hlk (r_20, r_21) hF rfl dX1_meetAtDivisor_84
theorem zy_X1_inverseOf : yX1_inverseOf.cls ≠ "java/lang/invoke/MethodHandle" ∧ yX1_inverseOf.cls ≠ "java/lang/invoke/VarHandle" ∧ (parseMethodDescriptor yX1_inverseOf.desc).map (fun d => d.parameters.length) = some 1 := by decide +kernel
set_option maxHeartbeats 4000000 in
set_option maxRecDepth 100000 in
theorem zl_X1_inverseOf_4 {p : Program} {l : Launch} {e : Env} {s : State} {m : MethodId} {args : Array Value} {below : List Frame} {meth : Method} {c : Code} {G : va_G} {cI : ClassId} {A : Nat → Prop} {Q : State → Prop} (c0 : Int32) (K23 : Int32 → Prop) (C : zv_C p s m args c cX1_inverseOf 3 RX1 wsX1_inverseOf G cI A) (hK23 : ∀ (p1 : Int32), K23 p1 → zv_V p l e (headSpec wsX1_inverseOf rmX1_inverseOf).room s m args below meth c Q G A 3 0 0 (zd_X1_inverseOf cI ) 23 [(1, .int p1)] []) : ∀ (k : Nat) (p1 : Int32) (p2 : Int32), zw_X1_inverseOf_4 c0 K23 k p1 p2 → zv_V p l e (headSpec wsX1_inverseOf rmX1_inverseOf).room s m args below meth c Q G A 3 0 0 (zd_X1_inverseOf cI ) 4 [(0, .int c0), (1, .int p1), (2, .int p2)] [] := by
  intro k
  induction k with
  | zero => intro p1 p2 hF; exact (show False from hF).elim
  | succ k ih =>
    intro p1 p2 hF
    refine zv_iload_n (pc := 4) C rfl 2 rfl dX1_inverseOf_4 ?_
    refine zv_iconst (pc := 5) (v := 4) C (by decide) dX1_inverseOf_5 ?_
    refine zv_icmp_ge (pc := 6) (tgt := 23) C dX1_inverseOf_6 (by decide) (fun c_1 => ?_) (fun c_1 => ?_)
    · replace hF := And.left hF c_1
      exact zv_lvs [1] rfl (hK23 p1 hF)
    · replace hF := And.right hF c_1
      refine zv_iload_n (pc := 9) C rfl 1 rfl dX1_inverseOf_9 ?_
      refine zv_iconst (pc := 10) (v := 2) C (by decide) dX1_inverseOf_10 ?_
      refine zv_iload_n (pc := 11) C rfl 0 rfl dX1_inverseOf_11 ?_
      refine zv_iload_n (pc := 12) C rfl 1 rfl dX1_inverseOf_12 ?_
      refine zv_imul (pc := 13) C  dX1_inverseOf_13 ?_
      refine zv_isub (pc := 14) C  dX1_inverseOf_14 ?_
      refine zv_imul (pc := 15) C  dX1_inverseOf_15 ?_
      refine zv_topi (fun x1_2 ex1_2 => ?_)
      replace hF := hF x1_2 ex1_2
      refine zv_istore_n (pc := 16) (lv' := [(1, .int x1_2), (0, .int c0), (2, .int p2)]) C rfl (by decide) rfl dX1_inverseOf_16 ?_
      obtain ⟨x2_3, ex2_3⟩ : ∃ y : Int32, y = p2 + (1 : Int32) := ⟨_, rfl⟩
      replace hF := hF x2_3 ex2_3
      refine zv_iinc (pc := 17) (v := x2_3) (lv' := [(2, .int x2_3), (1, .int x1_2), (0, .int c0)]) C 2 rfl (by rw [ex2_3]; rfl) (by decide) rfl dX1_inverseOf_17 ?_
      refine zv_goto (pc := 20) (tgt := 4) C dX1_inverseOf_20 (by decide) ?_
      exact zv_lvs [2, 1, 0] rfl (ih x1_2 x2_3 hF)
set_option maxHeartbeats 4000000 in
set_option maxRecDepth 100000 in
theorem zc_X1_inverseOf (l : Launch) (G : va_G) (cI : ClassId) (odd : Int32) (post : Int32 → Prop) (hF : zw_X1_inverseOf odd post) (sz : Nat) : Met l yX1_inverseOf wsX1_inverseOf rmX1_inverseOf (va_Pc [.int odd] (zv_in G cI (zd_X1_inverseOf cI ) sz)) (va_Qi (fun (rz : Int32) (uz : Unit) => post rz ) (fun (uz : Unit) t => zv_out G cI (va_A (zd_X1_inverseOf cI ) sz) (zd_X1_inverseOf cI ) t) (va_A (zd_X1_inverseOf cI ) sz)) 0 0 (va_A (zd_X1_inverseOf cI ) sz) := by
  refine zv_met (cc := cX1_inverseOf) (maxL := 3) (ret := (some .int)) (lv0 := [(0, .int odd)]) (Qc := fun A => va_Qi (fun (rz : Int32) (uz : Unit) => post rz ) (fun (uz : Unit) t => zv_out G cI A (zd_X1_inverseOf cI ) t) A) (by decide) rfl (Nat.le_of_ble_eq_true rfl) rfl ?_ sz
  intro p e s m below meth c A C hr hlk
  clear sz
  refine zv_iload_n (pc := 0) C rfl 0 rfl dX1_inverseOf_0 ?_
  refine zv_istore_n (pc := 1) (lv' := [(1, .int odd), (0, .int odd)]) C rfl (by decide) rfl dX1_inverseOf_1 ?_
  refine zv_iconst (pc := 2) (v := 0) C (by decide) dX1_inverseOf_2 ?_
  refine zv_istore_n (pc := 3) (lv' := [(2, .int (0 : Int32)), (1, .int odd), (0, .int odd)]) C rfl (by decide) rfl dX1_inverseOf_3 ?_
  obtain ⟨kf, hF⟩ := hF
  refine zv_lvs [2, 1, 0] rfl (zl_X1_inverseOf_4  odd _ C ?_ kf odd (0 : Int32) hF)
  · intro x1_4 hF
    refine zv_iload_n (pc := 23) C rfl 0 rfl dX1_inverseOf_23 ?_
    exact zv_iret (pc := 24) C hr hlk x1_4 () hF rfl dX1_inverseOf_24
theorem zy_X1_divideExactly : yX1_divideExactly.cls ≠ "java/lang/invoke/MethodHandle" ∧ yX1_divideExactly.cls ≠ "java/lang/invoke/VarHandle" ∧ (parseMethodDescriptor yX1_divideExactly.desc).map (fun d => d.parameters.length) = some 2 := by decide +kernel
set_option maxHeartbeats 4000000 in
set_option maxRecDepth 100000 in
theorem zl_X1_divideExactly_15 {p : Program} {l : Launch} {e : Env} {s : State} {m : MethodId} {args : Array Value} {below : List Frame} {meth : Method} {c : Code} {G : va_G} {cI : ClassId} {A : Nat → Prop} {Q : State → Prop} (qr qb : Nat) (nr nb : Nat) (b : zRow) (c2 : Int32) (K52 : zRow → Prop) (C : zv_C p s m args c cX1_divideExactly 5 RX1 wsX1_divideExactly G cI A) (hK52 : ∀ (r : zRow), K52 r → zv_V p l e (headSpec wsX1_divideExactly rmX1_divideExactly).room s m args below meth c Q G A 5 0 0 (zd_X1_divideExactly cI qr qb nr nb r b) 52 [] []) : ∀ (k : Nat) (p3 : Int32) (r : zRow), zw_X1_divideExactly_15 nr nb b c2 K52 k p3 r → zv_V p l e (headSpec wsX1_divideExactly rmX1_divideExactly).room s m args below meth c Q G A 5 0 0 (zd_X1_divideExactly cI qr qb nr nb r b) 15 [(0, .ref qr), (1, .ref qb), (2, .int c2), (3, .int p3)] [] := by
  intro k
  induction k with
  | zero => intro p3 r hF; exact (show False from hF).elim
  | succ k ih =>
    intro p3 r hF
    refine zv_iload_n (pc := 15) C rfl 3 rfl dX1_divideExactly_15 ?_
    refine zv_aload_n (pc := 16) C rfl 0 rfl dX1_divideExactly_16 ?_
    refine zv_alen (pc := 17) (n := nr) (f := r) (v := (nI nr)) C 0 rfl rfl dX1_divideExactly_17 ?_
    refine zv_icmp_ge (pc := 18) (tgt := 52) C dX1_divideExactly_18 (by decide) (fun c_4 => ?_) (fun c_4 => ?_)
    · replace hF := And.left hF c_4
      exact zv_lvs [] rfl (hK52 r hF)
    · replace hF := And.right hF c_4
      refine zv_aload_n (pc := 21) C rfl 0 rfl dX1_divideExactly_21 ?_
      refine zv_iload_n (pc := 22) C rfl 3 rfl dX1_divideExactly_22 ?_
      obtain ⟨h_5, hF⟩ := hF
      refine zv_iald (pc := 23) (n := nr) (f := r) C 0 h_5 rfl dX1_divideExactly_23 ?_
      refine zv_iload_n (pc := 24) C rfl 2 rfl dX1_divideExactly_24 ?_
      refine zv_imul (pc := 25) C  dX1_divideExactly_25 ?_
      refine zv_ldc (pc := 26) C (v := 1073741823) (List.mem_of_getElem? (i := 1) rfl) dX1_divideExactly_26 ?_
      refine zv_iand (pc := 28) C  dX1_divideExactly_28 ?_
      refine zv_topi (fun x4_6 ex4_6 => ?_)
      replace hF := hF x4_6 ex4_6
      refine zv_istore (pc := 29) (lv' := [(4, .int x4_6), (0, .ref qr), (1, .ref qb), (2, .int c2), (3, .int p3)]) C (by decide) rfl dX1_divideExactly_29 ?_
      refine zv_aload_n (pc := 31) C rfl 1 rfl dX1_divideExactly_31 ?_
      refine zv_aload_n (pc := 32) C rfl 2 rfl dX1_divideExactly_32 ?_
      refine zv_iload (pc := 33) C 0 rfl dX1_divideExactly_33 ?_
      refine zv_ineg (pc := 35) C  dX1_divideExactly_35 ?_
      refine zv_i2l (pc := 36) C  dX1_divideExactly_36 ?_
      refine zv_iload_n (pc := 37) C rfl 4 rfl dX1_divideExactly_37 ?_
      refine zv_cv0 (pc := 38) (ws' := (fun uz : zRow => (zd_X1_divideExactly cI qr qb nr nb uz b))) C (zv_runS (As := [.ref qr, .ref qb, .long (Int32.toInt64 (-x4_6)), .int p3]) (rest := []) C (zc_X1_gainRaised l G cI qr qb nr nb r b (Int32.toInt64 (-x4_6)) p3 _ hF) (va_cwS 4 C.2.2.2.2.1 gX1_divideExactly_X1_gainRaised rfl rfl rfl zy_X1_gainRaised ⟨Nat.le_of_ble_eq_true rfl, Nat.le_of_ble_eq_true rfl⟩) rfl rfl (Nat.le_of_ble_eq_true rfl) ⟨Nat.zero_le _, Nat.zero_le _⟩ dX1_divideExactly_38) [0, 1] [] rfl rfl rfl rfl rfl (fun _ => rfl) (fun _ => rfl) (fun _ => rfl) (fun uz hF => ?_)
      obtain ⟨r_7, hE⟩ : ∃ z, z = uz := ⟨_, rfl⟩; subst hE
      refine zv_aload_n (pc := 41) C rfl 1 rfl dX1_divideExactly_41 ?_
      refine zv_iload_n (pc := 42) C rfl 4 rfl dX1_divideExactly_42 ?_
      refine zv_iload (pc := 43) C 0 rfl dX1_divideExactly_43 ?_
      obtain ⟨h_8, hF⟩ := hF
      obtain ⟨r_9, er_9⟩ : ∃ y : zRow, y = (upd r_7 (Int32.toNatClampNeg p3) x4_6) := ⟨_, rfl⟩
      replace hF := hF r_9 er_9
      refine zv_iast (pc := 45) (n := nr) (f := r_7) (ws' := (zd_X1_divideExactly cI qr qb nr nb r_9 b)) C 0 h_8 rfl (by rw [er_9]; rfl) dX1_divideExactly_45 ?_
      obtain ⟨x3_10, ex3_10⟩ : ∃ y : Int32, y = p3 + (1 : Int32) := ⟨_, rfl⟩
      replace hF := hF x3_10 ex3_10
      refine zv_iinc (pc := 46) (v := x3_10) (lv' := [(3, .int x3_10), (4, .int x4_6), (0, .ref qr), (1, .ref qb), (2, .int c2)]) C 4 rfl (by rw [ex3_10]; rfl) (by decide) rfl dX1_divideExactly_46 ?_
      refine zv_goto (pc := 49) (tgt := 15) C dX1_divideExactly_49 (by decide) ?_
      exact zv_lvs [2, 3, 4, 0] rfl (ih x3_10 r_9 hF)
set_option maxHeartbeats 4000000 in
set_option maxRecDepth 100000 in
theorem zc_X1_divideExactly (l : Launch) (G : va_G) (cI : ClassId) (qr qb : Nat) (nr nb : Nat) (r : zRow) (b : zRow) (post : zRow → Prop) (hF : zw_X1_divideExactly nr nb r b post) (sz : Nat) : Met l yX1_divideExactly wsX1_divideExactly rmX1_divideExactly (va_Pc [.ref qr, .ref qb] (zv_in G cI (zd_X1_divideExactly cI qr qb nr nb r b) sz)) (va_Qv (fun uz : zRow => post uz) (fun (uz : zRow) t => zv_out G cI (va_A (zd_X1_divideExactly cI qr qb nr nb r b) sz) (zd_X1_divideExactly cI qr qb nr nb uz b) t) (va_A (zd_X1_divideExactly cI qr qb nr nb r b) sz)) 0 0 (va_A (zd_X1_divideExactly cI qr qb nr nb r b) sz) := by
  refine zv_met (cc := cX1_divideExactly) (maxL := 5) (ret := none) (lv0 := [(0, .ref qr), (1, .ref qb)]) (Qc := fun A => va_Qv (fun uz : zRow => post uz) (fun (uz : zRow) t => zv_out G cI A (zd_X1_divideExactly cI qr qb nr nb uz b) t) A) (by decide) rfl (Nat.le_of_ble_eq_true rfl) rfl ?_ sz
  intro p e s m below meth c A C hr hlk
  clear sz
  refine zv_aload_n (pc := 0) C rfl 1 rfl dX1_divideExactly_0 ?_
  refine zv_alen (pc := 1) (n := nb) (f := b) (v := (nI nb)) C 1 rfl rfl dX1_divideExactly_1 ?_
  refine zv_if_ne (pc := 2) (tgt := 6) C dX1_divideExactly_2 (by decide) (fun c_1 => ?_) (fun c_1 => ?_)
  · replace hF := And.left hF c_1
    refine zv_aload_n (pc := 6) C rfl 1 rfl dX1_divideExactly_6 ?_
    refine zv_iconst (pc := 7) (v := 0) C (by decide) dX1_divideExactly_7 ?_
    obtain ⟨h_2, hF⟩ := hF
    refine zv_iald (pc := 8) (n := nb) (f := b) C 1 h_2 rfl dX1_divideExactly_8 ?_
    refine zv_ci0 (pc := 9) (ws' := (fun uz : Unit => (zd_X1_divideExactly cI qr qb nr nb r b))) C (zv_runS (As := [.int (b (Int32.toNatClampNeg (0 : Int32)))]) (rest := []) C (zc_X1_inverseOf l G cI (b (Int32.toNatClampNeg (0 : Int32))) _ hF) (va_cwS 1 C.2.2.2.2.1 gX1_divideExactly_X1_inverseOf rfl rfl rfl zy_X1_inverseOf ⟨Nat.le_of_ble_eq_true rfl, Nat.le_of_ble_eq_true rfl⟩) rfl rfl (Nat.le_of_ble_eq_true rfl) ⟨Nat.zero_le _, Nat.zero_le _⟩ dX1_divideExactly_9) [] [0, 1] rfl rfl rfl rfl rfl (fun _ => rfl) (fun _ => rfl) (fun _ => rfl) (fun v_3 uz hF => ?_)
    refine zv_istore_n (pc := 12) (lv' := [(2, .int v_3), (0, .ref qr), (1, .ref qb)]) C rfl (by decide) rfl dX1_divideExactly_12 ?_
    refine zv_iconst (pc := 13) (v := 0) C (by decide) dX1_divideExactly_13 ?_
    refine zv_istore_n (pc := 14) (lv' := [(3, .int (0 : Int32)), (2, .int v_3), (0, .ref qr), (1, .ref qb)]) C rfl (by decide) rfl dX1_divideExactly_14 ?_
    obtain ⟨kf, hF⟩ := hF
    refine zv_lvs [2, 3, 1, 0] rfl (zl_X1_divideExactly_15 qr qb nr nb b v_3 _ C ?_ kf (0 : Int32) r hF)
    · intro r_11 hF
      exact zv_vret (pc := 52) C hr hlk r_11 hF rfl dX1_divideExactly_52
  · replace hF := And.right hF c_1
    exact zv_vret (pc := 5) C hr hlk r hF rfl dX1_divideExactly_5
