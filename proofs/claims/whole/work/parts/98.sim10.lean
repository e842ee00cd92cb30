theorem zf_shareS {T : zMem} {a : zAb} {wh be kk : Int32} {post : Int32 → zMem → Prop} (hW : zWA a) (h1 : zRA T a) (hok : zokSh wh kk) (k : ∀ M' : zMem, M' 0 = T 0 → zRA M' a → post (ztd (zsel (zPa a) (zNt wh)).natAbs (zPa a).2.2.1.natAbs be (zNt kk)) M') : zw_X6_shares T (fun (T_50 : zMem) => ((¬ wh = 0 → ((¬ wh = (1 : Int32) → ((¬ wh = (2 : Int32) → zw_X6_times T_50 (36 : Int32) (27 : Int32) (31 : Int32) (fun (T_54 : zMem) => zw_X6_times T_54 (10 : Int32) (26 : Int32) (31 : Int32) (fun (T_55 : zMem) => zw_X6_minus T_55 (35 : Int32) (36 : Int32) (10 : Int32) (fun (T_56 : zMem) => zw_X6_times T_56 (10 : Int32) (30 : Int32) (27 : Int32) (fun (T_57 : zMem) => zw_X6_minus T_57 (35 : Int32) (35 : Int32) (10 : Int32) (fun (T_58 : zMem) => zw_X6_toldPart T_58 (35 : Int32) (36 : Int32) be kk (fun (v_60 : Int32) (T_59 : zMem) => post v_60 T_59))))))) ∧ (wh = (2 : Int32) → zw_X6_toldPart T_50 (30 : Int32) (31 : Int32) be kk (fun (v_62 : Int32) (T_61 : zMem) => post v_62 T_61)))) ∧ (wh = (1 : Int32) → zw_X6_toldPart T_50 (28 : Int32) (29 : Int32) be kk (fun (v_64 : Int32) (T_63 : zMem) => post v_64 T_63)))) ∧ (wh = 0 → zw_X6_toldPart T_50 (26 : Int32) (27 : Int32) be kk (fun (v_66 : Int32) (T_65 : zMem) => post v_66 T_65)))) := by
  obtain ⟨w, hG⟩ := zRA_g h1
  have hWp := hW.2.2.2.2
  have hq8 : a.2.2.2.2.1 ≤ 8 := hWp.1
  obtain ⟨i1, i2⟩ := zPn_b hW
  have i1 : zPi (zPa a) := i1
  have i2 : (zPa a).2.2.1.natAbs ≤ 2 ^ 216 := i2
  obtain ⟨v1, v2, v3, v4, v5, v6, v7⟩ := i1
  obtain ⟨ek, hk40⟩ := zPt_n hok.2
  obtain ⟨ew, hw⟩ := zt_n (n := 3) hok.1.1 hok.1.2
  refine zg_shares hG hq8 h1.2.2.2.2.1 hWp.2 (fun M' w' G' qF qL qO => ?_)
  have fin : ∀ (p q : Nat) (X : Int) (M2 : zMem) (w2 : Nat → Int), p < 60 → q < 60 → q ≠ 18 → zG T M2 w2 → zQp w2 p q X (zPa a).2.2.1 ∨ ((w2 p).natAbs < 2 ^ 450 ∧ 0 ≤ w2 p ∧ 0 < w2 q ∧ (w2 q).natAbs < 2 ^ 450 ∧ w2 p * (zPa a).2.2.1 = X * w2 q) → 0 ≤ X → X = zsel (zPa a) (zNt wh) → zw_X6_toldPart M2 (nI p) (nI q) be kk (fun v T9 => post v T9) := by
    intro p q X M2 w2 hp hq hq18 G2 hQ hX hXe
    have hh : (w2 p).natAbs < 2 ^ 450 ∧ 0 ≤ w2 p ∧ 0 < w2 q ∧ (w2 q).natAbs < 2 ^ 450 ∧ w2 p * (zPa a).2.2.1 = X * w2 q := by
      rcases hQ with z | z
      · obtain ⟨z1, z2, z3, z4, z5⟩ := z
        have p1 : (2 : Nat) ^ 216 < 2 ^ 450 := by decide
        exact ⟨by omega, z2, z1, by omega, z3⟩
      · exact z
    obtain ⟨z1, z2, z3, z4, z5⟩ := hh
    have e1 : (((w2 p).natAbs * (zPa a).2.2.1.natAbs : Nat) : Int) = w2 p * (zPa a).2.2.1 := by rw [Int.natCast_mul, Int.natAbs_of_nonneg z2, Int.natAbs_of_nonneg (by omega)]
    have e2 : ((X.natAbs * (w2 q).natAbs : Nat) : Int) = X * w2 q := by rw [Int.natCast_mul, Int.natAbs_of_nonneg hX, Int.natAbs_of_nonneg (by omega)]
    have e3 : (w2 p).natAbs * (zPa a).2.2.1.natAbs = X.natAbs * (w2 q).natAbs := by
      have : (((w2 p).natAbs * (zPa a).2.2.1.natAbs : Nat) : Int) = ((X.natAbs * (w2 q).natAbs : Nat) : Int) := by rw [e1, e2, z5]
      exact_mod_cast this
    have A := zg_toldPart (f := be) (post := fun v T9 => post v T9) p q (kk := zNt kk) (X := w2 p) (Y := (w2 q).natAbs) G2 hp hq hq18 hk40 rfl (by omega) (by omega) (zn_2800 z1) (zn_2800 z4) (fun M3 w3 G3 => ?_)
    · rwa [← ek] at A
    · have e := ztd_same (be := be) (k := zNt kk) (show 0 < (w2 q).natAbs by omega) (show 0 < (zPa a).2.2.1.natAbs by omega) e3
      have := k M3 (by rw [G3.1 0 (by decide) (by decide) (by decide)]) (zRA_G h1 G3)
      rw [← hXe, ← e] at this
      exact this
  refine And.intro (fun q0 => And.intro (fun q1 => And.intro (fun q2 => ?_) (fun q2 => ?_)) (fun q1 => ?_)) (fun q0 => ?_)
  · have hz : zNt wh = 3 := by
      have n0 : zNt wh ≠ 0 := fun z => q0 (by rw [ew, z]; rfl)
      have n1 : zNt wh ≠ 1 := fun z => q1 (by rw [ew, z]; rfl)
      have n2 : zNt wh ≠ 2 := fun z => q2 (by rw [ew, z]; rfl)
      omega
    obtain ⟨f1, f2, f3, f4, f5⟩ := qF
    obtain ⟨o1, o2, o3, o4, o5⟩ := qO
    have f3 : w' 26 * (zPa a).2.2.1 = (zPa a).1 * w' 27 := f3
    have o3 : w' 30 * (zPa a).2.2.1 = (zPa a).2.2.2.2 * w' 31 := o3
    have lq : ∀ {x : Int}, x.natAbs ≤ 2 ^ 216 → x.natAbs < 2 ^ 217 := fun {x} h => Nat.lt_of_le_of_lt h (by decide)
    refine zg_times 36 27 31 (e := 217) (f := 217) G' (by decide) (by decide) (by decide) (by decide) (by decide) (lq f4) (lq o4) (by decide) (fun T54 G54 => ?_)
    refine zg_times 10 26 31 (e := 217) (f := 217) G54 (by decide) (by decide) (by decide) (by decide) (by decide) (lq f5) (lq o4) (by decide) (fun T55 G55 => ?_)
    have B1 : (w' 27 * w' 31).natAbs < 2 ^ 434 := zn_mlt (lq f4) (lq o4)
    have B2 : (w' 26 * w' 31).natAbs < 2 ^ 434 := zn_mlt (lq f5) (lq o4)
    have B3 : (w' 30 * w' 27).natAbs < 2 ^ 434 := zn_mlt (lq o5) (lq f4)
    refine zg_minus 35 36 10 (e := 434) (f := 434) G55 (by decide) (by decide) (by decide) B1 B2 (by decide) (by decide) (fun T56 G56 => ?_)
    refine zg_times 10 30 27 (e := 217) (f := 217) G56 (by decide) (by decide) (by decide) (by decide) (by decide) (lq o5) (lq f4) (by decide) (fun T57 G57 => ?_)
    refine zg_minus 35 35 10 (e := 435) (f := 434) G57 (by decide) (by decide) (by decide) (zn_slt B1 B2) B3 (by decide) (by decide) (fun T58 G58 => ?_)
    have hp27 : 0 < w' 27 * w' 31 := Int.mul_pos f1 o1
    have key : (w' 27 * w' 31 - w' 26 * w' 31 - w' 30 * w' 27) * (zPa a).2.2.1 = ((zPa a).2.2.1 - (zPa a).1 - (zPa a).2.2.2.2) * (w' 27 * w' 31) := by
      have e : (w' 27 * w' 31 - w' 26 * w' 31 - w' 30 * w' 27) * (zPa a).2.2.1 = w' 27 * w' 31 * (zPa a).2.2.1 - (w' 26 * (zPa a).2.2.1) * w' 31 - (w' 30 * (zPa a).2.2.1) * w' 27 := by grind
      rw [e, f3, o3]; grind
    refine fin 35 36 ((zPa a).2.2.1 - (zPa a).1 - (zPa a).2.2.2.2) T58 _ (by decide) (by decide) (by decide) G58 (Or.inr ⟨?_, ?_, hp27, ?_, key⟩) (by omega) (by rw [hz]; rfl)
    · exact zn_pwl (zn_slt (e := 435) (zn_slt B1 B2) (zn_pwl B3 (by decide))) (by decide)
    · show 0 ≤ w' 27 * w' 31 - w' 26 * w' 31 - w' 30 * w' 27
      have h2 : 0 ≤ (w' 27 * w' 31 - w' 26 * w' 31 - w' 30 * w' 27) * (zPa a).2.2.1 := by
        rw [key]; exact zn_nm (by omega) (by omega)
      rcases Int.lt_or_le (w' 27 * w' 31 - w' 26 * w' 31 - w' 30 * w' 27) 0 with z | z
      · have := Int.mul_neg_of_neg_of_pos z v1
        omega
      · exact z
    · exact zn_pwl B1 (by decide)
  · refine fin 30 31 (zPa a).2.2.2.2 M' w' (by decide) (by decide) (by decide) G' (Or.inl qO) v4 ?_
    rw [q2]; rfl
  · refine fin 28 29 (zPa a).2.2.2.1 M' w' (by decide) (by decide) (by decide) G' (Or.inl qL) v3 ?_
    rw [q1]; rfl
  · refine fin 26 27 (zPa a).1 M' w' (by decide) (by decide) (by decide) G' (Or.inl qF) v2 ?_
    rw [q0]; rfl
theorem zf_share {M : zMem} {a : zAb} {wh be kk : Int32} {post : Int32 → zMem → Prop} (hW : zWA a) (h : zRA M a) (k : ∀ M' : zMem, M' 0 0 = (zoSh a wh be kk).1 → zRA M' a → post (zoSh a wh be kk).2 M') : zw_X6_share M wh be kk post := by
  have h1 : zRA (zset M 0 (fun _ => 0)) a := zRA_0 h
  have bad : ¬ zokSh wh kk → post 0 (zset (zset M 0 (fun _ => 0)) 0 (fun _ => 1)) := fun q => by
    rw [zoSh_1 q] at k
    exact k _ rfl (zRA_0 h1)
  refine And.intro (fun d => ?_) (fun d1 => And.intro (fun d => ?_) (fun d2 => ?_))
  · exact zr_right0 rfl (by decide) (And.intro (fun q => absurd rfl q) (fun _ => bad (fun q => by have := zi_lt zn_0 d; have := q.1; omega)))
  · exact zr_right0 rfl (by decide) (And.intro (fun q => absurd rfl q) (fun _ => bad (fun q => by have := zi_gt zc_3 d; have := q.1; omega)))
  · refine zr_isPart (fun hk => ⟨fun v => v = 1, ?_, And.intro (fun q => absurd q (by decide)) (fun _ => rfl)⟩) (fun hk => ⟨fun v => v = 0, ?_, And.intro (fun _ => rfl) (fun q => absurd rfl q)⟩)
    · rintro v rfl
      have hok : zokSh wh kk := ⟨⟨zi_nlt zn_0 d1, zi_ngt zc_3 d2⟩, hk⟩
      rw [zoSh_0 hok] at k
      refine zr_right1 rfl (by decide) (And.intro (fun _ => ?_) (fun q => absurd q (by decide)))
      exact zf_shareS hW h1 hok (fun M' e hM' => k M' (by rw [e]; rfl) hM')
    · rintro v rfl
      exact zr_right0 rfl (by decide) (And.intro (fun q => absurd rfl q) (fun _ => bad (fun q => hk q.2)))
/-! extreme -/
def zbt (le : Int32) (s : zStk) (v : Nat) (u b : Int) : Prop := (le = 0 ∧ 0 < zcm s u v s b v) ∨ (¬ le = 0 ∧ zcm s u v s b v < 0)
noncomputable def zbs (le : Int32) (s : zStk) (v : Nat) : Nat → Int
  | 0 => -v
  | i + 1 => zif (zbt le s v (-v + (i + 1)) (zbs le s v i)) (-v + (i + 1)) (zbs le s v i)
theorem zbs_r {le : Int32} {s : zStk} {v : Nat} : ∀ i : Nat, -(v : Int) ≤ zbs le s v i ∧ zbs le s v i ≤ -v + i := by
  intro i
  induction i with
  | zero => exact ⟨Int.le_refl _, (show -(v : Int) ≤ -v + (0 : Nat) by omega)⟩
  | succ i ih =>
    by_cases h : zbt le s v (-v + (i + 1)) (zbs le s v i)
    · rw [zbs, zif_t h]; omega
    · rw [zbs, zif_f h]; omega
/-- none so far is better than the one that is kept -/
theorem zbs_n {le : Int32} {s : zStk} {v : Nat} (hs : zWs s) (hv : v ≤ 49) (hv1 : 1 ≤ v) : ∀ i : Nat, i ≤ 2 * v → ∀ w : Int, -(v : Int) ≤ w → w ≤ -v + i → ¬ zbt le s v w (zbs le s v i) := by
  have self : ∀ w : Int, ¬ zbt le s v w w := fun w q => by
    have e : zcm s w v s w v = 0 := by unfold zcm; omega
    rcases q with ⟨-, q⟩ | ⟨-, q⟩ <;> omega
  intro i
  induction i with
  | zero =>
    intro _ w h1 h2
    have : w = -v := by omega
    subst this
    exact self _
  | succ i ih =>
    intro hi w h1 h2
    obtain ⟨r1, r2⟩ := zbs_r (le := le) (s := s) (v := v) i
    by_cases h : zbt le s v (-v + (i + 1)) (zbs le s v i)
    · rw [zbs, zif_t h]
      by_cases hw : w = -v + (i + 1)
      · rw [hw]; exact self _
      · have hn := ih (by omega) w h1 (by omega)
        have qb := zBk_p (s := s) (u := zbs le s v i) hs (by omega) hv hv1
        have qu := zBk_p (s := s) (u := -(v : Int) + (i + 1)) hs (by omega) hv hv1
        have qw := zBk_p (s := s) (u := w) hs (by omega) hv hv1
        intro hc
        unfold zbt zcm at *
        generalize zBk (-1) s w v = Pw at *
        generalize zBk 1 s w v = Qw at *
        generalize zBk (-1) s (-(v : Int) + (i + 1)) v = Pu at *
        generalize zBk 1 s (-(v : Int) + (i + 1)) v = Qu at *
        generalize zBk (-1) s (zbs le s v i) v = Pb at *
        generalize zBk 1 s (zbs le s v i) v = Qb at *
        rcases h with ⟨l0, h⟩ | ⟨l0, h⟩
        · have hn' : Pw * Qb ≤ Pb * Qw := by
            rcases Int.lt_or_le (Pb * Qw) (Pw * Qb) with z | z
            · exact absurd (Or.inl ⟨l0, by omega⟩) hn
            · exact z
          have hc' : Pu * Qw < Pw * Qu := by
            rcases hc with ⟨-, z⟩ | ⟨z, -⟩
            · omega
            · exact absurd l0 z
          have m1 : Pw * Qb * Qu ≤ Pb * Qw * Qu := Int.mul_le_mul_of_nonneg_right hn' (by omega)
          have m2 : Pb * Qu * Qw ≤ Pu * Qb * Qw := Int.mul_le_mul_of_nonneg_right (by omega) (by omega)
          have m3 : Pu * Qw * Qb < Pw * Qu * Qb := Int.mul_lt_mul_of_pos_right hc' (by omega)
          have e1 : Pw * Qb * Qu = Pw * Qu * Qb := by grind
          have e2 : Pb * Qw * Qu = Pb * Qu * Qw := by grind
          have e3 : Pu * Qb * Qw = Pu * Qw * Qb := by grind
          omega
        · have hn' : Pb * Qw ≤ Pw * Qb := by
            rcases Int.lt_or_le (Pw * Qb) (Pb * Qw) with z | z
            · exact absurd (Or.inr ⟨l0, by omega⟩) hn
            · exact z
          have hc' : Pw * Qu < Pu * Qw := by
            rcases hc with ⟨z, -⟩ | ⟨-, z⟩
            · exact absurd z l0
            · omega
          have m1 : Pb * Qw * Qu ≤ Pw * Qb * Qu := Int.mul_le_mul_of_nonneg_right hn' (by omega)
          have m2 : Pu * Qb * Qw ≤ Pb * Qu * Qw := Int.mul_le_mul_of_nonneg_right (by omega) (by omega)
          have m3 : Pw * Qu * Qb < Pu * Qw * Qb := Int.mul_lt_mul_of_pos_right hc' (by omega)
          have e1 : Pw * Qb * Qu = Pw * Qu * Qb := by grind
          have e2 : Pb * Qw * Qu = Pb * Qu * Qw := by grind
          have e3 : Pu * Qb * Qw = Pu * Qw * Qb := by grind
          omega
    · rw [zbs, zif_f h]
      by_cases hw : w = -v + (i + 1)
      · rw [hw]; exact h
      · exact ih (by omega) w h1 (by omega)
/-- from the middle on nothing is better -/
theorem zbs_half {le : Int32} {s : zStk} {v : Nat} (hs : zWs s) (hv : v ≤ 49) (hv1 : 1 ≤ v) : ∀ j : Nat, j ≤ v → zbs le s v (v + j) = zbs le s v v := by
  intro j
  induction j with
  | zero => intro _; rfl
  | succ j ih =>
    intro hj
    have hn := zbs_n (le := le) hs hv hv1 (v + j) (by omega) (-(-(v : Int) + ((v + j : Nat) + 1))) (by omega) (by omega)
    have e : zbt le s v (-(-(v : Int) + ((v + j : Nat) + 1))) (zbs le s v (v + j)) = zbt le s v (-(v : Int) + ((v + j : Nat) + 1)) (zbs le s v (v + j)) := by
      unfold zbt zcm
      rw [zBk_neg, zBk_neg]
    rw [e] at hn
    show zif (zbt le s v (-(v : Int) + (((v + j : Nat) : Int) + 1)) (zbs le s v (v + j))) (-(v : Int) + (((v + j : Nat) : Int) + 1)) (zbs le s v (v + j)) = _
    rw [zif_f hn]; exact ih (by omega)
