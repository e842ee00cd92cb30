/-! the reference's table and what goes back -/
def zRs (M : zMem) (s n : Nat) (up lo wi : Nat → Nat) (au al gu gl : Nat) : Prop := M 5 s = nI n ∧ (∀ i : Nat, i < n → M 6 (6 * s + i) = nI (up i) ∧ M 7 (6 * s + i) = nI (lo i) ∧ M 8 (6 * s + i) = nI (wi i)) ∧ M 1 s = nI au ∧ M 2 s = nI al ∧ M 3 s = nI gu ∧ M 4 s = nI gl
theorem zn_ix6 (s k : Nat) : (6 : Int32) * nI s + nI k = nI (6 * s + k) := by
  rw [show (6 : Int32) = nI 6 from rfl, pk_mul, nI_add]
def zt5 (w : Nat → Int) : Int × Int × Int × Int × Int := (w 0, w 1, w 2, w 3, w 4)
theorem zr_table_33 {M0 : zMem} {s n : Nat} {u : Int} {v : Nat} {a2 a3 : Int32} {up lo wi : Nat → Nat} {au al gu gl : Nat} {K : zMem → Prop} (hs : s < 2) (hu : u.natAbs ≤ v) (hv : v ≤ 49) (hv1 : 1 ≤ v) (h2 : a2.toInt = u) (h3 : a3.toInt = v) (hR : zRs M0 s n up lo wi au al gu gl) (hO : zOk up lo wi n) {w0 : Nat → Int} (hK : ∀ (T : zMem) (w : Nat → Int), zG M0 T w → zt5 w = zTb u v up lo wi n → zkp w0 w → K T) : ∀ (d i : Nat) (M1 : zMem) (w : Nat → Int), i + d = n → zG M0 M1 w → zt5 w = zTb u v up lo wi i → zkp w0 w → zw_X6_table_33 (nI s) a2 a3 K (d + 1) (nI i) M1 := by
  obtain ⟨r5, ri, -⟩ := hR
  have hn6 := hO.1
  intro d
  induction d with
  | zero =>
    intro i M1 w hi hG hw hk0
    have e : i = n := by omega
    subst e
    refine And.intro (vp_in_nI hs (by decide)) ?_
    rw [nI_clamp (by omega), hG.1 5 (by decide) (by decide) (by decide), r5]
    exact And.intro (fun _ => hK M1 w hG hw hk0) (fun q => absurd (nI_le (Nat.le_refl _) (by omega)) q)
  | succ d ih =>
    intro i M1 w hi hG hw hk0
    obtain ⟨a1, a2', a3'⟩ := ri i (by omega)
    obtain ⟨b1, b2, b3, b4, b5, b6⟩ := hO.2 i (by omega)
    refine And.intro (vp_in_nI hs (by decide)) ?_
    rw [nI_clamp (by omega), hG.1 5 (by decide) (by decide) (by decide), r5]
    refine And.intro (fun q => absurd q (nI_ge (by omega) (by omega))) (fun _ => ?_)
    rw [zn_ix6]
    refine And.intro (vp_in_nI (by omega) (by decide)) (And.intro (vp_in_nI (by omega) (by decide)) (And.intro (vp_in_nI (by omega) (by decide)) ?_))
    rw [nI_clamp (by omega), hG.1 6 (by decide) (by decide) (by decide), hG.1 7 (by decide) (by decide) (by decide), hG.1 8 (by decide) (by decide) (by decide), a1, a2', a3']
    obtain ⟨⟨c1, c2, c3, c4⟩, c5, c6⟩ := zTb_b hu hv hv1 hO i (by omega)
    rw [← hw] at c1 c2 c3 c4 c6
    have p1 : (2 : Nat) ^ (35 * i) ≤ 2 ^ 210 := Nat.pow_le_pow_right (by decide) (by omega)
    have p2 : (2 : Nat) ^ (29 * i) ≤ 2 ^ 210 := Nat.pow_le_pow_right (by decide) (by omega)
    have p3 : (2 : Nat) ^ 210 < 2 ^ 211 := by decide
    have q : ∀ X : Nat, X * v ≤ 2 ^ (35 * i) → X < 2 ^ 211 := fun X hX => by
      have := Nat.mul_le_mul_left X hv1
      omega
    refine zg_layerOn hG hu hv hv1 b2 b4 b6 h2 h3 (show (w 0).natAbs < 2 ^ 211 from Nat.lt_of_le_of_lt c1 (by omega)) (q _ c2) (q _ c3) (show (w 3).natAbs < 2 ^ 211 from Nat.lt_of_le_of_lt c4 (by omega)) (show (w 4).natAbs < 2 ^ 211 from Nat.lt_of_le_of_lt c6 (by omega)) (fun T w' hG' hw' hk' => ?_)
    intro x ex
    rw [ex, nI_1]
    refine ih (i + 1) T w' (by omega) hG' ?_ (zkp_trans hk0 hk')
    show zt5 w' = zLy u v (up i) (lo i) (wi i) (zTb u v up lo wi i)
    rw [← hw]; exact hw'
theorem zg_table {M0 M : zMem} {w : Nat → Int} {s n : Nat} {u : Int} {v : Nat} {a2 a3 : Int32} {up lo wi : Nat → Nat} {au al gu gl : Nat} {post : zMem → Prop} (hG : zG M0 M w) (hs : s < 2) (hu : u.natAbs ≤ v) (hv : v ≤ 49) (hv1 : 1 ≤ v) (h2 : a2.toInt = u) (h3 : a3.toInt = v) (hR : zRs M0 s n up lo wi au al gu gl) (hO : zOk up lo wi n) (K : ∀ (T : zMem) (w' : Nat → Int), zG M0 T w' → zt5 w' = zTb u v up lo wi n → w' 5 = (if n = 0 then 1 else (zTb u v up lo wi n).2.2.2.2 / v) → zkp w w' → post T) : zw_X6_table M (nI s) a2 a3 post := by
  refine zg_set 0 1 hG (by decide) (by decide) (by decide) (by decide) (fun T1 G1 => ?_)
  refine zg_set 3 1 G1 (by decide) (by decide) (by decide) (by decide) (fun T2 G2 => ?_)
  refine zg_set 1 0 G2 (by decide) (by decide) (by decide) (by decide) (fun T3 G3 => ?_)
  refine zg_set 2 0 G3 (by decide) (by decide) (by decide) (by decide) (fun T4 G4 => ?_)
  refine zg_set 4 1 G4 (by decide) (by decide) (by decide) (by decide) (fun T5 G5 => ?_)
  refine ⟨_, zr_table_33 (w0 := w) hs hu hv hv1 h2 h3 hR hO ?_ n 0 T5 _ (by omega) G5 rfl (fun d hd => by repeat rw [zj_out (by omega)])⟩
  clear hG
  intro T w1 hG hw hk1
  refine zg_copy 5 4 hG (by decide) (by decide) (fun T6 G6 => ?_)
  refine And.intro (vp_in_nI hs (by decide)) ?_
  have hn6 := hO.1
  rw [nI_clamp (by omega), G6.1 5 (by decide) (by decide) (by decide), hR.1]
  have hW : (zTb u v up lo wi n).2.2.2.2 = w1 4 := by rw [← hw]; rfl
  refine And.intro (fun q => ?_) (fun q => ?_)
  · have hn : n = 0 := by
      have := zn_le.mp q
      rw [nI_toInt (by omega), zn_0] at this
      omega
    refine K T6 _ G6 hw ?_ (fun d hd => by rw [zj_out (by omega)]; exact hk1 d hd)
    rw [if_pos hn]
    show w1 4 = 1
    rw [← hW, hn]; rfl
  · have hn : n ≠ 0 := fun z => q (by rw [z]; decide)
    refine zg_set 32 v G6 (by decide) (zn_wide h3) (by omega) (by omega) (fun T7 G7 => ?_)
    obtain ⟨-, -, -, -, b4, b5⟩ := zTB_6 hu hv hv1 hO
    obtain ⟨W, eW⟩ : ∃ W : Nat, w1 4 = W := ⟨(w1 4).toNat, by rw [← hW]; omega⟩
    refine zg_divide 5 32 (X := W) (Y := v) G7 (by decide) (by decide) (by decide) (by decide) (by decide) (by decide) eW rfl (by omega) (Nat.lt_of_le_of_lt hv (Nat.lt_of_lt_of_le (show 49 < 2 ^ 6 by decide) (Nat.pow_le_pow_right (by decide) (by decide)))) (fun T8 w8 G8 e8 k8 => ?_)
    refine K T8 w8 G8 ?_ ?_ (fun d hd => by rw [k8 d (by omega) (by omega) (by omega), zj_out (by omega), zj_out (by omega)]; exact hk1 d hd)
    · unfold zt5
      rw [k8 0 (by decide) (by decide) (by decide), k8 1 (by decide) (by decide) (by decide), k8 2 (by decide) (by decide) (by decide), k8 3 (by decide) (by decide) (by decide), k8 4 (by decide) (by decide) (by decide)]
      exact hw
    · rw [e8, if_neg hn, hW, eW]; exact Int.natCast_ediv W v
set_option maxHeartbeats 4000000 in
/-- one of P and Q -/
theorem zg_backStep {M0 M : zMem} {w : Nat → Int} {s to : Nat} {way : Nat} {u : Int} {v : Nat} {c4 : Int64} {au al gu gl : Nat} {K : zMem → Prop} {f : Nat} (hG : zG M0 M w) (hs : s < 2) (hway : way < 2) (hto : to = (if way = 0 then 14 else 15)) (hu : u.natAbs ≤ v) (hv : v ≤ 49) (h4 : c4.toInt = (v : Int) * v - u * u) (r1 : M0 1 s = nI au) (r2 : M0 2 s = nI al) (r3 : M0 3 s = nI gu) (r4 : M0 4 s = nI gl) (hE : zEd au al gu gl) (b0 : (w 0).natAbs < 2 ^ 211) (b1 : (w 1).natAbs < 2 ^ 211) (b2 : (w 2).natAbs < 2 ^ 211) (b3 : (w 3).natAbs < 2 ^ 211) (k : ∀ (M' : zMem) (w' : Nat → Int), zG M0 M' w' → w' to = zPQ (if way = 0 then -1 else 1) u v au al gu gl (zt5 w) → (∀ d : Nat, d < 10 ∨ d = 29 - to ∨ (16 ≤ d ∧ d < 33) → w' d = w d) → zw_X6_backOf_23 (nI s) c4 K f (nI (way + 1)) M') : zw_X6_backOf_23 (nI s) c4 K (f + 1) (nI way) M := by
  obtain ⟨⟨e1, e2⟩, ⟨e3, e4⟩, ⟨e5, e6⟩, ⟨e7, e8⟩⟩ := hE
  have hz := (zn_z hu).2
  have hv2 : v * v ≤ 49 * 49 := Nat.mul_le_mul hv hv
  have cz : ((v : Int) * v - u * u).natAbs < 2 ^ 12 := by omega
  have cs : (nI s).toNatClampNeg = s := nI_clamp (by omega)
  have hsv : ∀ {N : Nat}, N = 2 → vp_in (nI s) N := fun {N} h => by subst h; exact vp_in_nI hs (by decide)
  have m2 : ∀ {a b : Nat}, a ≤ 9 → b ≤ 9 → (Int32.toInt64 (nI a * nI b)).toInt = (a : Int) * b ∧ ((a : Int) * b).natAbs ≤ 81 := fun {a b} ha hb => by
    have h := zn_mab (a := (a : Int)) (b := (b : Int)) (A := 9) (B := 9) (by omega) (by omega)
    exact ⟨zn_wide (zn_mul (nI_toInt (by omega)) (nI_toInt (by omega)) (by omega) (by omega)), by omega⟩
  have lt81 : ∀ {x : Int}, x.natAbs ≤ 81 → x.natAbs < 2 ^ 7 := fun {x} h => by omega
  have rr : ∀ {T : zMem} {w : Nat → Int}, zG M0 T w → T 1 s = nI au ∧ T 2 s = nI al ∧ T 3 s = nI gu ∧ T 4 s = nI gl := fun {T w} h => by
    rw [h.1 1 (by decide) (by decide) (by decide), h.1 2 (by decide) (by decide) (by decide), h.1 3 (by decide) (by decide) (by decide), h.1 4 (by decide) (by decide) (by decide)]
    exact ⟨r1, r2, r3, r4⟩
  refine And.intro (fun q => absurd q (nI_ge (b := 2) hway (by decide))) (fun _ => ?_)
  refine ⟨fun x => x = nI to, ?_, ?_⟩
  · rintro x rfl
    refine zg_copy 10 0 hG (by decide) (by decide) (fun T7 G7 => ?_)
    refine And.intro (hsv rfl) (And.intro (hsv rfl) ?_)
    rw [cs, (rr G7).1, (rr G7).2.2.2]
    refine zg_by 10 ((au : Int) * gl) (e := 211) G7 (by decide) (m2 e2 e8).1 (by have := (m2 e2 e8).2; omega) (by have := (m2 e2 e8).2; omega) b0 (by decide) (fun T10 G10 => ?_)
    refine zg_copy 33 3 G10 (by decide) (by decide) (fun T11 G11 => ?_)
    refine And.intro (hsv rfl) (And.intro (hsv rfl) ?_)
    rw [(rr G11).2.2.1, (rr G11).2.1]
    refine zg_by 33 ((gu : Int) * al) (e := 211) G11 (by decide) (m2 e6 e4).1 (by have := (m2 e6 e4).2; omega) (by have := (m2 e6 e4).2; omega) b3 (by decide) (fun T14 G14 => ?_)
    have B1 : (w 0 * ((au : Int) * gl)).natAbs < 2 ^ 218 := zn_mlt b0 (lt81 (m2 e2 e8).2)
    have B2 : (w 3 * ((gu : Int) * al)).natAbs < 2 ^ 218 := zn_mlt b3 (lt81 (m2 e6 e4).2)
    refine ⟨fun T => ∃ w' : Nat → Int, zG M0 T w' ∧ w' 10 = w 0 * ((au : Int) * gl) + w 3 * ((if way = 0 then -1 else 1) * gu * al) ∧ (w' 10).natAbs < 2 ^ 219 ∧ (∀ d : Nat, d < 10 ∨ (14 ≤ d ∧ d < 33) → w' d = w d), ?_, ?_⟩
    · rintro T16 ⟨w16, G16, x16, y16, k16⟩
      refine zg_copy 11 1 G16 (by decide) (by decide) (fun T18 G18 => ?_)
      refine And.intro (hsv rfl) (And.intro (hsv rfl) ?_)
      rw [(rr G18).1, (rr G18).2.2.1]
      have b1' : (w16 1).natAbs < 2 ^ 211 := by rw [k16 1 (by decide)]; exact b1
      have b2' : (w16 2).natAbs < 2 ^ 211 := by rw [k16 2 (by decide)]; exact b2
      refine zg_by 11 ((au : Int) * gu) (e := 211) G18 (by decide) (m2 e2 e6).1 (by have := (m2 e2 e6).2; omega) (by have := (m2 e2 e6).2; omega) b1' (by decide) (fun T21 G21 => ?_)
      refine zg_copy 33 2 G21 (by decide) (by decide) (fun T22 G22 => ?_)
      refine And.intro (hsv rfl) (And.intro (hsv rfl) ?_)
      rw [(rr G22).2.1, (rr G22).2.2.2]
      refine zg_by 33 ((al : Int) * gl) (e := 211) G22 (by decide) (m2 e4 e8).1 (by have := (m2 e4 e8).2; omega) (by have := (m2 e4 e8).2; omega) b2' (by decide) (fun T25 G25 => ?_)
      have B3 : (w16 1 * ((au : Int) * gu)).natAbs < 2 ^ 218 := zn_mlt b1' (lt81 (m2 e2 e6).2)
      have B4 : (w16 2 * ((al : Int) * gl)).natAbs < 2 ^ 218 := zn_mlt b2' (lt81 (m2 e4 e8).2)
      refine ⟨fun T => ∃ w' : Nat → Int, zG M0 T w' ∧ w' 10 = w 0 * ((au : Int) * gl) + w 3 * ((if way = 0 then -1 else 1) * gu * al) ∧ (w' 10).natAbs < 2 ^ 219 ∧ w' 11 = w 1 * ((au : Int) * gu) + w 2 * ((if way = 0 then -1 else 1) * al * gl) ∧ (w' 11).natAbs < 2 ^ 219 ∧ (∀ d : Nat, d < 10 ∨ (14 ≤ d ∧ d < 33) → w' d = w d), ?_, ?_⟩
      · rintro T27 ⟨w27, G27, x27, y27, x27', y27', k27⟩
        refine zg_times 12 10 10 (e := 219) (f := 219) G27 (by decide) (by decide) (by decide) (by decide) (by decide) y27 y27 (by decide) (fun T29 G29 => ?_)
        refine zg_times 13 11 11 (e := 219) (f := 219) G29 (by decide) (by decide) (by decide) (by decide) (by decide) y27' y27' (by decide) (fun T30 G30 => ?_)
        refine zg_by 13 ((v : Int) * v - u * u) (e := 438) G30 (by decide) h4 (by omega) (by omega) (zn_mlt y27' y27') (by decide) (fun T31 G31 => ?_)
        have ht : to < 60 := by rw [hto]; split <;> decide
        refine zg_plus to 12 13 (e := 438) (f := 450) G31 ht (by decide) (by decide) (zn_mlt y27 y27) (zn_mlt (zn_mlt y27' y27') cz) (by decide) (by decide) (fun T32 G32 => ?_)
        intro x6 e6'
        rw [e6', nI_1]
        refine k T32 _ G32 ?_ (fun d hd => ?_)
        · rw [zj_in]
          show w27 10 * w27 10 + w27 11 * w27 11 * ((v : Int) * v - u * u) = _
          rw [x27, x27']
          rfl
        · have hto' : to = 14 ∨ to = 15 := by rw [hto]; split <;> simp
          rw [zj_out (by omega), zj_out (by omega), zj_out (by omega), zj_out (by omega), zj_out (by omega), zj_out (by omega)]
          exact k27 d (by omega)
      · refine And.intro (fun q => ?_) (fun q => ?_)
        · have hw1 : ¬ way = 0 := fun z => q (by rw [z]; rfl)
          refine zg_plus 11 11 33 (e := 218) (f := 218) G25 (by decide) (by decide) (by decide) B3 B4 (by decide) (by decide) (fun T34 G34 => ?_)
          refine ⟨_, G34, x16, y16, ?_, ?_, fun d hd => ?_⟩
          · show w16 1 * ((au : Int) * gu) + w16 2 * ((al : Int) * gl) = _
            rw [k16 1 (by decide), k16 2 (by decide), if_neg hw1, Int.one_mul]
          · exact zn_alt B3 B4
          · rw [zj_out (by omega), zj_out (by omega), zj_out (by omega), zj_out (by omega), zj_out (by omega), zj_out (by omega), zj_out (by omega), zj_out (by omega), zj_out (by omega)]
            exact k16 d (by omega)
        · have hw1 : way = 0 := by
            have := congrArg Int32.toInt q
            rw [nI_toInt (by omega), zn_0] at this
            omega
          refine zg_minus 11 11 33 (e := 218) (f := 218) G25 (by decide) (by decide) (by decide) B3 B4 (by decide) (by decide) (fun T34 G34 => ?_)
          refine ⟨_, G34, x16, y16, ?_, ?_, fun d hd => ?_⟩
          · show w16 1 * ((au : Int) * gu) - w16 2 * ((al : Int) * gl) = _
            rw [k16 1 (by decide), k16 2 (by decide), if_pos hw1]; grind
          · exact zn_slt B3 B4
          · rw [zj_out (by omega), zj_out (by omega), zj_out (by omega), zj_out (by omega), zj_out (by omega), zj_out (by omega), zj_out (by omega), zj_out (by omega), zj_out (by omega)]
            exact k16 d (by omega)
    · refine And.intro (fun q => ?_) (fun q => ?_)
      · have hw1 : ¬ way = 0 := fun z => q (by rw [z]; rfl)
        refine zg_plus 10 10 33 (e := 218) (f := 218) G14 (by decide) (by decide) (by decide) B1 B2 (by decide) (by decide) (fun T34 G34 => ?_)
        refine ⟨_, G34, ?_, ?_, fun d hd => ?_⟩
        · show w 0 * ((au : Int) * gl) + w 3 * ((gu : Int) * al) = _
          rw [if_neg hw1, Int.one_mul]
        · exact zn_alt B1 B2
        · rw [zj_out (by omega), zj_out (by omega), zj_out (by omega), zj_out (by omega), zj_out (by omega), zj_out (by omega), zj_out (by omega), zj_out (by omega), zj_out (by omega)]
      · have hw1 : way = 0 := by
          have := congrArg Int32.toInt q
          rw [nI_toInt (by omega), zn_0] at this
          omega
        refine zg_minus 10 10 33 (e := 218) (f := 218) G14 (by decide) (by decide) (by decide) B1 B2 (by decide) (by decide) (fun T34 G34 => ?_)
        refine ⟨_, G34, ?_, ?_, fun d hd => ?_⟩
        · show w 0 * ((au : Int) * gl) - w 3 * ((gu : Int) * al) = _
          rw [if_pos hw1]; grind
        · exact zn_slt B1 B2
        · rw [zj_out (by omega), zj_out (by omega), zj_out (by omega), zj_out (by omega), zj_out (by omega), zj_out (by omega), zj_out (by omega), zj_out (by omega), zj_out (by omega)]
  · refine And.intro (fun q => ?_) (fun q => ?_)
    · have hw1 : ¬ way = 0 := fun z => q (by rw [z]; rfl)
      rw [hto, if_neg hw1]; rfl
    · have hw1 : way = 0 := by
        have := congrArg Int32.toInt q
        rw [nI_toInt (by omega), zn_0] at this
        omega
      rw [hto, if_pos hw1]; rfl
theorem zg_backOf {M0 M : zMem} {w : Nat → Int} {s n : Nat} {u : Int} {v : Nat} {a2 a3 : Int32} {up lo wi : Nat → Nat} {au al gu gl : Nat} {post : zMem → Prop} (hG : zG M0 M w) (hs : s < 2) (hu : u.natAbs ≤ v) (hv : v ≤ 49) (hv1 : 1 ≤ v) (h2 : a2.toInt = u) (h3 : a3.toInt = v) (hR : zRs M0 s n up lo wi au al gu gl) (hO : zOk up lo wi n) (hE : zEd au al gu gl) (K : ∀ (T : zMem) (w' : Nat → Int), zG M0 T w' → w' 14 = zPQ (-1) u v au al gu gl (zTb u v up lo wi n) → w' 15 = zPQ 1 u v au al gu gl (zTb u v up lo wi n) → zkp w w' → post T) : zw_X6_backOf M (nI s) a2 a3 post := by
  refine zg_table hG hs hu hv hv1 h2 h3 hR hO (fun T1 w1 G1 t1 _ kk1 => ?_)
  intro x4 e4
  have h2L := zn_wide h2
  have h3L := zn_wide h3
  have hx4 : x4.toInt = (v : Int) * v - u * u := by
    have mv : ((v : Int) * v).natAbs ≤ 2401 := zn_mab (A := 49) (B := 49) (by omega) (by omega)
    have mu : (u * u).natAbs ≤ 2401 := zn_mab (A := 49) (B := 49) (by omega) (by omega)
    rw [e4]; exact zn_subL (zn_mulL h3L h3L (by omega) (by omega)) (zn_mulL h2L h2L (by omega) (by omega)) (by omega) (by omega)
  obtain ⟨-, -, r1, r2, r3, r4⟩ := hR
  obtain ⟨b0, b1, b2, b3, b4, b5⟩ := zTB_6 hu hv hv1 hO
  rw [← t1] at b0 b1 b2 b3
  have p3 : (2 : Nat) ^ 210 < 2 ^ 211 := by decide
  have c0 : (w1 0).natAbs < 2 ^ 211 := Nat.lt_of_le_of_lt b0 p3
  have c1 : (w1 1).natAbs < 2 ^ 211 := Nat.lt_of_le_of_lt b1 p3
  have c2 : (w1 2).natAbs < 2 ^ 211 := Nat.lt_of_le_of_lt b2 p3
  have c3 : (w1 3).natAbs < 2 ^ 211 := Nat.lt_of_le_of_lt b3 p3
  refine ⟨3, ?_⟩
  refine zg_backStep (way := 0) (to := 14) G1 hs (by decide) rfl hu hv hx4 r1 r2 r3 r4 hE c0 c1 c2 c3 (fun T2 w2 G2 p2 k2 => ?_)
  have t2 : zt5 w2 = zt5 w1 := by
    unfold zt5
    rw [k2 0 (by decide), k2 1 (by decide), k2 2 (by decide), k2 3 (by decide), k2 4 (by decide)]
  refine zg_backStep (way := 1) (to := 15) G2 hs (by decide) rfl hu hv hx4 r1 r2 r3 r4 hE (by rw [k2 0 (by decide)]; exact c0) (by rw [k2 1 (by decide)]; exact c1) (by rw [k2 2 (by decide)]; exact c2) (by rw [k2 3 (by decide)]; exact c3) (fun T3 w3 G3 p3 k3 => ?_)
  rw [t1] at p2
  rw [t2, t1] at p3
  refine And.intro (fun _ => K T3 w3 G3 ?_ p3 (fun d hd => by rw [k3 d (by omega), k2 d (by omega)]; exact kk1 d hd)) (fun q => absurd (by decide) q)
  rw [k3 14 (by decide)]; exact p2
