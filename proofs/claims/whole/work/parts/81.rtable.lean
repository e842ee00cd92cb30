/-! the class's table -/
theorem zTk_rec (u v : Int) (k : Nat) : zTk u v (k + 2) = 2 * u * zTk u v (k + 1) - v * v * zTk u v k := rfl
theorem zWk_rec (u v : Int) (k : Nat) : zWk u v (k + 2) = 2 * u * zWk u v (k + 1) - v * v * zWk u v k := rfl
theorem zTk_1 (u v : Int) : zTk u v 1 = u := rfl
theorem zWk_1 (u v : Int) : zWk u v 1 = 1 := rfl
/-- the numbers of a layer fit -/
theorem zn_fit {u : Int} {v k : Nat} (hu : u.natAbs ≤ v) (hv : v ≤ 49) (hv1 : 1 ≤ v) (hk : k ≤ 4) : (zTk u v k).natAbs ≤ 5764801 ∧ (zWk u v k).natAbs ≤ 23059204 ∧ v ^ k ≤ 5764801 := by
  have h1 := zn_vk hv hk
  have h2 := zTk_le hu k
  have h3 := zWk_le hu k
  have h4 : (zWk u v k).natAbs * 1 ≤ (zWk u v k).natAbs * v := Nat.mul_le_mul_left _ hv1
  have h5 : k * v ^ k ≤ 4 * 5764801 := Nat.mul_le_mul hk h1
  omega
theorem zn_mab {a b : Int} {A B : Nat} (ha : a.natAbs ≤ A) (hb : b.natAbs ≤ B) : (a * b).natAbs ≤ A * B := by
  rw [Int.natAbs_mul]; exact Nat.mul_le_mul ha hb
theorem zn_mulA {x y : Int64} {a b : Int} {A B : Nat} (hx : x.toInt = a) (hy : y.toInt = b) (ha : a.natAbs ≤ A) (hb : b.natAbs ≤ B) (h : A * B < 9223372036854775808) : (x * y).toInt = a * b := by
  have := zn_mab ha hb
  exact zn_mulL hx hy (by omega) (by omega)
def zTs (T : zMem) (u : Int) (v : Nat) (t : Int × Int × Int × Int × Int) : Prop := (T 8 0).toInt = u ∧ (T 9 0).toInt = v ∧ (T 10 0).toInt = (v : Int) * v - u * u ∧ zL 8 (T 0) t.1 ∧ zL 8 (T 1) t.2.1 ∧ zL 8 (T 2) t.2.2.1 ∧ zL 8 (T 3) t.2.2.2.1 ∧ zL 8 (T 4) t.2.2.2.2
theorem zr_pass_ab {T : zMem} {st ts tl : Int64} {A B S s1 s2 z : Int} {post : zMem → Prop} (h0 : zL 8 (T 0) A) (h1 : zL 8 (T 1) B) (hz : (T 10 0).toInt = z) (hst : st.toInt = S) (hts : ts.toInt = s1) (htl : tl.toInt = s2) (bS : S.natAbs ≤ 2147483647) (b1 : s1.natAbs ≤ 2147483647) (b2 : s2.natAbs ≤ 2147483647) (bz : z.natAbs ≤ 2147483647) (k : ∀ r8 r7 r5 r4 : zRow, zL 8 r8 (A * S - B * s2 * z) → zL 8 r7 (A * s1 + B * S) → post (zset (zset (zset (zset T 0 r8) 1 r7) 5 r5) 6 r4)) : zw_X4_passPair_ab T st ts tl post := by
  refine zr_put (by decide) (by decide) h0 (Or.inl (by decide)) (fun r1 g1 => ?_)
  refine zr_scale (by decide) g1 hst (by omega) (by omega) (fun r2 g2 => ?_)
  refine zr_put (by decide) (by decide) h1 (Or.inl (by decide)) (fun r3 g3 => ?_)
  refine zr_scale (by decide) g3 htl (by omega) (by omega) (fun r4 g4 => ?_)
  refine zr_gain (by decide) g2 g4 (F := -z) (zn_wide (zn_neg hz (by omega))) (by omega) (by omega) (fun r5 g5 => ?_)
  refine zr_scale (by decide) h1 hst (by omega) (by omega) (fun r6 g6 => ?_)
  refine zr_gain (by decide) g6 h0 hts (by omega) (by omega) (fun r7 g7 => ?_)
  refine zr_put (by decide) (by decide) g5 (Or.inl (by decide)) (fun r8 g8 => ?_)
  rw [Int.mul_neg, ← Int.sub_eq_add_neg] at g8
  rw [Int.add_comm] at g7
  exact k r8 r7 r5 r4 g8 g7
theorem zr_pass_dg {T : zMem} {st ts tl : Int64} {A B S s1 s2 z : Int} {post : zMem → Prop} (h0 : zL 8 (T 3) A) (h1 : zL 8 (T 2) B) (hz : (T 10 0).toInt = z) (hst : st.toInt = S) (hts : ts.toInt = s1) (htl : tl.toInt = s2) (bS : S.natAbs ≤ 2147483647) (b1 : s1.natAbs ≤ 2147483647) (b2 : s2.natAbs ≤ 2147483647) (bz : z.natAbs ≤ 2147483647) (k : ∀ r8 r7 r5 r4 : zRow, zL 8 r8 (A * S - B * s2 * z) → zL 8 r7 (B * S + A * s1) → post (zset (zset (zset (zset T 2 r7) 3 r8) 5 r5) 6 r4)) : zw_X4_passPair_dg T st ts tl post := by
  refine zr_put (by decide) (by decide) h0 (Or.inl (by decide)) (fun r1 g1 => ?_)
  refine zr_scale (by decide) g1 hst (by omega) (by omega) (fun r2 g2 => ?_)
  refine zr_put (by decide) (by decide) h1 (Or.inl (by decide)) (fun r3 g3 => ?_)
  refine zr_scale (by decide) g3 htl (by omega) (by omega) (fun r4 g4 => ?_)
  refine zr_gain (by decide) g2 g4 (F := -z) (zn_wide (zn_neg hz (by omega))) (by omega) (by omega) (fun r5 g5 => ?_)
  refine zr_scale (by decide) h1 hst (by omega) (by omega) (fun r6 g6 => ?_)
  refine zr_gain (by decide) g6 h0 hts (by omega) (by omega) (fun r7 g7 => ?_)
  refine zr_put (by decide) (by decide) g5 (Or.inl (by decide)) (fun r8 g8 => ?_)
  rw [Int.mul_neg, ← Int.sub_eq_add_neg] at g8
  exact k r8 r7 r5 r4 g8 g7
theorem zr_append_39 {T : zMem} {u : Int} {v w : Nat} {c1 c2 : Int32} {c4 : Int64} {K : Int64 → Int64 → Int64 → Prop} (hu : u.natAbs ≤ v) (hv : v ≤ 49) (hv1 : 1 ≤ v) (hw : w ≤ 4) (h8 : (T 8 0).toInt = u) (h9 : (T 9 0).toInt = v) (h4 : c4.toInt = (v : Int) * v) (hK : ∀ x y p : Int64, x.toInt = zTk u v w → y.toInt = zWk u v w → p.toInt = (v : Int) ^ w → K x y p) : ∀ (d i : Nat) (p6 p8 p10 p12 p14 : Int64), i + 1 + d = w → p6.toInt = zTk u v (i + 1) → p8.toInt = zTk u v i → p10.toInt = zWk u v (i + 1) → p12.toInt = zWk u v i → p14.toInt = (v : Int) ^ (i + 1) → zw_X4_appendLayer_39 T c1 c2 (nI w) c4 K (d + 1) p6 p8 p10 p12 p14 (nI (i + 1)) := by
  have b2 : ((2 : Int32) * (T 8 0)).toInt = 2 * u := zn_mul (by decide) h8 (by omega) (by omega)
  have bv : ((v : Int) * v).natAbs ≤ 2401 := zn_mab (A := 49) (B := 49) (by omega) (by omega)
  intro d
  induction d with
  | zero =>
    intro i p6 p8 p10 p12 p14 hi h6 h8' h10 h12 h14
    rw [hi] at h6 h10 h14
    exact And.intro (fun _ => hK p6 p10 p14 h6 h10 h14) (fun q => absurd (nI_le (by omega) (by omega)) q)
  | succ d ih =>
    intro i p6 p8 p10 p12 p14 hi h6 h8' h10 h12 h14
    obtain ⟨f1, f2, f3⟩ := zn_fit hu hv hv1 (show i + 1 ≤ 4 by omega)
    obtain ⟨g1, g2, g3⟩ := zn_fit hu hv hv1 (show i ≤ 4 by omega)
    have hp : ((v : Int) ^ (i + 1)).natAbs ≤ 5764801 := by rw [Int.natAbs_pow, Int.natAbs_natCast]; exact f3
    refine And.intro (fun q => absurd q (nI_ge (by omega) (by omega))) (fun _ => ?_)
    intro x17 e17 x19 e19 x14 e14 x16 e16
    have c2 : (2 * u).natAbs ≤ 98 := by omega
    have m1 := zn_mulA (zn_wide b2) h6 c2 f1 (by decide)
    have m2 := zn_mulA h4 h8' bv g1 (by decide)
    have m3 := zn_mulA (zn_wide b2) h10 c2 f2 (by decide)
    have m4 := zn_mulA h4 h12 bv g2 (by decide)
    have n1 := zn_mab c2 f1
    have n2 := zn_mab bv g1
    have n3 := zn_mab c2 f2
    have n4 := zn_mab bv g2
    rw [e16, nI_1]
    refine ih (i + 1) x17 p6 x19 p10 x14 (by omega) ?_ h6 ?_ h10 ?_
    · rw [e17, zTk_rec]; exact zn_subL m1 m2 (by omega) (by omega)
    · rw [e19, zWk_rec]; exact zn_subL m3 m4 (by omega) (by omega)
    · rw [e14, Int.pow_succ]; exact zn_mulA h14 (zn_wide h9) hp (show ((v : Int)).natAbs ≤ 49 by omega) (by decide)
theorem zr_append {T : zMem} {u : Int} {v n m w : Nat} {t : Int × Int × Int × Int × Int} {post : zMem → Prop} (hu : u.natAbs ≤ v) (hv : v ≤ 49) (hv1 : 1 ≤ v) (hn : n ≤ 9) (hm : m ≤ 9) (hw1 : 1 ≤ w) (hw : w ≤ 4) (h : zTs T u v t) (k : ∀ T' : zMem, zTs T' u v (zLy u v n m w t) → post T') : zw_X4_appendLayer T (nI n) (nI m) (nI w) post := by
  obtain ⟨h8, h9, h10, g0, g1, g2, g3, g4⟩ := h
  obtain ⟨f1, f2, f3⟩ := zn_fit hu hv hv1 hw
  have hz := (zn_z hu).2
  have hv2 : v * v ≤ 49 * 49 := Nat.mul_le_mul hv hv
  intro x4 e4 x6 e6 x14 e14
  obtain ⟨w', rfl⟩ : ∃ w', w = w' + 1 := ⟨w - 1, by omega⟩
  have hx4 : x4.toInt = (v : Int) * v := by rw [e4]; exact zn_mulA (A := 49) (B := 49) (zn_wide h9) (zn_wide h9) (by omega) (by omega) (by decide)
  refine ⟨_, zr_append_39 (w := w' + 1) hu hv hv1 hw h8 h9 hx4 ?_ w' 0 x6 1 1 0 x14 (by omega) (by rw [e6, zn_wide h8]; rfl) zn_1L zn_1L zn_0L (by rw [e14, zn_wide h9, Int.pow_succ, Int.pow_zero, Int.one_mul])⟩
  intro x y p hx hy hp x16 e16
  have hnm : n * m ≤ 9 * 9 := Nat.mul_le_mul hn hm
  rw [pk_mul] at e16
  have e16' : (Int32.toInt64 x16).toInt = ((n * m : Nat) : Int) := by rw [e16]; exact zn_wide (nI_toInt (by omega))
  have hN : (Int32.toInt64 (nI n)).toInt = (n : Int) := zn_wide (nI_toInt (by omega))
  have hM : (Int32.toInt64 (nI m)).toInt = (m : Int) := zn_wide (nI_toInt (by omega))
  have bp : ((v : Int) ^ (w' + 1)).natAbs ≤ 5764801 := by rw [Int.natAbs_pow, Int.natAbs_natCast]; exact f3
  have bn : ((n : Int)).natAbs ≤ 9 := by omega
  have bm : ((m : Int)).natAbs ≤ 9 := by omega
  have bnm : ((n * m : Nat) : Int).natAbs ≤ 81 := by omega
  have st : (x * Int32.toInt64 x16).toInt = zTk u v (w' + 1) * n * m := by
    rw [zn_mulA hx e16' f1 bnm (by decide), Int.natCast_mul, Int.mul_assoc]
  have stb : (zTk u v (w' + 1) * n * m).natAbs ≤ 2147483647 := by
    rw [Int.mul_assoc, ← Int.natCast_mul]; have := zn_mab f1 bnm; omega
  have tm : ((y * Int32.toInt64 (nI m)) * Int32.toInt64 (nI m)).toInt = zWk u v (w' + 1) * m * m := zn_mulA (zn_mulA hy hM f2 bm (by decide)) hM (zn_mab f2 bm) bm (by decide)
  have tn : ((y * Int32.toInt64 (nI n)) * Int32.toInt64 (nI n)).toInt = zWk u v (w' + 1) * n * n := zn_mulA (zn_mulA hy hN f2 bn (by decide)) hN (zn_mab f2 bn) bn (by decide)
  have tmb : (zWk u v (w' + 1) * m * m).natAbs ≤ 2147483647 := by have := zn_mab (zn_mab f2 bm) bm; omega
  have tnb : (zWk u v (w' + 1) * n * n).natAbs ≤ 2147483647 := by have := zn_mab (zn_mab f2 bn) bn; omega
  have pw : (p * Int32.toInt64 x16).toInt = (v : Int) ^ (w' + 1) * n * m := by
    rw [zn_mulA hp e16' bp bnm (by decide), Int.natCast_mul, Int.mul_assoc]
  have pwb : ((v : Int) ^ (w' + 1) * n * m).natAbs ≤ 2147483647 := by
    rw [Int.mul_assoc, ← Int.natCast_mul]; have := zn_mab bp bnm; omega
  refine zr_pass_ab g0 g1 h10 st tm tn stb tmb tnb (by omega) (fun r8 r7 r5 r4 q8 q7 => ?_)
  refine zr_pass_dg (A := t.2.2.2.1) (B := t.2.2.1) (z := (v : Int) * v - u * u) ?_ ?_ ?_ st tn tm stb tnb tmb (by omega) (fun s8 s7 s5 s4 p8 p7 => ?_)
  · exact g3
  · exact g2
  · exact h10
  refine zr_scale (X := t.2.2.2.2) (by decide) ?_ pw (by omega) (by omega) (fun r15 q15 => ?_)
  · exact g4
  exact k _ ⟨h8, h9, h10, q8, q7, p7, p8, q15⟩
/-- a pile as numbers -/
def zPl (P : zMem) (n : Nat) (up lo wi : Nat → Nat) (au al gu gl : Nat) : Prop := P 5 0 = nI n ∧ (∀ i : Nat, i < n → P 2 i = nI (up i) ∧ P 3 i = nI (lo i) ∧ P 4 i = nI (wi i)) ∧ P 0 0 = nI au ∧ P 1 0 = nI al ∧ P 0 1 = nI gu ∧ P 1 1 = nI gl
def zEd (au al gu gl : Nat) : Prop := (1 ≤ au ∧ au ≤ 9) ∧ (1 ≤ al ∧ al ≤ 9) ∧ (1 ≤ gu ∧ gu ≤ 9) ∧ (1 ≤ gl ∧ gl ≤ 9)
theorem zr_reckon {T P : zMem} {u : Int} {uv : Int32} {v n : Nat} {up lo wi : Nat → Nat} {au al gu gl : Nat} {post : zMem → Prop} (hu : u.natAbs ≤ v) (hv : v ≤ 49) (hv1 : 1 ≤ v) (huv : uv.toInt = u) (hP : zPl P n up lo wi au al gu gl) (hO : zOk up lo wi n) (k : ∀ T' : zMem, zTs T' u v (zTb u v up lo wi n) → post T') : zw_X4_reckon T P uv (nI v) post := by
  obtain ⟨p5, pi, -⟩ := hP
  have hz := zn_z hu
  have hv2 : v * v ≤ 49 * 49 := Nat.mul_le_mul hv hv
  have bu : u.natAbs ≤ 49 := by omega
  have hvI : (nI v).toInt = (v : Int) := nI_toInt (by omega)
  have mv : ((v : Int) * v).natAbs ≤ 2401 := zn_mab (A := 49) (B := 49) (by omega) (by omega)
  have mu : (u * u).natAbs ≤ 2401 := zn_mab (A := 49) (B := 49) bu bu
  intro y ey
  have hy : y.toInt = (v : Int) * v - u * u := by
    rw [ey]; exact zn_sub (zn_mul hvI hvI (by omega) (by omega)) (zn_mul huv huv (by omega) (by omega)) (by omega) (by omega)
  refine zr_set (by decide) (by decide) (by decide) (fun r2 g2 => ?_)
  refine zr_set (by decide) (by decide) (by decide) (fun r3 g3 => ?_)
  refine zr_set (by decide) (by decide) (by decide) (fun r4 g4 => ?_)
  refine zr_set (by decide) (by decide) (by decide) (fun r5 g5 => ?_)
  refine zr_set (by decide) (by decide) (by decide) (fun r6 g6 => ?_)
  have L : ∀ (d i : Nat) (T1 : zMem), i + d = n → zTs T1 u v (zTb u v up lo wi i) → zw_X4_reckon_64 P (fun T' => post T') (d + 1) (nI i) T1 := by
    intro d
    induction d with
    | zero =>
      intro i T1 hi h
      have e : i = n := by omega
      subst e
      unfold zw_X4_reckon_64
      rw [p5]
      exact And.intro (fun _ => k T1 h) (fun q => absurd (nI_le (Nat.le_refl _) (by have := hO.1; omega)) q)
    | succ d ih =>
      intro i T1 hi h
      have hn6 := hO.1
      obtain ⟨a1, a2, a3⟩ := pi i (by omega)
      obtain ⟨b1, b2, b3, b4, b5, b6⟩ := hO.2 i (by omega)
      unfold zw_X4_reckon_64
      rw [p5]
      refine And.intro (fun q => absurd q (nI_ge (by omega) (by omega))) (fun _ => And.intro (fun q => absurd q (nI_ge (b := 6) (by omega) (by omega))) (fun _ => And.intro (vp_in_nI (by omega) (by decide)) (And.intro (vp_in_nI (by omega) (by decide)) (And.intro (vp_in_nI (by omega) (by decide)) ?_))))
      rw [nI_clamp (by omega), a1, a2, a3]
      refine zr_append hu hv hv1 b2 b4 b5 b6 h (fun T2 h2 => ?_)
      intro x ex
      rw [ex, nI_1]
      exact ih (i + 1) T2 (by omega) h2
  refine ⟨_, L n 0 _ (by omega) ⟨huv, hvI, hy, ?_, ?_, ?_, ?_, ?_⟩⟩
  · exact g2
  · exact g3
  · exact g4
  · exact g5
  · exact g6
theorem zn_239 {X : Int} {e : Nat} (h : X.natAbs ≤ 2 ^ e) (he : e ≤ 238) : zR 8 X := by
  have h1 : (2 : Nat) ^ e ≤ 2 ^ 238 := Nat.pow_le_pow_right (by decide) he
  have e1 : (536870912 : Int) * 2 ^ (30 * (8 - 1)) = ((2 ^ 239 : Nat) : Int) := by decide
  have h2 : (2 : Nat) ^ 238 < 2 ^ 239 := by decide
  refine zR_of (by decide) ?_ ?_
  · rw [e1]; omega
  · rw [e1]; omega
theorem zn_absI (X : Int) : (if X < 0 then -X else X) = ((X.natAbs : Nat) : Int) := by split <;> omega
theorem zr_square_ad {T : zMem} {r : zRow} {x y : Int32} {A D a b : Int} {e : Nat} {post : zMem → zRow → Prop} (h0 : zL 8 (T 0) A) (h3 : zL 8 (T 3) D) (hx : x.toInt = a) (hy : y.toInt = b) (hb : (A * a + D * b).natAbs ≤ 2 ^ e) (he : e ≤ 238) (k : ∀ r5 r4 r3 : zRow, zL 16 r5 ((A * a + D * b) * (A * a + D * b)) → post (zset (zset T 5 r4) 6 r3) r5) : zw_X4_squareLine_ad T r x y post := by
  have rx := zn_rng x
  have ry := zn_rng y
  refine zr_set (by decide) (by decide) (by decide) (fun r1 g1 => ?_)
  refine zr_gain (by decide) g1 h0 (zn_wide hx) (by omega) (by omega) (fun r2 g2 => ?_)
  refine zr_gain (by decide) g2 h3 (zn_wide hy) (by omega) (by omega) (fun r3 g3 => ?_)
  rw [zn_0, Int.zero_add] at g3
  refine zr_putSize (by decide) (by decide) g3 (zn_239 hb he) (fun r4 g4 => ?_)
  rw [zn_absI] at g4
  have hz : zD (((A * a + D * b).natAbs : Nat) : Int) 8 = 0 := zD_of (e := 240) (by omega) (by
    have h1 : (2 : Nat) ^ e ≤ 2 ^ 238 := Nat.pow_le_pow_right (by decide) he
    have h2 : (2 : Nat) ^ 238 < 2 ^ 240 := by decide
    have h3 : (A * a + D * b).natAbs < 2 ^ 240 := by omega
    exact_mod_cast h3) (by decide)
  refine zr_multiply_sq (by decide) (by decide) g4 hz (by decide) (fun r5 g5 => ?_)
  rw [← Int.natCast_mul, Int.natAbs_mul_self] at g5
  exact k r5 r4 r3 g5
theorem zr_square_bg {T : zMem} {x y : Int32} {A D a b : Int} {e : Nat} {post : zMem → Prop} (h0 : zL 8 (T 1) A) (h3 : zL 8 (T 2) D) (hx : x.toInt = a) (hy : y.toInt = b) (hb : (A * a + D * b).natAbs ≤ 2 ^ e) (he : e ≤ 238) (k : ∀ r5 r4 r3 : zRow, zL 16 r5 ((A * a + D * b) * (A * a + D * b)) → post (zset (zset (zset T 5 r4) 6 r3) 7 r5)) : zw_X4_squareLine_bg T x y post := by
  have rx := zn_rng x
  have ry := zn_rng y
  refine zr_set (by decide) (by decide) (by decide) (fun r1 g1 => ?_)
  refine zr_gain (by decide) g1 h0 (zn_wide hx) (by omega) (by omega) (fun r2 g2 => ?_)
  refine zr_gain (by decide) g2 h3 (zn_wide hy) (by omega) (by omega) (fun r3 g3 => ?_)
  rw [zn_0, Int.zero_add] at g3
  refine zr_putSize (by decide) (by decide) g3 (zn_239 hb he) (fun r4 g4 => ?_)
  rw [zn_absI] at g4
  have hz : zD (((A * a + D * b).natAbs : Nat) : Int) 8 = 0 := zD_of (e := 240) (by omega) (by
    have h1 : (2 : Nat) ^ e ≤ 2 ^ 238 := Nat.pow_le_pow_right (by decide) he
    have h2 : (2 : Nat) ^ 238 < 2 ^ 240 := by decide
    have h3 : (A * a + D * b).natAbs < 2 ^ 240 := by omega
    exact_mod_cast h3) (by decide)
  refine zr_multiply_sq (by decide) (by decide) g4 hz (by decide) (fun r5 g5 => ?_)
  rw [← Int.natCast_mul, Int.natAbs_mul_self] at g5
  exact k r5 r4 r3 g5
/-- a line of two entries, with the edges' factors -/
theorem zn_line {A D a b : Int} (hA : A.natAbs ≤ 2 ^ 210) (hD : D.natAbs ≤ 2 ^ 210) (ha : a.natAbs ≤ 81) (hb : b.natAbs ≤ 81) : (A * a + D * b).natAbs ≤ 2 ^ 218 := by
  have h1 := zn_mab hA ha
  have h2 := zn_mab hD hb
  have h3 := Int.natAbs_add_le (A * a) (D * b)
  have h4 : (2 : Nat) ^ 210 * 81 + 2 ^ 210 * 81 ≤ 2 ^ 218 := by decide
  omega
theorem zTB_6 {u : Int} {v n : Nat} {up lo wi : Nat → Nat} (hu : u.natAbs ≤ v) (hv : v ≤ 49) (hv1 : 1 ≤ v) (hO : zOk up lo wi n) : (zTb u v up lo wi n).1.natAbs ≤ 2 ^ 210 ∧ (zTb u v up lo wi n).2.1.natAbs ≤ 2 ^ 210 ∧ (zTb u v up lo wi n).2.2.1.natAbs ≤ 2 ^ 210 ∧ (zTb u v up lo wi n).2.2.2.1.natAbs ≤ 2 ^ 210 ∧ (zTb u v up lo wi n).2.2.2.2.natAbs ≤ 2 ^ 174 ∧ 0 < (zTb u v up lo wi n).2.2.2.2 := by
  obtain ⟨⟨h1, h2, h3, h4⟩, h5, h6⟩ := zTb_b hu hv hv1 hO n (Nat.le_refl n)
  have p1 : (2 : Nat) ^ (35 * n) ≤ 2 ^ 210 := Nat.pow_le_pow_right (by decide) (by have := hO.1; omega)
  have p2 : (2 : Nat) ^ (29 * n) ≤ 2 ^ 174 := Nat.pow_le_pow_right (by decide) (by have := hO.1; omega)
  have q : ∀ X : Nat, X * v ≤ 2 ^ (35 * n) → X ≤ 2 ^ 210 := fun X hX => by
    have := Nat.mul_le_mul_left X hv1
    omega
  exact ⟨by omega, q _ h2, q _ h3, by omega, by omega, h5⟩
theorem zr_tellSquares {T P : zMem} {r : zRow} {way : Int32} {s : Int} {u : Int} {v n : Nat} {up lo wi : Nat → Nat} {au al gu gl : Nat} {post : zMem → zRow → Prop} (hs : way.toInt = s) (hs1 : s.natAbs ≤ 1) (hu : u.natAbs ≤ v) (hv : v ≤ 49) (hv1 : 1 ≤ v) (hP : zPl P n up lo wi au al gu gl) (hO : zOk up lo wi n) (hE : zEd au al gu gl) (hT : zTs T u v (zTb u v up lo wi n)) (k : ∀ (T' : zMem) (r' : zRow), zTs T' u v (zTb u v up lo wi n) → zL 16 r' (zPQ s u v au al gu gl (zTb u v up lo wi n)) → post T' r') : zw_X4_tellSquares T P r way post := by
  obtain ⟨-, -, p0, p1, p2, p3⟩ := hP
  obtain ⟨⟨e1, e2⟩, ⟨e3, e4⟩, ⟨e5, e6⟩, ⟨e7, e8⟩⟩ := hE
  obtain ⟨h8, h9, h10, g0, g1, g2, g3, g4⟩ := hT
  obtain ⟨b0, b1, b2, b3, b4, -⟩ := zTB_6 hu hv hv1 hO
  refine And.intro (vp_in_nI (n := 0) (by decide) (by decide)) (fun x4 f4 => And.intro (vp_in_nI (n := 0) (by decide) (by decide)) (fun x5 f5 => And.intro (vp_in_nI (n := 1) (by decide) (by decide)) (fun x6 f6 => And.intro (vp_in_nI (n := 1) (by decide) (by decide)) (fun x7 f7 => ?_))))
  rw [show (0 : Int32).toNatClampNeg = 0 from rfl, p0] at f4
  rw [show (0 : Int32).toNatClampNeg = 0 from rfl, p1] at f5
  rw [show (1 : Int32).toNatClampNeg = 1 from rfl, p2] at f6
  rw [show (1 : Int32).toNatClampNeg = 1 from rfl, p3] at f7
  subst f4 f5 f6 f7
  have m2 : ∀ {a b : Nat}, a ≤ 9 → b ≤ 9 → (nI a * nI b).toInt = (a : Int) * b ∧ ((a : Int) * b).natAbs ≤ 81 := fun {a b} ha hb => by
    have h := zn_mab (a := (a : Int)) (b := (b : Int)) (A := 9) (B := 9) (by omega) (by omega)
    exact ⟨zn_mul (nI_toInt (by omega)) (nI_toInt (by omega)) (by omega) (by omega), by omega⟩
  have m3 : ∀ {a b : Nat}, a ≤ 9 → b ≤ 9 → ((way * nI a) * nI b).toInt = s * a * b ∧ (s * a * b).natAbs ≤ 81 := fun {a b} ha hb => by
    have h1 := zn_mab (a := s) (b := (a : Int)) (A := 1) (B := 9) hs1 (by omega)
    have h2 := zn_mab (a := s * a) (b := (b : Int)) (A := 9) (B := 9) (by omega) (by omega)
    exact ⟨zn_mul (zn_mul hs (nI_toInt (by omega)) (by omega) (by omega)) (nI_toInt (by omega)) (by omega) (by omega), by omega⟩
  refine zr_square_ad (e := 218) g0 g3 (m2 e2 e8).1 (m3 e6 e4).1 (zn_line b0 b3 (m2 e2 e8).2 (m3 e6 e4).2) (by decide) (fun r5 r4 r3 q5 => ?_)
  refine zr_square_bg (A := (zTb u v up lo wi n).2.1) (D := (zTb u v up lo wi n).2.2.1) (e := 218) ?_ ?_ (m2 e2 e6).1 (m3 e4 e8).1 (zn_line b1 b2 (m2 e2 e6).2 (m3 e4 e8).2) (by decide) (fun s5 s4 s3 q6 => ?_)
  · exact g1
  · exact g2
  have hz := zn_z hu
  have hv2 : v * v ≤ 49 * 49 := Nat.mul_le_mul hv hv
  refine zr_gain (by decide) q5 (Y := ((zTb u v up lo wi n).2.1 * (au * gu) + (zTb u v up lo wi n).2.2.1 * (s * al * gl)) * ((zTb u v up lo wi n).2.1 * (au * gu) + (zTb u v up lo wi n).2.2.1 * (s * al * gl))) ?_ (F := (v : Int) * v - u * u) (zn_wide h10) (by omega) (by omega) (fun r12 q12 => ?_)
  · exact q6
  refine k _ r12 ⟨h8, h9, h10, g0, g1, g2, g3, g4⟩ q12
theorem zr_tellBack {T F P : zMem} {u : Int} {uv : Int32} {v n : Nat} {up lo wi : Nat → Nat} {au al gu gl : Nat} {post : zMem → zMem → Prop} (hu : u.natAbs ≤ v) (hv : v ≤ 49) (hv1 : 1 ≤ v) (huv : uv.toInt = u) (hP : zPl P n up lo wi au al gu gl) (hO : zOk up lo wi n) (hE : zEd au al gu gl) (k : ∀ (T' : zMem) (r r' : zRow), zL 16 r (zPQ (-1) u v au al gu gl (zTb u v up lo wi n)) → zL 16 r' (zPQ 1 u v au al gu gl (zTb u v up lo wi n)) → post T' (zset (zset F 0 r) 1 r')) : zw_X4_tellBack T F P uv (nI v) post := by
  refine zr_reckon hu hv hv1 huv hP hO (fun T1 h1 => ?_)
  refine zr_tellSquares (s := -1) (by decide) (by decide) hu hv hv1 hP hO hE h1 (fun T2 r2 h2 g2 => ?_)
  refine zr_tellSquares (s := 1) (by decide) (by decide) hu hv hv1 hP hO hE h2 (fun T3 r3 h3 g3 => ?_)
  exact k T3 r2 r3 g2 g3
theorem zr_isStopping {T : zMem} {u : Int} {v n : Nat} {up lo wi : Nat → Nat} {post : Int32 → zMem → Prop} (hu : u.natAbs ≤ v) (hv : v ≤ 49) (hv1 : 1 ≤ v) (hO : zOk up lo wi n) (hT : zTs T u v (zTb u v up lo wi n)) (k : ∀ T' : zMem, post (if 2 * (zTb u v up lo wi n).2.2.2.2 < (((zTb u v up lo wi n).1 + (zTb u v up lo wi n).2.2.2.1).natAbs : Int) then 1 else 0) T') : zw_X4_isStopping T post := by
  obtain ⟨h8, h9, h10, g0, g1, g2, g3, g4⟩ := hT
  obtain ⟨b0, b1, b2, b3, b4, b5⟩ := zTB_6 hu hv hv1 hO
  have p1 : (2 : Nat) ^ 210 + 2 ^ 210 ≤ 2 ^ 211 := by decide
  have p2 : (2 : Nat) ^ 211 + 2 * 2 ^ 174 ≤ 2 ^ 212 := by decide
  refine zr_put (by decide) (by decide) g0 (Or.inl (by decide)) (fun r1 q1 => ?_)
  refine zr_gain (by decide) q1 g3 (F := 1) (by decide) (by decide) (by decide) (fun r2 q2 => ?_)
  rw [Int.mul_one] at q2
  have hs := Int.natAbs_add_le (zTb u v up lo wi n).1 (zTb u v up lo wi n).2.2.2.1
  refine zr_putSize (by decide) (by decide) q2 (zn_239 (e := 211) (by omega) (by decide)) (fun r3 q3 => ?_)
  rw [zn_absI] at q3
  refine zr_gain (by decide) q3 g4 (F := -2) (by decide) (by decide) (by decide) (fun r4 q4 => ?_)
  refine zr_signOf (by decide) q4 (zn_239 (e := 212) (by omega) (by decide)) ?_
  refine And.intro (fun c => And.intro rfl ?_) (fun c => And.intro rfl ?_)
  · have hn : ¬ 2 * (zTb u v up lo wi n).2.2.2.2 < (((zTb u v up lo wi n).1 + (zTb u v up lo wi n).2.2.2.1).natAbs : Int) := fun q => by
      rw [zsg_pos (by omega)] at c; exact absurd c (by decide)
    have := k (zset (zset T 5 r4) 6 r2)
    rwa [if_neg hn] at this
  · have hn : 2 * (zTb u v up lo wi n).2.2.2.2 < (((zTb u v up lo wi n).1 + (zTb u v up lo wi n).2.2.2.1).natAbs : Int) := by
      rcases Int.lt_or_le (2 * (zTb u v up lo wi n).2.2.2.2) (((zTb u v up lo wi n).1 + (zTb u v up lo wi n).2.2.2.1).natAbs : Int) with q | q
      · exact q
      · exfalso
        apply c
        rcases Int.lt_or_le (((zTb u v up lo wi n).1 + (zTb u v up lo wi n).2.2.2.1).natAbs : Int) (2 * (zTb u v up lo wi n).2.2.2.2) with q2 | q2
        · rw [zsg_neg (by omega)]; decide
        · rw [zsg_zero (by omega)]; decide
    have := k (zset (zset T 5 r4) 6 r2)
    rwa [if_pos hn] at this
