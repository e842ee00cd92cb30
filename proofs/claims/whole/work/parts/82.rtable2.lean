/-! an entry that is told, and the reference's table -/
def zen (t : Int × Int × Int × Int × Int) (e : Nat) : Int := if e = 0 then t.1 else if e = 1 then t.2.1 else if e = 2 then t.2.2.1 else t.2.2.2.1
def zef (v e : Nat) : Nat := if e = 1 ∨ e = 2 then v else 1
theorem zr_tellSize {T F : zMem} {u : Int} {v n e : Nat} {up lo wi : Nat → Nat} {post : zMem → Prop} (he : e < 4) (hu : u.natAbs ≤ v) (hv : v ≤ 49) (hv1 : 1 ≤ v) (hO : zOk up lo wi n) (hT : zTs T u v (zTb u v up lo wi n)) (k : ∀ r r' : zRow, zL 16 r (((zen (zTb u v up lo wi n) e).natAbs * zef v e : Nat) : Int) → zL 16 r' (zTb u v up lo wi n).2.2.2.2 → post (zset (zset F 0 r) 1 r')) : zw_X4_tellSize T F (nI e) post := by
  obtain ⟨h8, h9, h10, g0, g1, g2, g3, g4⟩ := hT
  obtain ⟨b0, b1, b2, b3, b4, b5⟩ := zTB_6 hu hv hv1 hO
  have hz : zD (zTb u v up lo wi n).2.2.2.2 8 = 0 := zD_of (e := 240) (by omega) (by
    have h2 : (2 : Nat) ^ 174 < 2 ^ 240 := by decide
    have h3 : (zTb u v up lo wi n).2.2.2.2.natAbs < 2 ^ 240 := by omega
    have h4 : (((zTb u v up lo wi n).2.2.2.2.natAbs : Nat) : Int) < ((2 ^ 240 : Nat) : Int) := by exact_mod_cast h3
    rw [Int.natAbs_of_nonneg (by omega)] at h4
    exact_mod_cast h4) (by decide)
  rcases Nat.lt_or_ge e 1 with q | q
  · have e0 : e = 0 := by omega
    subst e0
    refine And.intro (fun c => absurd rfl c) (fun _ => ?_)
    refine zr_putSize (by decide) (by decide) g0 (zn_239 (e := 210) b0 (by decide)) (fun r1 q1 => ?_)
    rw [zn_absI] at q1
    refine And.intro (fun c => absurd c (by decide)) (fun _ => And.intro (fun _ => ?_) (fun c => absurd c (by decide)))
    refine zr_put (by decide) (by decide) g4 (Or.inr hz) (fun r6 q6 => ?_)
    exact k r1 r6 (by rw [show zef v 0 = 1 from rfl, Nat.mul_one]; exact q1) q6
  rcases Nat.lt_or_ge e 2 with q' | q'
  · have e0 : e = 1 := by omega
    subst e0
    refine And.intro (fun _ => And.intro (fun c => absurd rfl c) (fun _ => ?_)) (fun c => absurd c (by decide))
    refine zr_putSize (by decide) (by decide) g1 (zn_239 (e := 210) b1 (by decide)) (fun r1 q1 => ?_)
    rw [zn_absI] at q1
    refine And.intro (fun _ => ?_) (fun c => absurd rfl c)
    refine zr_scale (by decide) q1 (zn_wide h9) (by omega) (by omega) (fun r3 q3 => ?_)
    rw [← Int.natCast_mul] at q3
    refine zr_put (by decide) (by decide) g4 (Or.inr hz) (fun r6 q6 => ?_)
    exact k r3 r6 q3 q6
  rcases Nat.lt_or_ge e 3 with q'' | q''
  · have e0 : e = 2 := by omega
    subst e0
    refine And.intro (fun _ => And.intro (fun _ => And.intro (fun c => absurd rfl c) (fun _ => ?_)) (fun c => absurd c (by decide))) (fun c => absurd c (by decide))
    refine zr_putSize (by decide) (by decide) g2 (zn_239 (e := 210) b2 (by decide)) (fun r1 q1 => ?_)
    rw [zn_absI] at q1
    refine And.intro (fun c => absurd c (by decide)) (fun _ => And.intro (fun c => absurd rfl c) (fun _ => ?_))
    refine zr_scale (by decide) q1 (zn_wide h9) (by omega) (by omega) (fun r3 q3 => ?_)
    rw [← Int.natCast_mul] at q3
    refine zr_put (by decide) (by decide) g4 (Or.inr hz) (fun r6 q6 => ?_)
    exact k r3 r6 q3 q6
  · have e0 : e = 3 := by omega
    subst e0
    refine And.intro (fun _ => And.intro (fun _ => And.intro (fun _ => ?_) (fun c => absurd c (by decide))) (fun c => absurd c (by decide))) (fun c => absurd c (by decide))
    refine zr_putSize (by decide) (by decide) g3 (zn_239 (e := 210) b3 (by decide)) (fun r1 q1 => ?_)
    rw [zn_absI] at q1
    refine And.intro (fun c => absurd c (by decide)) (fun _ => And.intro (fun _ => ?_) (fun c => absurd c (by decide)))
    refine zr_put (by decide) (by decide) g4 (Or.inr hz) (fun r6 q6 => ?_)
    exact k r1 r6 (by rw [show zef v 3 = 1 from rfl, Nat.mul_one]; exact q1) q6
/-! the reference: a layer's polynomials -/
theorem zr_first_9 {u : Int} {v k : Nat} {a2 a3 : Int64} {K : Int64 → Prop} (A B : Int) (hu : u.natAbs ≤ v) (hv : v ≤ 49) (hk : k ≤ 4) (h2 : a2.toInt = u) (h3 : a3.toInt = v) (hb : ∀ i : Nat, i < k → (zch u v A B i).1.natAbs ≤ 1000000000 ∧ (zch u v A B i).2.natAbs ≤ 1000000000) (hK : ∀ x : Int64, x.toInt = (zch u v A B k).1 → K x) : ∀ (d i : Nat) (p5 p7 : Int64), i + d = k → p5.toInt = (zch u v A B i).1 → p7.toInt = (zch u v A B i).2 → zw_X6_first_9 (nI k) a2 a3 K (d + 1) p5 p7 (nI i) := by
  intro d
  induction d with
  | zero =>
    intro i p5 p7 hi h5 h7
    have e : i = k := by omega
    subst e
    exact And.intro (fun _ => hK p5 h5) (fun q => absurd (nI_le (Nat.le_refl _) (by omega)) q)
  | succ d ih =>
    intro i p5 p7 hi h5 h7
    refine And.intro (fun q => absurd q (nI_ge (by omega) (by omega))) (fun _ => ?_)
    intro x10 e10 x9 e9
    obtain ⟨b1, b2⟩ := hb i (by omega)
    rw [e9, nI_1]
    have c2 : (2 * u).natAbs ≤ 98 := by omega
    have t2 : ((2 : Int64) * a2).toInt = 2 * u := zn_mulL (by decide) h2 (by omega) (by omega)
    have bv : ((v : Int) * v).natAbs ≤ 2401 := zn_mab (A := 49) (B := 49) (by omega) (by omega)
    have tv : (a3 * a3).toInt = (v : Int) * v := zn_mulL h3 h3 (by omega) (by omega)
    have m1 := zn_mulA t2 h7 c2 b2 (by decide)
    have m2 := zn_mulA tv h5 bv b1 (by decide)
    have n1 := zn_mab c2 b2
    have n2 := zn_mab bv b1
    refine ih (i + 1) p7 x10 (by omega) h7 ?_
    rw [e10]; exact zn_subL m1 m2 (by omega) (by omega)
theorem zr_second_9 {c0 : Int32} {c1 c3 : Int64} {K : Int64 → Prop} : ∀ (f : Nat) (a b : Int64) (i : Int32), zw_X6_first_9 c0 c1 c3 K f a b i → zw_X6_second_9 c0 c1 c3 K f a b i := by
  intro f
  induction f with
  | zero => intro a b i h; exact h
  | succ f ih => intro a b i h; exact And.intro h.1 (fun q x e y f => ih _ _ _ (h.2 q x e y f))
theorem zn_chb1 {u : Int} {v k : Nat} (hu : u.natAbs ≤ v) (hv : v ≤ 49) (hv1 : 1 ≤ v) (hk : k ≤ 4) : ∀ i : Nat, i < k → (zch u v 1 u i).1.natAbs ≤ 1000000000 ∧ (zch u v 1 u i).2.natAbs ≤ 1000000000 := fun i hi => by
  have h1 := (zn_fit hu hv hv1 (show i ≤ 4 by omega)).1
  have h2 := (zn_fit hu hv hv1 (show i + 1 ≤ 4 by omega)).1
  exact ⟨Nat.le_trans h1 (by decide), Nat.le_trans h2 (by decide)⟩
theorem zn_chb2 {u : Int} {v k : Nat} (hu : u.natAbs ≤ v) (hv : v ≤ 49) (hv1 : 1 ≤ v) (hk : k ≤ 4) : ∀ i : Nat, i < k → (zch u v 0 1 i).1.natAbs ≤ 1000000000 ∧ (zch u v 0 1 i).2.natAbs ≤ 1000000000 := fun i hi => by
  have h1 := (zn_fit hu hv hv1 (show i ≤ 4 by omega)).2.1
  have h2 := (zn_fit hu hv hv1 (show i + 1 ≤ 4 by omega)).2.1
  exact ⟨Nat.le_trans h1 (by decide), Nat.le_trans h2 (by decide)⟩
theorem zr_first {u : Int} {v k : Nat} {a2 a3 : Int64} {post : Int64 → Prop} (hu : u.natAbs ≤ v) (hv : v ≤ 49) (hv1 : 1 ≤ v) (hk : k ≤ 4) (h2 : a2.toInt = u) (h3 : a3.toInt = v) (K : ∀ x : Int64, x.toInt = zTk u v k → post x) : zw_X6_first (nI k) a2 a3 post :=
  ⟨_, zr_first_9 1 u hu hv hk h2 h3 (zn_chb1 hu hv hv1 hk) K k 0 1 a2 (by omega) zn_1L h2⟩
theorem zr_second {u : Int} {v k : Nat} {a2 a3 : Int64} {post : Int64 → Prop} (hu : u.natAbs ≤ v) (hv : v ≤ 49) (hv1 : 1 ≤ v) (hk : k ≤ 4) (h2 : a2.toInt = u) (h3 : a3.toInt = v) (K : ∀ x : Int64, x.toInt = zWk u v k → post x) : zw_X6_second (nI k) a2 a3 post :=
  ⟨_, zr_second_9 _ _ _ _ (zr_first_9 0 1 hu hv hk h2 h3 (zn_chb2 hu hv hv1 hk) K k 0 0 1 (by omega) zn_0L zn_1L)⟩
theorem zr_power {b : Int} {k : Nat} {a1 : Int64} {post : Int64 → Prop} (hb : b.natAbs ≤ 49) (hk : k ≤ 4) (h1 : a1.toInt = b) (K : ∀ x : Int64, x.toInt = b ^ k → post x) : zw_X6_power a1 (nI k) post := by
  have L : ∀ (d i : Nat) (p : Int64), i + d = k → p.toInt = b ^ i → zw_X6_power_5 a1 (nI k) (fun x => post x) (d + 1) p (nI i) := by
    intro d
    induction d with
    | zero =>
      intro i p hi hp
      have e : i = k := by omega
      subst e
      exact And.intro (fun _ => K p hp) (fun q => absurd (nI_le (Nat.le_refl _) (by omega)) q)
    | succ d ih =>
      intro i p hi hp
      refine And.intro (fun q => absurd q (nI_ge (by omega) (by omega))) (fun _ => ?_)
      intro x e y f
      rw [f, nI_1]
      refine ih (i + 1) x (by omega) ?_
      have hbi : (b ^ i).natAbs ≤ 5764801 := by
        rw [Int.natAbs_pow]; exact zn_vk hb (by omega)
      rw [e, Int.pow_succ]; exact zn_mulA hp h1 hbi hb (by decide)
  exact ⟨_, L k 0 1 (by omega) (by rw [Int.pow_zero]; exact zn_1L)⟩
theorem zn_mlt {a b : Int} {e f : Nat} (ha : a.natAbs < 2 ^ e) (hb : b.natAbs < 2 ^ f) : (a * b).natAbs < 2 ^ (e + f) := by
  rw [Int.natAbs_mul, Nat.pow_add]
  exact Nat.mul_lt_mul'' ha hb
theorem zn_alt {a b : Int} {e : Nat} (ha : a.natAbs < 2 ^ e) (hb : b.natAbs < 2 ^ e) : (a + b).natAbs < 2 ^ (e + 1) := by
  rw [Nat.pow_succ]
  have := Int.natAbs_add_le a b
  omega
theorem zn_slt {a b : Int} {e : Nat} (ha : a.natAbs < 2 ^ e) (hb : b.natAbs < 2 ^ e) : (a - b).natAbs < 2 ^ (e + 1) := by
  rw [Nat.pow_succ]
  omega
/-- these registers stay -/
def zkp (w w' : Nat → Int) : Prop := ∀ d : Nat, (16 ≤ d ∧ d < 20) ∨ (24 ≤ d ∧ d < 32) → w' d = w d
theorem zkp_refl (w : Nat → Int) : zkp w w := fun _ _ => rfl
theorem zkp_trans {w w' w'' : Nat → Int} (h : zkp w w') (g : zkp w' w'') : zkp w w'' := fun d hd => (g d hd).trans (h d hd)
set_option maxHeartbeats 4000000 in
theorem zg_layerOn {M0 M : zMem} {w : Nat → Int} {u : Int} {v n m k : Nat} {a4 a5 : Int32} {post : zMem → Prop} (hG : zG M0 M w) (hu : u.natAbs ≤ v) (hv : v ≤ 49) (hv1 : 1 ≤ v) (hn : n ≤ 9) (hm : m ≤ 9) (hk : k ≤ 4) (h4 : a4.toInt = u) (h5 : a5.toInt = v) (b0 : (w 0).natAbs < 2 ^ 211) (b1 : (w 1).natAbs < 2 ^ 211) (b2 : (w 2).natAbs < 2 ^ 211) (b3 : (w 3).natAbs < 2 ^ 211) (b4 : (w 4).natAbs < 2 ^ 211) (K : ∀ (M' : zMem) (w' : Nat → Int), zG M0 M' w' → (w' 0, w' 1, w' 2, w' 3, w' 4) = zLy u v n m k (w 0, w 1, w 2, w 3, w 4) → zkp w w' → post M') : zw_X6_layerOn M (nI n) (nI m) (nI k) a4 a5 post := by
  obtain ⟨f1, f2, f3⟩ := zn_fit hu hv hv1 hk
  have hz := (zn_z hu).2
  have hv2 : v * v ≤ 49 * 49 := Nat.mul_le_mul hv hv
  have hN : (Int32.toInt64 (nI n)).toInt = (n : Int) := zn_wide (nI_toInt (by omega))
  have hM : (Int32.toInt64 (nI m)).toInt = (m : Int) := zn_wide (nI_toInt (by omega))
  have bn : ((n : Int)).natAbs ≤ 9 := by omega
  have bm : ((m : Int)).natAbs ≤ 9 := by omega
  have h4L := zn_wide h4
  have h5L := zn_wide h5
  refine zr_first hu hv hv1 hk h4L h5L (fun v1 q1 => ?_)
  intro x6 e6
  have hX : x6.toInt = zTk u v k * n * m := by rw [e6]; exact zn_mulA (zn_mulA q1 hN f1 bn (by decide)) hM (zn_mab f1 bn) bm (by decide)
  have bX := zn_mab (zn_mab f1 bn) bm
  refine zr_second hu hv hv1 hk h4L h5L (fun v3 q3 => ?_)
  have hY : ((v3 * Int32.toInt64 (nI m)) * Int32.toInt64 (nI m)).toInt = zWk u v k * m * m := zn_mulA (zn_mulA q3 hM f2 bm (by decide)) hM (zn_mab f2 bm) bm (by decide)
  have hW : ((v3 * Int32.toInt64 (nI n)) * Int32.toInt64 (nI n)).toInt = zWk u v k * n * n := zn_mulA (zn_mulA q3 hN f2 bn (by decide)) hN (zn_mab f2 bn) bn (by decide)
  have bY := zn_mab (zn_mab f2 bm) bm
  have bW := zn_mab (zn_mab f2 bn) bn
  have cX : (zTk u v k * n * m).natAbs < 2 ^ 32 := by omega
  have cY : (zWk u v k * m * m).natAbs < 2 ^ 32 := by omega
  have cW : (zWk u v k * n * n).natAbs < 2 ^ 32 := by omega
  have cz : ((v : Int) * v - u * u).natAbs < 2 ^ 12 := by omega
  refine zg_set 10 (zTk u v k * n * m) hG (by decide) hX (by omega) (by omega) (fun T4 G4 => ?_)
  refine zg_set 11 (zWk u v k * m * m) G4 (by decide) hY (by omega) (by omega) (fun T5 G5 => ?_)
  refine zg_set 12 (zWk u v k * n * n) G5 (by decide) hW (by omega) (by omega) (fun T6 G6 => ?_)
  intro x10 e10
  have hx10 : x10.toInt = (v : Int) * v - u * u := by
    have mv : ((v : Int) * v).natAbs ≤ 2401 := zn_mab (A := 49) (B := 49) (by omega) (by omega)
    have mu : (u * u).natAbs ≤ 2401 := zn_mab (A := 49) (B := 49) (by omega) (by omega)
    rw [e10]; exact zn_subL (zn_mulL h5L h5L (by omega) (by omega)) (zn_mulL h4L h4L (by omega) (by omega)) (by omega) (by omega)
  refine zg_times 6 0 10 (e := 211) (f := 32) G6 (by decide) (by decide) (by decide) (by decide) (by decide) b0 cX (by decide) (fun T8 G8 => ?_)
  refine zg_times 33 1 12 (e := 211) (f := 32) G8 (by decide) (by decide) (by decide) (by decide) (by decide) b1 cW (by decide) (fun T9 G9 => ?_)
  refine zg_by 33 ((v : Int) * v - u * u) (e := 243) G9 (by decide) hx10 (by omega) (by omega) (zn_mlt b1 cW) (by decide) (fun T10 G10 => ?_)
  refine zg_minus 6 6 33 (e := 243) (f := 255) G10 (by decide) (by decide) (by decide) (zn_mlt b0 cX) (zn_mlt (zn_mlt b1 cW) cz) (by decide) (by decide) (fun T11 G11 => ?_)
  refine zg_times 7 0 11 (e := 211) (f := 32) G11 (by decide) (by decide) (by decide) (by decide) (by decide) b0 cY (by decide) (fun T12 G12 => ?_)
  refine zg_times 33 1 10 (e := 211) (f := 32) G12 (by decide) (by decide) (by decide) (by decide) (by decide) b1 cX (by decide) (fun T13 G13 => ?_)
  refine zg_plus 7 7 33 (e := 243) (f := 243) G13 (by decide) (by decide) (by decide) (zn_mlt b0 cY) (zn_mlt b1 cX) (by decide) (by decide) (fun T14 G14 => ?_)
  refine zg_times 8 2 10 (e := 211) (f := 32) G14 (by decide) (by decide) (by decide) (by decide) (by decide) b2 cX (by decide) (fun T15 G15 => ?_)
  refine zg_times 33 3 12 (e := 211) (f := 32) G15 (by decide) (by decide) (by decide) (by decide) (by decide) b3 cW (by decide) (fun T16 G16 => ?_)
  refine zg_plus 8 8 33 (e := 243) (f := 243) G16 (by decide) (by decide) (by decide) (zn_mlt b2 cX) (zn_mlt b3 cW) (by decide) (by decide) (fun T17 G17 => ?_)
  refine zg_times 9 3 10 (e := 211) (f := 32) G17 (by decide) (by decide) (by decide) (by decide) (by decide) b3 cX (by decide) (fun T18 G18 => ?_)
  refine zg_times 33 2 11 (e := 211) (f := 32) G18 (by decide) (by decide) (by decide) (by decide) (by decide) b2 cY (by decide) (fun T19 G19 => ?_)
  refine zg_by 33 ((v : Int) * v - u * u) (e := 243) G19 (by decide) hx10 (by omega) (by omega) (zn_mlt b2 cY) (by decide) (fun T20 G20 => ?_)
  refine zg_minus 9 9 33 (e := 243) (f := 255) G20 (by decide) (by decide) (by decide) (zn_mlt b3 cX) (zn_mlt (zn_mlt b2 cY) cz) (by decide) (by decide) (fun T21 G21 => ?_)
  refine zg_copy 0 6 G21 (by decide) (by decide) (fun T22 G22 => ?_)
  refine zg_copy 1 7 G22 (by decide) (by decide) (fun T23 G23 => ?_)
  refine zg_copy 2 8 G23 (by decide) (by decide) (fun T24 G24 => ?_)
  refine zg_copy 3 9 G24 (by decide) (by decide) (fun T25 G25 => ?_)
  have bp : ((v : Int) ^ k).natAbs ≤ 5764801 := by rw [Int.natAbs_pow, Int.natAbs_natCast]; exact f3
  refine zr_power (by omega) hk h5L (fun v26 q26 => ?_)
  have hP : ((v26 * Int32.toInt64 (nI n)) * Int32.toInt64 (nI m)).toInt = (v : Int) ^ k * n * m := zn_mulA (zn_mulA q26 hN bp bn (by decide)) hM (zn_mab bp bn) bm (by decide)
  have bP := zn_mab (zn_mab bp bn) bm
  refine zg_by 4 ((v : Int) ^ k * n * m) (e := 211) G25 (by decide) hP (by omega) (by omega) b4 (by decide) (fun T27 G27 => ?_)
  refine K T27 _ G27 rfl (fun d hd => ?_)
  repeat rw [zj_out (by omega)]
