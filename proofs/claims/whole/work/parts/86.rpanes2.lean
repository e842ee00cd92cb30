/-! the reference's panes -/
theorem zn_can {W a b : Int} (hW : 0 < W) (h : W * a = W * b) : a = b := Int.eq_of_mul_eq_mul_left (by omega) h
/-- registers a and b hold the fraction X by W -/
def zQp (w : Nat → Int) (a b : Nat) (X W : Int) : Prop := 0 < w b ∧ 0 ≤ w a ∧ w a * W = X * w b ∧ (w b).natAbs ≤ 2 ^ 216 ∧ (w a).natAbs ≤ 2 ^ 216
theorem zQp_k {w w' : Nat → Int} {a b : Nat} {X W : Int} (h : zQp w a b X W) (ha : w' a = w a) (hb : w' b = w b) : zQp w' a b X W := by
  unfold zQp; rw [ha, hb]; exact h
theorem zq_S {W L c d bu bl : Int} (hc : c * W = L * d) : W * (d * bl - c * bu) = d * (bl * W - bu * L) := by
  have e : W * (d * bl - c * bu) = d * (bl * W) - bu * (c * W) := by grind
  rw [e, hc]; grind
theorem zq_F {F I W L O a b c d e h bu bl ol S : Int} (hW : 0 < W) (hI : I * W = O * O - F * L) (ha : a * W = F * b) (he : e * W = O * h) (hS : W * S = d * (bl * W - bu * L)) : (a * (h * h * S) + e * e * bu * d * b) * (W * (bl * ol * (bl * ol)) + L * (-(bu * ol) * (bl * ol))) = (F * (bl * ol * (bl * ol)) + I * (bu * ol * (bl * ol))) * (b * (h * h * S)) := by
  obtain ⟨N, hN⟩ : ∃ N, bl * W - bu * L = N := ⟨_, rfl⟩
  rw [hN] at hS
  have e1 : W * (bl * ol * (bl * ol)) + L * (-(bu * ol) * (bl * ol)) = bl * ol * ol * N := by rw [← hN]; grind
  have e2 : F * (bl * ol * (bl * ol)) + I * (bu * ol * (bl * ol)) = bl * ol * ol * (bl * F + bu * I) := by grind
  have key : (a * (h * h * S) + e * e * bu * d * b) * N = (bl * F + bu * I) * (b * (h * h * S)) := by
    refine zn_can hW (zn_can hW ?_)
    have l1 : W * (W * ((a * (h * h * S) + e * e * bu * d * b) * N)) = (a * W) * (h * h) * (W * S) * N + (e * W) * (e * W) * bu * d * b * N := by grind
    have r1 : W * (W * ((bl * F + bu * I) * (b * (h * h * S)))) = (bl * F * W + bu * (I * W)) * (b * (h * h) * (W * S)) := by grind
    rw [l1, r1, ha, he, hS, hI]
    have r2 : bl * F * W + bu * (O * O - F * L) = F * N + bu * (O * O) := by rw [← hN]; grind
    rw [r2]; grind
  rw [e1, e2]
  have l2 : (a * (h * h * S) + e * e * bu * d * b) * (bl * ol * ol * N) = bl * ol * ol * ((a * (h * h * S) + e * e * bu * d * b) * N) := by grind
  rw [l2, key]; grind
theorem zq_O {W L O c d e h bu bl ou ol S : Int} (hW : 0 < W) (he : e * W = O * h) (hS : W * S = d * (bl * W - bu * L)) : e * d * (ou * bl) * (W * (bl * ol * (bl * ol)) + L * (-(bu * ol) * (bl * ol))) = O * (ou * bl * (bl * ol)) * (h * S * ol) := by
  obtain ⟨N, hN⟩ : ∃ N, bl * W - bu * L = N := ⟨_, rfl⟩
  rw [hN] at hS
  have e1 : W * (bl * ol * (bl * ol)) + L * (-(bu * ol) * (bl * ol)) = bl * ol * ol * N := by rw [← hN]; grind
  have key : e * d * N = O * h * S := by
    refine zn_can hW ?_
    have l1 : W * (e * d * N) = (e * W) * (d * N) := by grind
    have r1 : W * (O * h * S) = O * h * (W * S) := by grind
    rw [l1, r1, he, hS]
  rw [e1]
  have l2 : e * d * (ou * bl) * (bl * ol * ol * N) = ou * bl * bl * ol * ol * (e * d * N) := by grind
  rw [l2, key]; grind
theorem zq_L {W L c d bu bl ou ol S : Int} (hW : 0 < W) (hc : c * W = L * d) (hS : W * S = d * (bl * W - bu * L)) : (c * (ou * ou * bl * bl) + S * (bu * ol * ol)) * (W * (bl * ol * (bl * ol)) + L * (-(bu * ol) * (bl * ol))) = (L * (ou * bl * (ou * bl) - bu * ol * (bu * ol)) + W * (bu * ol * (bl * ol))) * (S * (bl * ol * ol)) := by
  obtain ⟨N, hN⟩ : ∃ N, bl * W - bu * L = N := ⟨_, rfl⟩
  rw [hN] at hS
  have e1 : W * (bl * ol * (bl * ol)) + L * (-(bu * ol) * (bl * ol)) = bl * ol * ol * N := by rw [← hN]; grind
  have e2 : L * (ou * bl * (ou * bl) - bu * ol * (bu * ol)) + W * (bu * ol * (bl * ol)) = L * (ou * bl * (ou * bl)) + bu * ol * ol * N := by rw [← hN]; grind
  have key : c * N = L * S := by
    refine zn_can hW ?_
    have l1 : W * (c * N) = (c * W) * N := by grind
    have r1 : W * (L * S) = L * (W * S) := by grind
    rw [l1, r1, hc, hS]; grind
  rw [e1, e2]
  have l2 : (c * (ou * ou * bl * bl) + S * (bu * ol * ol)) * (bl * ol * ol * N) = ou * ou * bl * bl * bl * ol * ol * (c * N) + S * (bu * ol * ol) * (bl * ol * ol) * N := by grind
  rw [l2, key]; grind
theorem zq_short {X F W p q : Int} {Y : Nat} (hX : 0 ≤ X) (hY : 0 < Y) (hF : 0 ≤ F) (hW : 0 < W) (hFW : F ≤ W) (hWb : W.natAbs ≤ 2 ^ 216) (h : X * W = F * Y) (hp : p.natAbs = X.natAbs / Nat.gcd X.natAbs Y) (hps : zsg p = zsg X) (hq : q = ((Y / Nat.gcd X.natAbs Y : Nat) : Int)) : 0 < q ∧ 0 ≤ p ∧ p * W = F * q ∧ q.natAbs ≤ 2 ^ 216 ∧ p.natAbs ≤ 2 ^ 216 := by
  obtain ⟨x, rfl⟩ : ∃ x : Nat, X = x := ⟨X.toNat, by omega⟩
  obtain ⟨f, rfl⟩ : ∃ f : Nat, F = f := ⟨F.toNat, by omega⟩
  obtain ⟨v, rfl⟩ : ∃ v : Nat, W = v := ⟨W.toNat, by omega⟩
  rw [Int.natAbs_natCast] at hp hq hWb
  have h' : x * v = f * Y := by exact_mod_cast h
  obtain ⟨s1, s2, s3⟩ := zn_short hY (by omega) h'
  have hp0 : 0 ≤ p := by
    rcases Int.lt_or_le p 0 with z | z
    · rw [zsg_neg z] at hps
      rcases Nat.eq_zero_or_pos x with z2 | z2
      · rw [zsg_zero (by omega)] at hps; exact absurd hps (by decide)
      · rw [zsg_pos (by omega)] at hps; exact absurd hps (by decide)
    · exact z
  obtain ⟨p', rfl⟩ : ∃ p' : Nat, p = p' := ⟨p.toNat, by omega⟩
  rw [Int.natAbs_natCast] at hp
  rw [← hp] at s1
  generalize Y / Nat.gcd x Y = q' at *
  subst hq
  have le : p' ≤ q' := by
    have : v * p' ≤ v * q' := by
      rw [Nat.mul_comm v p', s1]
      exact Nat.mul_le_mul_right q' (by omega)
    exact Nat.le_of_mul_le_mul_left this (by omega)
  refine ⟨by omega, by omega, by exact_mod_cast s1, by omega, by omega⟩
def zRp (M : zMem) (n : Nat) (bu bl ou ol : Nat → Nat) : Prop := M 14 0 = nI n ∧ ∀ i : Nat, i < n → M 15 i = nI (bu i) ∧ M 16 i = nI (bl i) ∧ M 17 i = nI (ou i) ∧ M 18 i = nI (ol i)
theorem zn_nm {a b : Int} (ha : 0 ≤ a) (hb : 0 ≤ b) : 0 ≤ a * b := Int.mul_nonneg ha hb
set_option maxHeartbeats 4000000 in
theorem zg_paneOn {M0 M : zMem} {w : Nat → Int} {i bu bl ou ol : Nat} {t : Int × Int × Int × Int × Int} {post : zMem → Prop} (hG : zG M0 M w) (hi : i < 8) (r15 : M0 15 i = nI bu) (r16 : M0 16 i = nI bl) (r17 : M0 17 i = nI ou) (r18 : M0 18 i = nI ol) (hs : zSh bu bl ou ol) (hI : zPi t) (hb' : (zp2 bu bl ou ol t).2.2.1.natAbs ≤ 2 ^ 216) (hF : zQp w 26 27 t.1 t.2.2.1) (hL : zQp w 28 29 t.2.2.2.1 t.2.2.1) (hO : zQp w 30 31 t.2.2.2.2 t.2.2.1) (K : ∀ (M' : zMem) (w' : Nat → Int), zG M0 M' w' → zQp w' 26 27 (zp2 bu bl ou ol t).1 (zp2 bu bl ou ol t).2.2.1 → zQp w' 28 29 (zp2 bu bl ou ol t).2.2.2.1 (zp2 bu bl ou ol t).2.2.1 → zQp w' 30 31 (zp2 bu bl ou ol t).2.2.2.2 (zp2 bu bl ou ol t).2.2.1 → post M') : zw_X6_paneOn M (nI i) post := by
  have hI2 := (zp2_i hs hI).1
  obtain ⟨s1, s2, s3, s4, s5, s6, s7⟩ := hs
  have ci : (nI i).toNatClampNeg = i := nI_clamp (by omega)
  have hiv : vp_in (nI i) 8 := vp_in_nI hi (by decide)
  have m15 : M 15 i = nI bu := by rw [hG.1 15 (by decide) (by decide) (by decide)]; exact r15
  have m16 : M 16 i = nI bl := by rw [hG.1 16 (by decide) (by decide) (by decide)]; exact r16
  have m17 : M 17 i = nI ou := by rw [hG.1 17 (by decide) (by decide) (by decide)]; exact r17
  have m18 : M 18 i = nI ol := by rw [hG.1 18 (by decide) (by decide) (by decide)]; exact r18
  refine And.intro hiv (fun x2 e2 => And.intro hiv (fun x4 e4 => And.intro hiv (fun x6 e6 => And.intro hiv (fun x8 e8 => ?_))))
  rw [ci, m15] at e2
  rw [ci, m16] at e4
  rw [ci, m17] at e6
  rw [ci, m18] at e8
  have v2 : x2.toInt = (bu : Int) := by rw [e2]; exact zn_wide (nI_toInt (by omega))
  have v4 : x4.toInt = (bl : Int) := by rw [e4]; exact zn_wide (nI_toInt (by omega))
  have v6 : x6.toInt = (ou : Int) := by rw [e6]; exact zn_wide (nI_toInt (by omega))
  have v8 : x8.toInt = (ol : Int) := by rw [e8]; exact zn_wide (nI_toInt (by omega))
  have a2 : ((bu : Int)).natAbs ≤ 100 := by omega
  have a4 : ((bl : Int)).natAbs ≤ 100 := by omega
  have a6 : ((ou : Int)).natAbs ≤ 100 := by omega
  have a8 : ((ol : Int)).natAbs ≤ 100 := by omega
  have l7 : ∀ {x : Int}, x.natAbs ≤ 100 → x.natAbs < 2 ^ 7 := fun {x} h => by omega
  have lq : ∀ {x : Int}, x.natAbs ≤ 2 ^ 216 → x.natAbs < 2 ^ 217 := fun {x} h => Nat.lt_of_le_of_lt h (by decide)
  obtain ⟨f1, f2, f3, f4, f5⟩ := hF
  obtain ⟨g1, g2, g3, g4, g5⟩ := hL
  obtain ⟨o1, o2, o3, o4, o5⟩ := hO
  have hW := hI.1
  have hS := zq_S (bu := bu) (bl := bl) g3
  obtain ⟨S, eS⟩ : ∃ S, w 29 * (bl : Int) - w 28 * (bu : Int) = S := ⟨_, rfl⟩
  rw [eS] at hS
  have bS : S.natAbs < 2 ^ 225 := by
    rw [← eS]
    exact zn_slt (e := 224) (zn_mlt (lq g4) (l7 a4)) (zn_mlt (lq g5) (l7 a2))
  have hbb : bu ≤ bl := by
    have : bu * ol ≤ bl * ol := by omega
    exact Nat.le_of_mul_le_mul_right this (by omega)
  have hN0 : 0 ≤ (bl : Int) * t.2.2.1 - bu * t.2.2.2.1 := by
    have h1 := hI.2.2.1
    have h2 := hI.2.2.2.1
    have h3 := hI.2.2.2.2.2.1
    have : (bu : Int) * t.2.2.2.1 ≤ bl * t.2.2.1 := Int.mul_le_mul (by omega) (by omega) h1 (by omega)
    omega
  refine zg_copy 32 29 hG (by decide) (by decide) (fun T9 G9 => ?_)
  refine zg_by 32 (bl : Int) (e := 217) G9 (by decide) v4 (by omega) (by omega) (lq g4) (by decide) (fun T10 G10 => ?_)
  refine zg_copy 33 28 G10 (by decide) (by decide) (fun T11 G11 => ?_)
  refine zg_by 33 (bu : Int) (e := 217) G11 (by decide) v2 (by omega) (by omega) (lq g5) (by decide) (fun T12 G12 => ?_)
  refine zg_minus 32 32 33 (e := 224) (f := 224) G12 (by decide) (by decide) (by decide) (zn_mlt (lq g4) (l7 a4)) (zn_mlt (lq g5) (l7 a2)) (by decide) (by decide) (fun T13 G13 => ?_)
  refine And.intro (vp_in_nI (n := 32) (by decide) (by decide)) ?_
  obtain ⟨w13, hw13⟩ : ∃ w13 : Nat → Int, w13 = zj (zj (zj (zj (zj (zj (zj (zj (zj w 32 (w 29)) 39 (bl : Int)) 37 (w 29 * (bl : Int))) 32 (w 29 * (bl : Int))) 33 (w 28)) 39 (bu : Int)) 37 (w 28 * (bu : Int))) 33 (w 28 * (bu : Int))) 32 (w 29 * (bl : Int) - w 28 * (bu : Int)) := ⟨_, rfl⟩
  have G13' : zG M0 T13 w13 := by rw [hw13]; exact G13
  have k13 : ∀ d : Nat, 24 ≤ d → d < 32 → w13 d = w d := fun d h1 h2 => by
    rw [hw13]; repeat rw [zj_out (by omega)]
  have s13 : w13 32 = S := by rw [hw13, zj_in]; exact eS
  clear hw13 G13 G12 G11 G10 G9 T9 T10 T11 T12
  rw [show (32 : Int32).toNatClampNeg = 32 from rfl, zN_sg (G13'.2 32 (by decide)), s13]
  have z1 : t.2.2.1 * ((bl * ol : Nat) : Int) + t.2.2.2.1 * (-((bu * ol : Nat) : Int)) = ol * ((bl : Int) * t.2.2.1 - bu * t.2.2.2.1) := by
    rw [Int.natCast_mul, Int.natCast_mul]; grind
  refine And.intro (fun q => ?_) (fun q => ?_)
  · have hS0 : S ≠ 0 := fun z => q (zsg_0.mpr z)
    have hNp : 0 < (bl : Int) * t.2.2.1 - bu * t.2.2.2.1 := by
      rcases Int.lt_or_le 0 ((bl : Int) * t.2.2.1 - bu * t.2.2.2.1) with z | z
      · exact z
      · exfalso
        have z2 : (bl : Int) * t.2.2.1 - bu * t.2.2.2.1 = 0 := by omega
        rw [z2, Int.mul_zero] at hS
        rcases Int.mul_eq_zero.mp hS with z3 | z3
        · omega
        · exact hS0 z3
    have hSp : 0 < S := by
      have h1 : 0 < t.2.2.1 * S := by rw [hS]; exact Int.mul_pos g1 hNp
      rw [Int.mul_comm] at h1
      exact Int.pos_of_mul_pos_left h1 hW
    have hne : ¬ t.2.2.1 * ((bl * ol : Nat) : Int) + t.2.2.2.1 * (-((bu * ol : Nat) : Int)) = 0 := by
      rw [z1]; exact Int.ne_of_gt (Int.mul_pos (by omega) hNp)
    have ez : zp2 bu bl ou ol t = zp1 ((bl * ol : Nat) : Int) ((bu * ol : Nat) : Int) ((ou * bl : Nat) : Int) t := by unfold zp2; rw [if_neg hne]
    rw [ez] at K hb' hI2
    have eW' : (zp1 ((bl * ol : Nat) : Int) ((bu * ol : Nat) : Int) ((ou * bl : Nat) : Int) t).2.2.1 = t.2.2.1 * ((bl : Int) * ol * (bl * ol)) + t.2.2.2.1 * (-((bu : Int) * ol) * (bl * ol)) := by
      simp only [zp1, Int.natCast_mul]
    obtain ⟨p1, p2, p3, p4, p5, p6, p7⟩ := hI2
    have c26 := k13 26 (by decide) (by decide)
    have c27 := k13 27 (by decide) (by decide)
    have c28 := k13 28 (by decide) (by decide)
    have c29 := k13 29 (by decide) (by decide)
    have c30 := k13 30 (by decide) (by decide)
    have c31 := k13 31 (by decide) (by decide)
    have d26 : (w13 26).natAbs < 2 ^ 217 := by rw [c26]; exact lq f5
    have d27 : (w13 27).natAbs < 2 ^ 217 := by rw [c27]; exact lq f4
    have d28 : (w13 28).natAbs < 2 ^ 217 := by rw [c28]; exact lq g5
    have d29 : (w13 29).natAbs < 2 ^ 217 := by rw [c29]; exact lq g4
    have d30 : (w13 30).natAbs < 2 ^ 217 := by rw [c30]; exact lq o5
    have d31 : (w13 31).natAbs < 2 ^ 217 := by rw [c31]; exact lq o4
    have d32 : (w13 32).natAbs < 2 ^ 225 := by rw [s13]; exact bS
    refine zg_times 10 30 30 (e := 217) (f := 217) G13' (by decide) (by decide) (by decide) (by decide) (by decide) d30 d30 (by decide) (fun T16 G16 => ?_)
    refine zg_by 10 (bu : Int) (e := 434) G16 (by decide) v2 (by omega) (by omega) (zn_mlt d30 d30) (by decide) (fun T17 G17 => ?_)
    refine zg_times 11 10 29 (e := 441) (f := 217) G17 (by decide) (by decide) (by decide) (by decide) (by decide) (zn_mlt (zn_mlt d30 d30) (l7 a2)) d29 (by decide) (fun T18 G18 => ?_)
    refine zg_times 10 31 31 (e := 217) (f := 217) G18 (by decide) (by decide) (by decide) (by decide) (by decide) d31 d31 (by decide) (fun T19 G19 => ?_)
    refine zg_times 12 10 32 (e := 434) (f := 225) G19 (by decide) (by decide) (by decide) (by decide) (by decide) (zn_mlt d31 d31) d32 (by decide) (fun T20 G20 => ?_)
    refine zg_times 10 26 12 (e := 217) (f := 659) G20 (by decide) (by decide) (by decide) (by decide) (by decide) d26 (zn_mlt (zn_mlt d31 d31) d32) (by decide) (fun T21 G21 => ?_)
    refine zg_times 13 11 27 (e := 658) (f := 217) G21 (by decide) (by decide) (by decide) (by decide) (by decide) (zn_mlt (zn_mlt (zn_mlt d30 d30) (l7 a2)) d29) d27 (by decide) (fun T22 G22 => ?_)
    have B1 : (w13 26 * (w13 31 * w13 31 * w13 32)).natAbs < 2 ^ 876 := zn_mlt d26 (zn_mlt (zn_mlt d31 d31) d32)
    have B2 : (w13 30 * w13 30 * (bu : Int) * w13 29 * w13 27).natAbs < 2 ^ 875 := zn_mlt (zn_mlt (zn_mlt (zn_mlt d30 d30) (l7 a2)) d29) d27
    refine zg_plus 35 10 13 (e := 876) (f := 875) G22 (by decide) (by decide) (by decide) B1 B2 (by decide) (by decide) (fun T23 G23 => ?_)
    have B3 : (w13 27 * (w13 31 * w13 31 * w13 32)).natAbs < 2 ^ 876 := zn_mlt d27 (zn_mlt (zn_mlt d31 d31) d32)
    refine zg_times 36 27 12 (e := 217) (f := 659) G23 (by decide) (by decide) (by decide) (by decide) (by decide) d27 (zn_mlt (zn_mlt d31 d31) d32) (by decide) (fun T24 G24 => ?_)
    refine zg_copy 26 35 G24 (by decide) (by decide) (fun T25 G25 => ?_)
    refine zg_copy 27 36 G25 (by decide) (by decide) (fun T26 G26 => ?_)
    have n29 : 0 ≤ w13 29 := by omega
    have hKl : 0 < w13 27 * (w13 31 * w13 31 * w13 32) := by
      rw [c27, c31, s13]; exact Int.mul_pos f1 (Int.mul_pos (Int.mul_pos o1 o1) hSp)
    have hKu : 0 ≤ w13 26 * (w13 31 * w13 31 * w13 32) + w13 30 * w13 30 * (bu : Int) * w13 29 * w13 27 := by
      have h1 : 0 ≤ w13 26 * (w13 31 * w13 31 * w13 32) := by
        rw [c26, c31, s13]; exact zn_nm f2 (zn_nm (zn_nm (by omega) (by omega)) (by omega))
      have h2 : 0 ≤ w13 30 * w13 30 * (bu : Int) * w13 29 * w13 27 := by
        rw [c30, c29, c27]; exact zn_nm (zn_nm (zn_nm (zn_nm o2 o2) (by omega)) (by omega)) (by omega)
      omega
    obtain ⟨Y1, hY1⟩ : ∃ Y1 : Nat, w13 27 * (w13 31 * w13 31 * w13 32) = Y1 := ⟨(w13 27 * (w13 31 * w13 31 * w13 32)).toNat, by omega⟩
    have pb : (2 : Nat) ^ 876 < 2 ^ 2800 := Nat.pow_lt_pow_right (by decide) (by decide)
    have pb7 : (2 : Nat) ^ 877 < 2 ^ 2800 := Nat.pow_lt_pow_right (by decide) (by decide)
    refine zg_shorten 26 27 (X := w13 26 * (w13 31 * w13 31 * w13 32) + w13 30 * w13 30 * (bu : Int) * w13 29 * w13 27) (Y := Y1) G26 (by decide) (by decide) (by decide) (by decide) (by decide) rfl hY1 (by omega) (Nat.lt_trans (zn_alt (e := 876) B1 (zn_pwl B2 (by decide))) pb7) (by rw [hY1, Int.natAbs_natCast] at B3; exact Nat.lt_trans B3 pb) (fun T27 w27 G27 q1 q2 q3 q4 => ?_)
    have R1 := zq_short (F := (zp1 ((bl * ol : Nat) : Int) ((bu * ol : Nat) : Int) ((ou * bl : Nat) : Int) t).1) (W := (zp1 ((bl * ol : Nat) : Int) ((bu * ol : Nat) : Int) ((ou * bl : Nat) : Int) t).2.2.1) hKu (show 0 < Y1 by omega) p2 p1 (by omega) hb' (by
      rw [eW', ← hY1, c26, c27, c29, c30, c31, s13]
      simp only [zp1, Int.natCast_mul]
      exact zq_F (c := 0) hW hI.2.2.2.2.1 f3 o3 hS) q1 q2 q3
    -- O
    have k27 : ∀ d : Nat, 28 ≤ d → d < 33 → w27 d = w13 d := fun d h1 h2 => by
      rw [q4 d (by omega) (by omega) (by omega) (by omega) (by omega) (by omega) (by omega)]
      repeat rw [zj_out (by omega)]
    clear q4 G26 G25 G24 G23 G22 G21 G20 G19 G18 G17 G16 T26 T25 T24 T23 T22 T21 T20 T19 T18 T17 T16
    have j28 := k27 28 (by decide) (by decide)
    have j29 := k27 29 (by decide) (by decide)
    have j30 := k27 30 (by decide) (by decide)
    have j31 := k27 31 (by decide) (by decide)
    have j32 := k27 32 (by decide) (by decide)
    rw [← j28] at d28
    rw [← j29] at d29
    rw [← j30] at d30
    rw [← j31] at d31
    rw [← j32] at d32
    have ob : ((ou : Int) * bl).natAbs ≤ 10000 := zn_mab a6 a4
    have v64 : (x6 * x4).toInt = (ou : Int) * bl := zn_mulA v6 v4 a6 a4 (by decide)
    have l14 : ((ou : Int) * bl).natAbs < 2 ^ 14 := by omega
    refine zg_times 10 30 29 (e := 217) (f := 217) G27 (by decide) (by decide) (by decide) (by decide) (by decide) d30 d29 (by decide) (fun T28 G28 => ?_)
    refine zg_by 10 ((ou : Int) * bl) (e := 434) G28 (by decide) v64 (by omega) (by omega) (zn_mlt d30 d29) (by decide) (fun T29 G29 => ?_)
    refine zg_times 11 31 32 (e := 217) (f := 225) G29 (by decide) (by decide) (by decide) (by decide) (by decide) d31 d32 (by decide) (fun T30 G30 => ?_)
    refine zg_by 11 (ol : Int) (e := 442) G30 (by decide) v8 (by omega) (by omega) (zn_mlt d31 d32) (by decide) (fun T31 G31 => ?_)
    refine zg_copy 30 10 G31 (by decide) (by decide) (fun T32 G32 => ?_)
    refine zg_copy 31 11 G32 (by decide) (by decide) (fun T33 G33 => ?_)
    have B4 : (w27 30 * w27 29 * ((ou : Int) * bl)).natAbs < 2 ^ 448 := zn_mlt (zn_mlt d30 d29) l14
    have B5 : (w27 31 * w27 32 * (ol : Int)).natAbs < 2 ^ 449 := zn_mlt (zn_mlt d31 d32) (l7 a8)
    have hOu : 0 ≤ w27 30 * w27 29 * ((ou : Int) * bl) := by
      rw [j30, j29, c30, c29]; exact zn_nm (zn_nm o2 (by omega)) (zn_nm (by omega) (by omega))
    have hOl : 0 < w27 31 * w27 32 * (ol : Int) := by
      rw [j31, j32, c31, s13]; exact Int.mul_pos (Int.mul_pos o1 hSp) (by omega)
    obtain ⟨Y2, hY2⟩ : ∃ Y2 : Nat, w27 31 * w27 32 * (ol : Int) = Y2 := ⟨(w27 31 * w27 32 * (ol : Int)).toNat, by omega⟩
    have pb8 : (2 : Nat) ^ 448 < 2 ^ 2800 := Nat.pow_lt_pow_right (by decide) (by decide)
    have pb9 : (2 : Nat) ^ 449 < 2 ^ 2800 := Nat.pow_lt_pow_right (by decide) (by decide)
    refine zg_shorten 30 31 (X := w27 30 * w27 29 * ((ou : Int) * bl)) (Y := Y2) G33 (by decide) (by decide) (by decide) (by decide) (by decide) rfl hY2 (by omega) (Nat.lt_trans B4 pb8) (by rw [hY2, Int.natAbs_natCast] at B5; exact Nat.lt_trans B5 pb9) (fun T34 w34 G34 u1 u2 u3 u4 => ?_)
    have R2 := zq_short (F := (zp1 ((bl * ol : Nat) : Int) ((bu * ol : Nat) : Int) ((ou * bl : Nat) : Int) t).2.2.2.2) (W := (zp1 ((bl * ol : Nat) : Int) ((bu * ol : Nat) : Int) ((ou * bl : Nat) : Int) t).2.2.1) hOu (show 0 < Y2 by omega) p4 p1 (by omega) hb' (by
      rw [eW', ← hY2, j29, j30, j31, j32, c29, c30, c31, s13]
      simp only [zp1, Int.natCast_mul]
      exact zq_O (c := 0) hW o3 hS) u1 u2 u3
    -- L
    have k34 : ∀ d : Nat, (26 ≤ d ∧ d < 30) ∨ d = 32 → w34 d = w27 d := fun d h1 => by
      rw [u4 d (by omega) (by omega) (by omega) (by omega) (by omega) (by omega) (by omega)]
      repeat rw [zj_out (by omega)]
    clear u4 G33 G32 G31 G30 G29 G28 T33 T32 T31 T30 T29 T28
    have i28 := k34 28 (by decide)
    have i32 := k34 32 (by decide)
    rw [← i28] at d28
    rw [← i32] at d32
    have w1 : (((x6 * x6) * x4) * x4).toInt = (ou : Int) * ou * bl * bl := zn_mulA (zn_mulA (zn_mulA v6 v6 a6 a6 (by decide)) v4 (zn_mab a6 a6) a4 (by decide)) v4 (zn_mab (zn_mab a6 a6) a4) a4 (by decide)
    have w1b := zn_mab (zn_mab (zn_mab a6 a6) a4) a4
    have w2 : ((x2 * x8) * x8).toInt = (bu : Int) * ol * ol := zn_mulA (zn_mulA v2 v8 a2 a8 (by decide)) v8 (zn_mab a2 a8) a8 (by decide)
    have w2b := zn_mab (zn_mab a2 a8) a8
    have w3 : ((x4 * x8) * x8).toInt = (bl : Int) * ol * ol := zn_mulA (zn_mulA v4 v8 a4 a8 (by decide)) v8 (zn_mab a4 a8) a8 (by decide)
    have w3b := zn_mab (zn_mab a4 a8) a8
    have L1 : ((ou : Int) * ou * bl * bl).natAbs < 2 ^ 27 := by omega
    have L2 : ((bu : Int) * ol * ol).natAbs < 2 ^ 20 := by omega
    have L3 : ((bl : Int) * ol * ol).natAbs < 2 ^ 20 := by omega
    refine zg_copy 10 28 G34 (by decide) (by decide) (fun T35 G35 => ?_)
    refine zg_by 10 ((ou : Int) * ou * bl * bl) (e := 217) G35 (by decide) w1 (by omega) (by omega) d28 (by decide) (fun T36 G36 => ?_)
    refine zg_copy 11 32 G36 (by decide) (by decide) (fun T37 G37 => ?_)
    refine zg_by 11 ((bu : Int) * ol * ol) (e := 225) G37 (by decide) w2 (by omega) (by omega) d32 (by decide) (fun T38 G38 => ?_)
    have B6 : (w34 28 * ((ou : Int) * ou * bl * bl)).natAbs < 2 ^ 245 := zn_pwl (zn_mlt d28 L1) (by decide)
    have B7 : (w34 32 * ((bu : Int) * ol * ol)).natAbs < 2 ^ 245 := zn_mlt d32 L2
    have B8 : (w34 32 * ((bl : Int) * ol * ol)).natAbs < 2 ^ 245 := zn_mlt d32 L3
    refine zg_plus 28 10 11 (e := 245) (f := 245) G38 (by decide) (by decide) (by decide) B6 B7 (by decide) (by decide) (fun T39 G39 => ?_)
    refine zg_copy 29 32 G39 (by decide) (by decide) (fun T40 G40 => ?_)
    refine zg_by 29 ((bl : Int) * ol * ol) (e := 225) G40 (by decide) w3 (by omega) (by omega) d32 (by decide) (fun T41 G41 => ?_)
    have hLu : 0 ≤ w34 28 * ((ou : Int) * ou * bl * bl) + w34 32 * ((bu : Int) * ol * ol) := by
      have h1 : 0 ≤ w34 28 * ((ou : Int) * ou * bl * bl) := by
        rw [i28, j28, c28]; exact zn_nm g2 (zn_nm (zn_nm (zn_nm (by omega) (by omega)) (by omega)) (by omega))
      have h2 : 0 ≤ w34 32 * ((bu : Int) * ol * ol) := by
        rw [i32, j32, s13]; exact zn_nm (by omega) (zn_nm (zn_nm (by omega) (by omega)) (by omega))
      omega
    have hLl : 0 < w34 32 * ((bl : Int) * ol * ol) := by
      rw [i32, j32, s13]; exact Int.mul_pos hSp (Int.mul_pos (Int.mul_pos (by omega) (by omega)) (by omega))
    obtain ⟨Y3, hY3⟩ : ∃ Y3 : Nat, w34 32 * ((bl : Int) * ol * ol) = Y3 := ⟨(w34 32 * ((bl : Int) * ol * ol)).toNat, by omega⟩
    have pc5 : (2 : Nat) ^ 245 < 2 ^ 2800 := Nat.pow_lt_pow_right (by decide) (by decide)
    have pc6 : (2 : Nat) ^ 246 < 2 ^ 2800 := Nat.pow_lt_pow_right (by decide) (by decide)
    refine zg_shorten 28 29 (X := w34 28 * ((ou : Int) * ou * bl * bl) + w34 32 * ((bu : Int) * ol * ol)) (Y := Y3) G41 (by decide) (by decide) (by decide) (by decide) (by decide) rfl hY3 (by omega) (Nat.lt_trans (zn_alt (e := 245) B6 B7) pc6) (by rw [hY3, Int.natAbs_natCast] at B8; exact Nat.lt_trans B8 pc5) (fun T42 w42 G42 y1 y2 y3 y4 => ?_)
    have R3 := zq_short (F := (zp1 ((bl * ol : Nat) : Int) ((bu * ol : Nat) : Int) ((ou * bl : Nat) : Int) t).2.2.2.1) (W := (zp1 ((bl * ol : Nat) : Int) ((bu * ol : Nat) : Int) ((ou * bl : Nat) : Int) t).2.2.1) hLu (show 0 < Y3 by omega) p3 p1 (by omega) hb' (by
      rw [eW', ← hY3, i28, i32, j28, j32, c28, s13]
      simp only [zp1, Int.natCast_mul]
      exact zq_L hW g3 hS) y1 y2 y3
    have k42 : ∀ d : Nat, d = 26 ∨ d = 27 ∨ d = 30 ∨ d = 31 → w42 d = w34 d := fun d h1 => by
      rw [y4 d (by omega) (by omega) (by omega) (by omega) (by omega) (by omega) (by omega)]
      repeat rw [zj_out (by omega)]
    refine K T42 w42 G42 ?_ R3 ?_
    · exact zQp_k (w := w27) R1 (by rw [k42 26 (by decide), k34 26 (by decide)]) (by rw [k42 27 (by decide), k34 27 (by decide)])
    · exact zQp_k (w := w34) R2 (k42 30 (by decide)) (k42 31 (by decide))
  · have hS0 : S = 0 := zsg_0.mp q
    have hNz : (bl : Int) * t.2.2.1 - bu * t.2.2.2.1 = 0 := by
      rw [hS0, Int.mul_zero] at hS
      rcases Int.mul_eq_zero.mp hS.symm with z | z
      · omega
      · exact z
    have hz0 : t.2.2.1 * ((bl * ol : Nat) : Int) + t.2.2.2.1 * (-((bu * ol : Nat) : Int)) = 0 := by rw [z1, hNz, Int.mul_zero]
    have ez : zp2 bu bl ou ol t = t := by unfold zp2; rw [if_pos hz0]
    rw [ez] at K
    obtain ⟨h1, h2, h3, h4, h5, h6, h7⟩ := hI
    -- L is W, bu is bl, O is 0
    have e1 : (bu : Int) * t.2.2.2.1 = bl * t.2.2.1 := by omega
    have e2 : (bu : Int) * t.2.2.2.1 ≤ bu * t.2.2.1 := Int.mul_le_mul_of_nonneg_left (by omega) (by omega)
    have e3 : (bl : Int) * t.2.2.1 ≤ bu * t.2.2.1 := by omega
    have e4' : (bl : Int) ≤ bu := Int.le_of_mul_le_mul_right e3 h1
    have ebb : bu = bl := by omega
    subst ebb
    have e5' : t.2.2.2.1 = t.2.2.1 := zn_can (W := (bu : Int)) (by omega) e1
    have e6' : t.2.2.2.2 = 0 := by omega
    refine zg_set 28 (bu : Int) G13' (by decide) v2 (by omega) (by omega) (fun T43 G43 => ?_)
    refine zg_set 29 (bu : Int) G43 (by decide) v4 (by omega) (by omega) (fun T44 G44 => ?_)
    refine zg_set 30 0 G44 (by decide) (by decide) (by decide) (by decide) (fun T45 G45 => ?_)
    refine zg_set 31 1 G45 (by decide) (by decide) (by decide) (by decide) (fun T46 G46 => ?_)
    have p216 : (100 : Nat) ≤ 2 ^ 216 := by decide
    refine K T46 _ G46 ?_ ?_ ?_
    · exact zQp_k (w := w) ⟨f1, f2, f3, f4, f5⟩ (by rw [← k13 26 (by decide) (by decide)]; rfl) (by rw [← k13 27 (by decide) (by decide)]; rfl)
    · refine ⟨(show (0 : Int) < bu by omega), (show (0 : Int) ≤ bu by omega), ?_, (show ((bu : Int)).natAbs ≤ 2 ^ 216 by omega), (show ((bu : Int)).natAbs ≤ 2 ^ 216 by omega)⟩
      show (bu : Int) * t.2.2.1 = t.2.2.2.1 * bu
      rw [e5', Int.mul_comm]
    · refine ⟨(show (0 : Int) < 1 by decide), (show (0 : Int) ≤ 0 by decide), ?_, (show (1 : Int).natAbs ≤ 2 ^ 216 by decide), (show (0 : Int).natAbs ≤ 2 ^ 216 by decide)⟩
      show (0 : Int) * t.2.2.1 = t.2.2.2.2 * 1
      rw [e6']; simp
theorem zg_shares {M0 M : zMem} {w : Nat → Int} {n : Nat} {bu bl ou ol : Nat → Nat} {post : zMem → Prop} (hG : zG M0 M w) (hn : n ≤ 8) (hR : zRp M0 n bu bl ou ol) (hs : ∀ i : Nat, i < n → zSh (bu i) (bl i) (ou i) (ol i)) (K : ∀ (M' : zMem) (w' : Nat → Int), zG M0 M' w' → zQp w' 26 27 (zPs bu bl ou ol n).1 (zPs bu bl ou ol n).2.2.1 → zQp w' 28 29 (zPs bu bl ou ol n).2.2.2.1 (zPs bu bl ou ol n).2.2.1 → zQp w' 30 31 (zPs bu bl ou ol n).2.2.2.2 (zPs bu bl ou ol n).2.2.1 → post M') : zw_X6_shares M post := by
  obtain ⟨r14, ri⟩ := hR
  refine zg_set 26 0 hG (by decide) (by decide) (by decide) (by decide) (fun T1 G1 => ?_)
  refine zg_set 27 1 G1 (by decide) (by decide) (by decide) (by decide) (fun T2 G2 => ?_)
  refine zg_set 28 0 G2 (by decide) (by decide) (by decide) (by decide) (fun T3 G3 => ?_)
  refine zg_set 29 1 G3 (by decide) (by decide) (by decide) (by decide) (fun T4 G4 => ?_)
  refine zg_set 30 1 G4 (by decide) (by decide) (by decide) (by decide) (fun T5 G5 => ?_)
  refine zg_set 31 1 G5 (by decide) (by decide) (by decide) (by decide) (fun T6 G6 => ?_)
  have L : ∀ (d i : Nat) (M1 : zMem) (w1 : Nat → Int), i + d = n → zG M0 M1 w1 → zQp w1 26 27 (zPs bu bl ou ol i).1 (zPs bu bl ou ol i).2.2.1 → zQp w1 28 29 (zPs bu bl ou ol i).2.2.2.1 (zPs bu bl ou ol i).2.2.1 → zQp w1 30 31 (zPs bu bl ou ol i).2.2.2.2 (zPs bu bl ou ol i).2.2.1 → zw_X6_shares_44 (fun T => post T) (d + 1) (nI i) M1 := by
    intro d
    induction d with
    | zero =>
      intro i M1 w1 hi h1 h2 h3 h4
      have e : i = n := by omega
      subst e
      unfold zw_X6_shares_44
      rw [h1.1 14 (by decide) (by decide) (by decide), r14]
      exact And.intro (fun _ => K M1 w1 h1 h2 h3 h4) (fun q => absurd (nI_le (Nat.le_refl _) (by omega)) q)
    | succ d ih =>
      intro i M1 w1 hi h1 h2 h3 h4
      unfold zw_X6_shares_44
      rw [h1.1 14 (by decide) (by decide) (by decide), r14]
      refine And.intro (fun q => absurd q (nI_ge (by omega) (by omega))) (fun _ => ?_)
      obtain ⟨a1, a2, a3, a4⟩ := ri i (by omega)
      have b1 := (zPs_i hs i (by omega)).1
      have b2 := zPs_i hs (i + 1) (by omega)
      have b3 : (zPs bu bl ou ol (i + 1)).2.2.1.natAbs ≤ 2 ^ 216 := zn_216 (i := i + 1) (by omega) (by have := b2.1.1; have := b2.2; omega)
      refine zg_paneOn h1 (by omega) a1 a2 a3 a4 (hs i (by omega)) b1 b3 h2 h3 h4 (fun M2 w2 c1 c2 c3 c4 => ?_)
      intro x ex
      rw [ex, nI_1]
      exact ih (i + 1) M2 w2 (by omega) c1 c2 c3 c4
  refine ⟨_, L n 0 T6 _ (by omega) G6 ?_ ?_ ?_⟩
  · exact ⟨(show (0 : Int) < 1 by decide), (show (0 : Int) ≤ 0 by decide), (show (0 : Int) * 1 = 0 * 1 by decide), (show (1 : Int).natAbs ≤ 2 ^ 216 by decide), (show (0 : Int).natAbs ≤ 2 ^ 216 by decide)⟩
  · exact ⟨(show (0 : Int) < 1 by decide), (show (0 : Int) ≤ 0 by decide), (show (0 : Int) * 1 = 0 * 1 by decide), (show (1 : Int).natAbs ≤ 2 ^ 216 by decide), (show (0 : Int).natAbs ≤ 2 ^ 216 by decide)⟩
  · exact ⟨(show (0 : Int) < 1 by decide), (show (0 : Int) ≤ 1 by decide), (show (1 : Int) * 1 = 1 * 1 by decide), (show (1 : Int).natAbs ≤ 2 ^ 216 by decide), (show (1 : Int).natAbs ≤ 2 ^ 216 by decide)⟩
