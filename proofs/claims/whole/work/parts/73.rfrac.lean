/-! Fraction, in whole numbers -/
theorem zs_in {M : zMem} {i : Nat} {r : zRow} : zset M i r i = r := by
  unfold zset; rw [show Nat.beq i i = true from Nat.beq_refl i]; rfl
theorem zs_out {M : zMem} {i j : Nat} {r : zRow} (h : Nat.beq j i = false) : zset M i r j = M j := by
  unfold zset; rw [h]; rfl
theorem zr_restOfOne {F : zMem} {U V : Int} {post : zMem → Prop} (h0 : zL 16 (F 0) U) (h1 : zL 16 (F 1) V) (k : ∀ r : zRow, zL 16 r (V - U) → post (zset F 0 r)) : zw_X0_toRestOfOne F post := by
  refine zr_scale (by decide) h0 (F := -1) (by decide) (by decide) (by decide) (fun r1 g1 => ?_)
  refine zr_gain (by decide) g1 h1 (F := 1) (by decide) (by decide) (by decide) (fun r2 g2 => ?_)
  rw [show U * -1 + V * 1 = V - U from by omega] at g2
  exact k r2 g2
theorem zr_becomeLikeF {F O : zMem} {U V : Int} {post : zMem → Prop} (h0 : zL 16 (O 0) U) (h1 : zL 16 (O 1) V) (k : ∀ r r' : zRow, zL 16 r U → zL 16 r' V → post (zset (zset F 0 r) 1 r')) : zw_X0_becomeLike F O post := by
  refine zr_put (by decide) (by decide) h0 (Or.inl (by decide)) (fun r1 g1 => ?_)
  refine zr_put (by decide) (by decide) h1 (Or.inl (by decide)) (fun r2 g2 => ?_)
  exact k r1 r2 g1 g2
theorem zn_pw {a b : Nat} (h : a ≤ b) : (2 : Int) ^ a ≤ 2 ^ b := by
  obtain ⟨c, rfl⟩ : ∃ c, b = a + c := ⟨b - a, by omega⟩
  have p := zn_ppos a
  have q := zn_ppos c
  rw [zn_pow]
  have := Int.mul_le_mul_of_nonneg_left (show (1 : Int) ≤ 2 ^ c by omega) (Int.le_of_lt p)
  omega
theorem zD_of {X : Int} {n e : Nat} (h0 : 0 ≤ X) (h1 : X < 2 ^ e) (he : e ≤ 30 * n) : zD X n = 0 := zD_small h0 (Int.lt_of_lt_of_le h1 (zn_pw he))
theorem zn_mulb {a b : Int} {m n : Nat} (ha : 0 ≤ a) (ha2 : a < 2 ^ m) (hb : 0 ≤ b) (hb2 : b < 2 ^ n) : a * b < 2 ^ (m + n) := by
  rw [zn_pow]
  have p := zn_ppos m
  have h1 : a * b ≤ a * 2 ^ n := Int.mul_le_mul_of_nonneg_left (Int.le_of_lt hb2) ha
  have h2 : a * 2 ^ n < 2 ^ m * 2 ^ n := Int.mul_lt_mul_of_pos_right ha2 (zn_ppos n)
  omega
theorem zr_compareWith {F O : zMem} {U V A B : Int} {post : Int32 → zMem → Prop} (h0 : zL 16 (F 0) U) (h1 : zL 16 (F 1) V) (g0 : zL 16 (O 0) A) (g1 : zL 16 (O 1) B) (hU : 0 ≤ U) (hU2 : U < 2 ^ 480) (hV : 0 ≤ V) (hV2 : V < 2 ^ 480) (hA : 0 ≤ A) (hA2 : A < 2 ^ 480) (hB : 0 ≤ B) (hB2 : B < 2 ^ 480) (k : ∀ r r' : zRow, post (zsg (U * B - A * V)) (zset (zset F 2 r) 3 r')) : zw_X0_compareWith F O post := by
  refine zr_multiply (by decide) (by decide) (by decide) h0 g1 (zD_of hU hU2 (by decide)) (zD_of hB hB2 (by decide)) (by decide) (fun r1 e1 => ?_)
  refine zr_multiply (by decide) (by decide) (by decide) g0 h1 (zD_of hA hA2 (by decide)) (zD_of hV hV2 (by decide)) (by decide) (fun r2 e2 => ?_)
  refine zr_compare (t := 32) (by decide) (by decide) (by decide) (by decide) e1 e2 (zD_of (Int.mul_nonneg hU hB) (zn_mulb hU hU2 hB hB2) (by decide)) (zD_of (Int.mul_nonneg hA hV) (zn_mulb hA hA2 hV hV2) (by decide)) ?_
  exact k r1 r2
theorem zn_low {U V s U1 V1 a P b Q : Nat} (hU : U = 2 ^ s * U1) (hV : V = 2 ^ s * V1) (hP : U1 = 2 ^ a * P) (hQ : V1 = 2 ^ b * Q) (oP : P % 2 = 1) (oQ : Q % 2 = 1) (ho : U1 % 2 = 1 ∨ V1 % 2 = 1) : U1 / Nat.gcd P Q = U / Nat.gcd U V ∧ V1 / Nat.gcd P Q = V / Nat.gcd U V ∧ Nat.gcd P Q ∣ U1 ∧ Nat.gcd P Q ∣ V1 := by
  have e : Nat.gcd P Q = Nat.gcd U1 V1 := by
    rcases ho with h | h
    · rw [hQ, Nat.Coprime.gcd_mul_left_cancel_right Q (zn_cop h b), hP, Nat.Coprime.gcd_mul_left_cancel P (zn_cop oQ a)]
    · rw [hP, Nat.Coprime.gcd_mul_left_cancel P (zn_cop h a), hQ, Nat.Coprime.gcd_mul_left_cancel_right Q (zn_cop oP b)]
  rw [e, hU, hV, Nat.gcd_mul_left, Nat.mul_div_mul_left _ _ (Nat.two_pow_pos s), Nat.mul_div_mul_left _ _ (Nat.two_pow_pos s)]
  exact ⟨rfl, rfl, Nat.gcd_dvd_left _ _, Nat.gcd_dvd_right _ _⟩
theorem zn_toN {X s : Nat} {m : Int} (h : (X : Int) = 2 ^ s * (2 * m + 1)) (hm : 0 ≤ m) : ∃ P : Nat, P % 2 = 1 ∧ X = 2 ^ s * P := by
  obtain ⟨m', rfl⟩ : ∃ m' : Nat, m = m' := ⟨m.toNat, by omega⟩
  refine ⟨2 * m' + 1, by omega, ?_⟩
  have : (X : Int) = ((2 ^ s * (2 * m' + 1) : Nat) : Int) := by rw [h]; push_cast; rfl
  exact_mod_cast this
theorem zn_min (a b : Nat) (ha : a < 2147483648) (hb : b < 2147483648) : (if nI b < nI a then nI b else nI a) = nI (if b < a then b else a) := by
  by_cases q : b < a
  · rw [if_pos q, if_pos ((nI_ltI (by omega) (by omega)).mpr q)]
  · rw [if_neg q, if_neg (fun w => q ((nI_ltI (by omega) (by omega)).mp w))]
theorem zn_divp (X s : Nat) : (X : Int) / 2 ^ s = ((X / 2 ^ s : Nat) : Int) := by push_cast; rfl
theorem zr_lowest {F : zMem} {U V : Nat} {post : zMem → Prop} (h0 : zL 16 (F 0) U) (h1 : zL 16 (F 1) V) (hU : U < 2 ^ 479) (hV : V < 2 ^ 479) (hV0 : 0 < V) (k : ∀ F' : zMem, zL 16 (F' 0) ((U / Nat.gcd U V : Nat) : Int) → zL 16 (F' 1) ((V / Nat.gcd U V : Nat) : Int) → post F') : zw_X0_toLowestTerms F post := by
  have hUI : (U : Int) < 2 ^ 479 := by exact_mod_cast hU
  have hVI : (V : Int) < 2 ^ 479 := by exact_mod_cast hV
  have hz0 : zD U 16 = 0 := zD_of (by omega) hUI (by decide)
  have hz1 : zD V 16 = 0 := zD_of (by omega) hVI (by decide)
  refine zr_signOf (by decide) h0 (zR_of (by decide) (by have := zn_ppos (30 * 15); omega) (by rw [show (536870912 : Int) * 2 ^ (30 * (16 - 1)) = 2 ^ 479 from by decide]; exact hUI)) ?_
  rcases Nat.eq_zero_or_pos U with q | q
  · subst q
    rw [zsg_zero (by rfl)]
    refine And.intro (fun c => absurd rfl c) (fun _ => ?_)
    refine zr_set (by decide) (by decide) (by decide) (fun r g => ?_)
    rw [Nat.gcd_zero_left, Nat.zero_div, Nat.div_self hV0] at k
    refine k _ (by rw [zs_out rfl]; exact h0) (by rw [zs_in]; exact g)
  · rw [zsg_pos (by omega)]
    refine And.intro (fun _ => ?_) (fun c => absurd c (by decide))
    refine zr_twosOf (t := 16) (by decide) (by decide) h0 hz0 (by omega) (fun s1 m1 b1 p1 e1 => ?_)
    refine zr_twosOf (t := 16) (by decide) (by decide) h1 hz1 (by omega) (fun s2 m2 b2 p2 e2 => ?_)
    intro x ex
    rw [zn_min s1 s2 (by omega) (by omega)] at ex
    obtain ⟨P1, o1, e1⟩ := zn_toN e1 p1
    obtain ⟨P2, o2, e2⟩ := zn_toN e2 p2
    obtain ⟨s, hs⟩ : ∃ s, (if s2 < s1 then s2 else s1) = s := ⟨_, rfl⟩
    rw [hs] at ex
    subst ex
    have hs1 : s ≤ s1 := by split at hs <;> omega
    have hs2 : s ≤ s2 := by split at hs <;> omega
    have f1 : U = 2 ^ s * (2 ^ (s1 - s) * P1) := by rw [← Nat.mul_assoc, ← Nat.pow_add, show s + (s1 - s) = s1 from by omega]; exact e1
    have f2 : V = 2 ^ s * (2 ^ (s2 - s) * P2) := by rw [← Nat.mul_assoc, ← Nat.pow_add, show s + (s2 - s) = s2 from by omega]; exact e2
    obtain ⟨U1, hU1⟩ : ∃ U1, 2 ^ (s1 - s) * P1 = U1 := ⟨_, rfl⟩
    obtain ⟨V1, hV1⟩ : ∃ V1, 2 ^ (s2 - s) * P2 = V1 := ⟨_, rfl⟩
    have ho : U1 % 2 = 1 ∨ V1 % 2 = 1 := by
      split at hs
      · right; rw [← hV1, show s2 - s = 0 from by omega]; simpa using o2
      · left; rw [← hU1, show s1 - s = 0 from by omega]; simpa using o1
    rw [hU1] at f1
    rw [hV1] at f2
    have d1 : (U : Int) / 2 ^ s = (U1 : Int) := by rw [zn_divp, f1, Nat.mul_div_cancel_left _ (Nat.two_pow_pos s)]
    have d2 : (V : Int) / 2 ^ s = (V1 : Int) := by rw [zn_divp, f2, Nat.mul_div_cancel_left _ (Nat.two_pow_pos s)]
    have l1 : U1 ≤ U := by rw [f1]; exact Nat.le_mul_of_pos_left _ (Nat.two_pow_pos s)
    have l2 : V1 ≤ V := by rw [f2]; exact Nat.le_mul_of_pos_left _ (Nat.two_pow_pos s)
    have n1 : 0 < U1 := by
      rcases Nat.eq_zero_or_pos U1 with w | w
      · rw [w, Nat.mul_zero] at f1
        omega
      · exact w
    have n2 : 0 < V1 := by
      rcases Nat.eq_zero_or_pos V1 with w | w
      · rw [w, Nat.mul_zero] at f2
        omega
      · exact w
    refine zr_shiftDown (t := 16) (by decide) (by decide) (by omega) h0 hz0 (fun r6 g6 _ => ?_)
    refine zr_shiftDown (t := 16) (by decide) (by decide) (by omega) h1 hz1 (fun r7 g7 _ => ?_)
    rw [d1] at g6
    rw [d2] at g7
    have z6 : zD U1 16 = 0 := zD_le hz0 (by omega) (by omega)
    have z7 : zD V1 16 = 0 := zD_le hz1 (by omega) (by omega)
    refine zr_put (by decide) (by decide) g6 (Or.inr z6) (fun r8 g8 => ?_)
    refine zr_put (by decide) (by decide) g7 (Or.inr z7) (fun r9 g9 => ?_)
    have z8 : zD U1 32 = 0 := zD_up z6 32 (by decide)
    have z9 : zD V1 32 = 0 := zD_up z7 32 (by decide)
    refine zr_twosOf (t := 32) (by decide) (by decide) g8 z8 (by omega) (fun a m3 b3 p3 e3 => ?_)
    obtain ⟨P, oP, e3⟩ := zn_toN e3 p3
    refine zr_shiftDown (t := 32) (by decide) (by decide) (by omega) g8 z8 (fun r11 g11 _ => ?_)
    rw [zn_divp, e3, Nat.mul_div_cancel_left _ (Nat.two_pow_pos a)] at g11
    refine zr_twosOf (t := 32) (by decide) (by decide) g9 z9 (by omega) (fun b m4 b4 p4 e4 => ?_)
    obtain ⟨Q, oQ, e4⟩ := zn_toN e4 p4
    refine zr_shiftDown (t := 32) (by decide) (by decide) (by omega) g9 z9 (fun r13 g13 _ => ?_)
    rw [zn_divp, e4, Nat.mul_div_cancel_left _ (Nat.two_pow_pos b)] at g13
    have lP : P ≤ U1 := by rw [e3]; exact Nat.le_mul_of_pos_left _ (Nat.two_pow_pos a)
    have lQ : Q ≤ V1 := by rw [e4]; exact Nat.le_mul_of_pos_left _ (Nat.two_pow_pos b)
    have zP : zD P 32 = 0 := zD_le z8 (by omega) (by omega)
    have zQ : zD Q 32 = 0 := zD_le z9 (by omega) (by omega)
    have hPQ : P * Q < 2 ^ (60 * 32) := by
      have w1 : P * Q ≤ 2 ^ 479 * 2 ^ 479 := Nat.mul_le_mul (by omega) (by omega)
      have w2 : (2 : Nat) ^ 479 * 2 ^ 479 < 2 ^ (60 * 32) := by rw [← Nat.pow_add]; exact Nat.pow_lt_pow_right (by decide) (by decide)
      omega
    refine zr_meet (by decide) (by decide) g11 g13 zP zQ oP oQ hPQ (fun a' b' ga => ?_)
    obtain ⟨c1, c2, c3, c4⟩ := zn_low f1 f2 e3 e4 oP oQ ho
    have hg0 : 0 < Nat.gcd P Q := Nat.gcd_pos_of_pos_left _ (by omega)
    have hgl : Nat.gcd P Q ≤ P := Nat.gcd_le_left _ (by omega)
    have zG : zD ((Nat.gcd P Q : Nat) : Int) 32 = 0 := zD_le zP (by omega) (by omega)
    have oG : ((Nat.gcd P Q : Nat) : Int) % 2 = 1 := by
      have w : Nat.gcd P Q % 2 = 1 := by
        rcases Nat.mod_two_eq_zero_or_one (Nat.gcd P Q) with w | w
        · exfalso
          have w1 : 2 ∣ Nat.gcd P Q := Nat.dvd_of_mod_eq_zero w
          have w2 := Nat.dvd_trans w1 (Nat.gcd_dvd_left P Q)
          omega
        · exact w
      omega
    refine zr_divideExactly (by decide) (by decide) (by decide) g6 ga zG oG (Q := ((U1 / Nat.gcd P Q : Nat) : Int)) ?_ (fun r16 g16 => ?_)
    · rw [← Int.natCast_mul, Nat.mul_div_cancel' c3]
    refine zr_divideExactly (by decide) (by decide) (by decide) g7 ga zG oG (Q := ((V1 / Nat.gcd P Q : Nat) : Int)) ?_ (fun r17 g17 => ?_)
    · rw [← Int.natCast_mul, Nat.mul_div_cancel' c4]
    rw [c1] at g16
    rw [c2] at g17
    refine k _ ?_ ?_
    · rw [zs_out rfl, zs_out rfl, zs_out rfl, zs_in]; exact g16
    · rw [zs_out rfl, zs_out rfl, zs_in]; exact g17
/-- part k of X: its bits from 30 k on -/
def zpart (X : Nat) (k : Nat) : Int32 := nI (X / 2 ^ (30 * k) % 1073741824)
theorem zr_part {F : zMem} {b : Int32} {k : Nat} {U V : Nat} {post : Int32 → Prop} (h0 : zL 16 (F 0) U) (h1 : zL 16 (F 1) V) (hU : U < 2 ^ 480) (hV : V < 2 ^ 480) (hk : k < 40) (K : post (if b = 0 then zpart U k else zpart V k)) : zw_X0_part F b (nI k) post := by
  have key : ∀ {r : zRow} {X : Nat}, zL 16 r X → X < 2 ^ 480 → post (zpart X k) → ((nI k < 0 → post (0 : Int32) ) ∧ (¬ nI k < 0 → (((16 : Int32) ≤ nI k → post (0 : Int32) ) ∧ (¬ (16 : Int32) ≤ nI k → (vp_in (nI k) 16 ∧ post (r (Int32.toNatClampNeg (nI k))) ))))) := by
    intro r X hr hX K
    refine And.intro (fun c => absurd c (nI_pos (by omega))) (fun _ => And.intro (fun c => ?_) (fun c => ?_))
    · have c2 : 16 ≤ k := (nI_leI (by omega) (by omega)).mp c
      have hz : zD X 16 = 0 := zD_of (e := 480) (by omega) (by exact_mod_cast hX) (by decide)
      have e : zpart X k = 0 := by
        have w : X / 2 ^ (30 * k) = 0 := by
          have w2 := zD_up hz k c2
          unfold zD at w2
          rw [zn_divp] at w2
          exact_mod_cast w2
        unfold zpart
        rw [w]; rfl
      rw [e] at K; exact K
    · have c2 : ¬ 16 ≤ k := fun q => c ((nI_leI (a := 16) (by omega) (by omega)).mpr q)
      refine And.intro (vp_in_nI (by omega) (by omega)) ?_
      rw [nI_clamp (by omega)]
      have e : r k = zpart X k := by
        refine zn_ofI ?_
        rw [hr k (by omega)]
        unfold zD
        rw [zn_divp]
        generalize X / 2 ^ (30 * k) = y
        omega
      rw [e]; exact K
  by_cases q : b = 0
  · rw [if_pos q] at K
    exact And.intro (fun _ => key h0 hU K) (fun c => absurd q c)
  · rw [if_neg q] at K
    exact And.intro (fun c => absurd c q) (fun _ => key h1 hV K)
