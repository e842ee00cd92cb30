/-! the reference's division -/
theorem zn_orJ {a b k : Nat} (h : a < 2 ^ k) : nI (2 ^ k * b) ||| nI a = nI (2 ^ k * b + a) := by
  apply Int32.toBitVec_inj.mp
  apply BitVec.eq_of_getLsbD_eq
  intro j hj
  rw [Int32.toBitVec_or, BitVec.getLsbD_or]
  show ((BitVec.ofNat 32 _).getLsbD j || (BitVec.ofNat 32 _).getLsbD j) = (BitVec.ofNat 32 _).getLsbD j
  rw [BitVec.getLsbD_ofNat, BitVec.getLsbD_ofNat, BitVec.getLsbD_ofNat, decide_eq_true hj, Bool.true_and, Bool.true_and, Bool.true_and, Nat.two_pow_add_eq_or_of_lt h, Nat.testBit_or]
theorem zn_mulpow (m s J : Nat) : zE (m * 2 ^ (15 * J + s)) J = m * 2 ^ s := by
  unfold zE
  rw [Nat.pow_add, Nat.mul_comm (2 ^ (15 * J)), ← Nat.mul_assoc, Nat.mul_div_cancel _ (Nat.two_pow_pos _)]
theorem zn_qb (q k : Nat) : (∀ j : Nat, j ≠ k / 15 → zE ((2 * q + 1) * 2 ^ k) j % 32768 = zE (2 * q * 2 ^ k) j % 32768) ∧ ∃ u : Nat, zE (2 * q * 2 ^ k) (k / 15) % 32768 = 2 ^ (k % 15 + 1) * u ∧ zE ((2 * q + 1) * 2 ^ k) (k / 15) % 32768 = 2 ^ (k % 15 + 1) * u + 2 ^ (k % 15) := by
  obtain ⟨s, hs⟩ : ∃ s, k % 15 = s := ⟨_, rfl⟩
  obtain ⟨J, hJ⟩ : ∃ J, k / 15 = J := ⟨_, rfl⟩
  have ek : k = 15 * J + s := by omega
  have hs15 : s < 15 := by omega
  rw [hs, hJ, ek]
  have p15 : (32768 : Nat) = 2 ^ (s + 1) * 2 ^ (14 - s) := by rw [← Nat.pow_add, show s + 1 + (14 - s) = 15 from by omega]
  have e1 : 2 * q * 2 ^ s = 2 ^ (s + 1) * q := by rw [Nat.pow_succ, Nat.mul_comm 2 q, Nat.mul_assoc, Nat.mul_comm q, Nat.mul_comm 2]
  have e2 : (2 * q + 1) * 2 ^ s = 2 ^ (s + 1) * q + 2 ^ s := by rw [Nat.add_mul, e1, Nat.one_mul]
  refine ⟨fun j hj => ?_, q % 2 ^ (14 - s), ?_, ?_⟩
  · rcases Nat.lt_or_ge j J with w | w
    · have z : ∀ m : Nat, zE (m * 2 ^ (15 * J + s)) j % 32768 = 0 := fun m => by
        rw [show 15 * J + s = 15 * j + (15 * (J - j - 1) + s + 15) from by omega, zn_mulpow, Nat.pow_add 2 _ 15, ← Nat.mul_assoc]
        exact Nat.mul_mod_left _ _
      rw [z, z]
    · obtain ⟨i, hi⟩ : ∃ i, j = J + (1 + i) := ⟨j - J - 1, by omega⟩
      have z : ∀ m : Nat, zE (m * 2 ^ (15 * J + s)) (J + (1 + i)) = zE (zE (m * 2 ^ s) 1) i := fun m => by rw [zE_add, zn_mulpow, zE_add]
      rw [hi, z, z]
      have e3 : zE ((2 * q + 1) * 2 ^ s) 1 = zE (2 * q * 2 ^ s) 1 := by
        have p15' : (2 : Nat) ^ (15 * 1) = 2 ^ s * (2 * 2 ^ (14 - s)) := by
          rw [show (2 : Nat) * 2 ^ (14 - s) = 2 ^ (14 - s + 1) from by rw [Nat.pow_succ, Nat.mul_comm], ← Nat.pow_add, show s + (14 - s + 1) = 15 * 1 from by omega]
        unfold zE
        rw [p15', Nat.mul_comm (2 * q + 1), Nat.mul_comm (2 * q), Nat.mul_div_mul_left _ _ (Nat.two_pow_pos s), Nat.mul_div_mul_left _ _ (Nat.two_pow_pos s), ← Nat.div_div_eq_div_mul, ← Nat.div_div_eq_div_mul, show (2 * q + 1) / 2 = q from by omega, show 2 * q / 2 = q from by omega]
      rw [e3]
  · rw [zn_mulpow, e1, p15, Nat.mul_mod_mul_left]
  · rw [zn_mulpow, e2]
    have e3 : 2 ^ (s + 1) * q % 32768 = 2 ^ (s + 1) * (q % 2 ^ (14 - s)) := by rw [p15, Nat.mul_mod_mul_left]
    have e4 : 2 ^ (s + 1) * (q % 2 ^ (14 - s)) + 2 ^ s < 32768 := by
      have a1 : q % 2 ^ (14 - s) + 1 ≤ 2 ^ (14 - s) := Nat.mod_lt _ (Nat.two_pow_pos _)
      have a2 := Nat.mul_le_mul_left (2 ^ (s + 1)) a1
      rw [← p15, Nat.mul_add, Nat.mul_one] at a2
      have a3 : (2 : Nat) ^ s < 2 ^ (s + 1) := Nat.pow_lt_pow_right (by decide) (by omega)
      omega
    rw [← e3] at e4 ⊢
    generalize 2 ^ (s + 1) * q = A at *
    generalize 2 ^ s = B at *
    omega
theorem zn_bit {X k : Nat} : zE X (k / 15) % 32768 / 2 ^ (k % 15) % 2 = X / 2 ^ k % 2 := by
  obtain ⟨s, hs⟩ : ∃ s, k % 15 = s := ⟨_, rfl⟩
  obtain ⟨J, hJ⟩ : ∃ J, k / 15 = J := ⟨_, rfl⟩
  have ek : k = 15 * J + s := by omega
  have hs15 : s < 15 := by omega
  rw [hs, hJ, ek, Nat.pow_add, ← Nat.div_div_eq_div_mul]
  show X / 2 ^ (15 * J) % 32768 / 2 ^ s % 2 = _
  generalize X / 2 ^ (15 * J) = y
  rw [show (32768 : Nat) = 2 ^ s * 2 ^ (15 - s) from by rw [← Nat.pow_add, show s + (15 - s) = 15 from by omega], Nat.mod_mul_right_div_self, Nat.mod_mod_of_dvd _ ⟨2 ^ (14 - s), by rw [show 15 - s = 14 - s + 1 from by omega, Nat.pow_succ, Nat.mul_comm]⟩]
theorem zn_s5 : ∀ s, s < 15 → ((nI s &&& 31).toBitVec.smod 32).toNat = s := by decide +kernel
theorem zn_sl1 : ∀ s, s < 15 → (1 : Int32) <<< (nI s &&& 31) = nI (2 ^ s) := by decide +kernel
/-- one more bit at the end of a number above 0 -/
theorem zr_or1 {M : zMem} {c : Nat} {R : Nat} (hc : c < 60) (hR : 0 < R) (h : zN M c ((2 * R : Nat) : Int)) : zO c M (zset M 19 (upd (M 19) (200 * c) (M 19 (200 * c) ||| (1 : Int32)))) ∧ zN (zset M 19 (upd (M 19) (200 * c) (M 19 (200 * c) ||| (1 : Int32)))) c ((2 * R + 1 : Nat) : Int) := by
  refine ⟨zO_19 (k := 0) (by decide), ?_⟩
  obtain ⟨n, h1, h2, h3, h4, h5, h6⟩ := h
  rw [Int.natAbs_natCast] at h4 h5 h6
  have hn0 : n ≠ 0 := fun q => by subst q; rw [zE_0] at h5; omega
  have ed : ∀ k : Nat, 1 ≤ k → zE (2 * R + 1) k = zE (2 * R) k := fun k hk => by
    obtain ⟨j, rfl⟩ : ∃ j, k = 1 + j := ⟨k - 1, by omega⟩
    rw [zE_add, zE_add, zE_succ, zE_succ, zE_0, zE_0]
    congr 1; omega
  refine ⟨n, h1, by rw [zs_out rfl]; exact h2, ?_, fun k hk => ?_, ?_, Or.inr ?_⟩
  · rw [zs_out rfl, h3, zsg_pos (by omega), zsg_pos (by omega)]
  · rw [zs_in, Int.natAbs_natCast]
    rcases Nat.eq_zero_or_pos k with q | q
    · subst q
      rw [Nat.add_zero, pk_us, zE_0]
      have := h4 0 hk
      rw [Nat.add_zero, zE_0] at this
      rw [this, show 2 * R % 32768 = 2 ^ 1 * (2 * R % 32768 / 2) from by omega, show (1 : Int32) = nI 1 from rfl, zn_orJ (by decide)]
      congr 1; omega
    · rw [pk_un (by omega), ed k q]; exact h4 k hk
  · rw [Int.natAbs_natCast, ed n (by omega)]; exact h5
  · rw [Int.natAbs_natCast]
    rcases h6 with z | z
    · exact absurd z hn0
    · rcases Nat.eq_zero_or_pos (n - 1) with q | q
      · rw [q, zE_0]; omega
      · rw [ed _ q]; exact z
/-- all registers but 22 and 23 -/
def zP (M0 M : zMem) (v : Nat → Int) : Prop := (∀ i : Nat, i ≠ 19 → i ≠ 20 → i ≠ 21 → M i = M0 i) ∧ ∀ c : Nat, c < 60 → c ≠ 22 → c ≠ 23 → zN M c (v c)
theorem zP_O {M0 M M' : zMem} {v : Nat → Int} {c : Nat} (h : zP M0 M v) (hO : zO c M M') (hc : c = 22 ∨ c = 23) : zP M0 M' v :=
  ⟨fun i a b d => by rw [hO.1 i a b d, h.1 i a b d], fun d hd a b => zN_O (h.2 d hd a b) hO (by omega)⟩
theorem zr_divide_48 {M0 : zMem} {v : Nat → Int} {a b n X Y : Nat} {K : zMem → Prop} (ha : a < 60) (hb : b < 60) (ha22 : a ≠ 22) (ha23 : a ≠ 23) (hb22 : b ≠ 22) (hb23 : b ≠ 23) (eX : v a = X) (eY : v b = Y) (hY : 0 < Y) (hYb : Y < 2 ^ 2900) (hn : n ≤ 200) (hK : ∀ T : zMem, zP M0 T v → T 20 a = nI n → (∃ R : Int, zN T 22 R) → (∀ j : Nat, j < n → T 19 (4600 + j) = nI (zE (X / Y) j % 32768)) → K T) :
    ∀ (k R q : Nat) (p : Int32) (M1 : zMem), p.toInt = (k : Int) - 1 → k ≤ 15 * n → zP M0 M1 v → M1 20 a = nI n → zN M1 22 R → X / 2 ^ k = Y * q + R → R < Y → (∀ j : Nat, j < n → M1 19 (4600 + j) = nI (zE (q * 2 ^ k) j % 32768)) → zw_X6_divide_48 (nI a) (nI b) K (k + 1) p M1 := by
  intro k
  induction k with
  | zero =>
    intro R q p M1 hp hk hP h20 hR hq hRY hB
    refine And.intro (fun _ => hK M1 hP h20 ⟨_, hR⟩ (fun j hj => ?_)) (fun c => absurd (zn_lt.mpr (by rw [hp, zn_0]; omega)) c)
    have e : X / Y = q * 2 ^ 0 := by
      rw [Nat.pow_zero, Nat.div_one] at hq
      rw [hq, Nat.mul_add_div hY, Nat.div_eq_of_lt hRY]; simp
    rw [e]; exact hB j hj
  | succ k ih =>
    intro R q p M1 hp hk hP h20 hR hq hRY hB
    have ep : p = nI k := zn_ofI (by omega)
    subst ep
    refine And.intro (fun c => absurd c (nI_pos (by omega))) (fun _ => ?_)
    have hRb : ((R : Int)).natAbs < 2 ^ (15 * 199) := by
      have : (2 : Nat) ^ 2900 ≤ 2 ^ (15 * 199) := Nat.pow_le_pow_right (by decide) (by decide)
      omega
    refine zr_plus (c := 22) (a := 22) (b := 22) (e := 199) (by decide) (by decide) (by decide) hR hR (by decide) hRb hRb (fun T hO hN => ?_)
    have hPT := zP_O hP hO (Or.inl rfl)
    have t20 : T 20 a = nI n := by rw [(hO.2.2 a ha22).1]; exact h20
    have tB : ∀ j : Nat, j < n → T 19 (4600 + j) = nI (zE (q * 2 ^ (k + 1)) j % 32768) := fun j hj => by rw [hO.2.1 _ (by omega)]; exact hB j hj
    have e2R : (R : Int) + R = ((2 * R : Nat) : Int) := by omega
    rw [e2R] at hN
    refine And.intro (by decide) ?_
    rw [show (15 : Int32) = nI 15 from rfl, pk_rem (by omega) (by omega) (by omega), pk_div (by omega) (by omega) (by omega), show (4600 : Int32) = nI 4600 from rfl, nI_add, nI_clamp (show 4600 + k / 15 < 2 ^ 31 by omega)]
    refine zr_at ha (by omega) (hPT.2 a ha ha22 ha23) ?_
    rw [eX, Int.natAbs_natCast]
    refine And.intro (by decide) ?_
    have hbit : ((nI (zE X (k / 15) % 32768) >>> (nI (k % 15) &&& 31)) &&& (1 : Int32)) = nI (X / 2 ^ k % 2) := by
      rw [pk_shrN (by omega) _ (k % 15) (zn_s5 _ (by omega)), show (1 : Int32) = nI (2 ^ 1 - 1) from rfl, pk_andN (Nat.lt_of_le_of_lt (Nat.div_le_self _ _) (by omega)) 1 (by decide)]
      congr 1
      rw [Nat.pow_one]; exact zn_bit
    rw [hbit]
    have hdec : X / 2 ^ k = 2 * (X / 2 ^ (k + 1)) + X / 2 ^ k % 2 := by
      rw [Nat.pow_succ, ← Nat.div_div_eq_div_mul]; omega
    obtain ⟨bt, hbt⟩ : ∃ bt, X / 2 ^ k % 2 = bt := ⟨_, rfl⟩
    have hbt2 : bt < 2 := by omega
    rw [hbt] at hdec ⊢
    rw [hq] at hdec
    refine ⟨fun T2 => zP M0 T2 v ∧ T2 20 a = nI n ∧ zN T2 22 ((2 * R + bt : Nat) : Int) ∧ (∀ j : Nat, j < n → T2 19 (4600 + j) = nI (zE (q * 2 ^ (k + 1)) j % 32768)), ?_, ?_⟩
    · rintro T2 ⟨hP2, h20', hN2, hB2⟩
      have px : ∀ x : Int32, x = nI k + (-1 : Int32) → x.toInt = (k : Int) - 1 := fun x ex => by
        rw [ex]; exact zn_add (nI_toInt (by omega)) zn_m1 (by omega) (by omega)
      have same : 2 * R + bt < Y → ∀ x : Int32, x = nI k + (-1 : Int32) → zw_X6_divide_48 (nI a) (nI b) K (k + 1) x T2 := fun hlt x ex => by
        refine ih (2 * R + bt) (2 * q) x T2 (px x ex) (by omega) hP2 h20' hN2 ?_ hlt (fun j hj => ?_)
        · rw [hdec, Nat.mul_left_comm]; omega
        · rw [hB2 j hj, Nat.pow_succ, Nat.mul_comm (2 ^ k) 2, ← Nat.mul_assoc, Nat.mul_comm q 2]
      refine And.intro (vp_in_nI (n := 22) (by decide) (by decide)) ?_
      rw [show (22 : Int32).toNatClampNeg = 22 from rfl, zN_sg hN2]
      refine And.intro (fun z => same (by have := zsg_0.mp z; omega)) (fun z => ?_)
      refine zr_compareSizes (a := 22) (by decide) hb hN2 (hP2.2 b hb hb22 hb23) ?_
      rw [eY]
      refine And.intro (fun z2 => ?_) (fun z2 => same ?_)
      · have hge : Y ≤ 2 * R + bt := by
          rcases Nat.lt_or_ge (2 * R + bt) Y with w | w
          · rw [zsg_neg (by omega)] at z2; exact absurd z2 (by decide)
          · exact w
        have hbb : ∀ z : Nat, z ≤ 2 * Y → ((z : Int)).natAbs < 2 ^ (15 * 199) := fun z hz => by
          have e1 : (2 : Nat) ^ 2900 * 2 = 2 ^ 2901 := (Nat.pow_succ 2 2900).symm
          have e2 : (2 : Nat) ^ 2901 ≤ 2 ^ (15 * 199) := Nat.pow_le_pow_right (by decide) (by decide)
          omega
        refine zr_minus (c := 22) (a := 22) (e := 199) (by decide) (by decide) hb hN2 (hP2.2 b hb hb22 hb23) (by decide) (hbb _ (by omega)) (by rw [eY]; exact hbb _ (by omega)) (fun T3 hO3 hN3 => ?_)
        have e3 : ((2 * R + bt : Nat) : Int) - v b = ((2 * R + bt - Y : Nat) : Int) := by rw [eY]; omega
        rw [e3] at hN3
        refine And.intro (by decide) (And.intro (vp_in_nI (by omega) (by decide)) (And.intro (by decide) (And.intro (vp_in_nI (by omega) (by decide)) ?_)))
        intro r er x ex
        rw [hO3.2.1 _ (by omega), hB2 (k / 15) (by omega), zn_sl1 _ (by omega)] at er
        obtain ⟨q1, u, q2, q3⟩ := zn_qb q k
        have e4 : q * 2 ^ (k + 1) = 2 * q * 2 ^ k := by rw [Nat.pow_succ, Nat.mul_comm (2 ^ k) 2, ← Nat.mul_assoc, Nat.mul_comm q 2]
        rw [e4, q2, zn_orJ (Nat.pow_lt_pow_right (by decide) (by omega)), ← q3] at er
        have hO4 : zO 23 T3 (zset T3 19 r) := by
          rw [er, show 4600 + k / 15 = 200 * 23 + k / 15 from by omega]; exact zO_19 (by omega)
        refine ih (2 * R + bt - Y) (2 * q + 1) x (zset T3 19 r) (px x ex) (by omega) (zP_O (zP_O hP2 hO3 (Or.inl rfl)) hO4 (Or.inr rfl)) ?_ (zN_O hN3 hO4 (by decide)) ?_ (by omega) (fun j hj => ?_)
        · rw [zs_out rfl, (hO3.2.2 a ha22).1]; exact h20'
        · have e5 : Y * (2 * q + 1) = 2 * (Y * q) + Y := by rw [Nat.mul_add, Nat.mul_one, Nat.mul_left_comm]
          rw [hdec, e5]
          generalize Y * q = z
          omega
        · rw [zs_in, er]
          by_cases w : j = k / 15
          · subst w; rw [pk_us]
          · rw [pk_un (by omega), hO3.2.1 _ (by omega), hB2 j hj, e4, q1 j w]
      · rcases Nat.lt_or_ge (2 * R + bt) Y with w | w
        · exact w
        · exfalso
          apply z2
          rcases Nat.lt_or_ge Y (2 * R + bt) with w2 | w2
          · rw [zsg_pos (by omega)]; decide
          · rw [zsg_zero (by omega)]; decide
    refine And.intro (fun z => ?_) (fun z => And.intro (vp_in_nI (n := 22) (by decide) (by decide)) ?_)
    · have : bt = 0 := by
        rcases Nat.eq_zero_or_pos bt with w | w
        · exact w
        · exact absurd (by rw [show bt = 1 from by omega]; rfl) z
      subst this
      exact ⟨hPT, t20, hN, tB⟩
    · have hb1 : bt = 1 := by
        rcases Nat.eq_zero_or_pos bt with w | w
        · subst w; exact absurd z (by decide)
        · omega
      subst hb1
      rw [show (22 : Int32).toNatClampNeg = 22 from rfl, zN_sg hN, show (4400 : Int32).toNatClampNeg = 200 * 22 from rfl]
      refine And.intro (fun z2 => And.intro (vp_in_nI (n := 4400) (by decide) (by decide)) (And.intro (vp_in_nI (n := 4400) (by decide) (by decide)) ?_)) (fun z2 => ?_)
      · intro r er
        have hR0 : 0 < R := by
          rcases Nat.eq_zero_or_pos R with w | w
          · exact absurd (zsg_0.mpr (by omega)) z2
          · exact w
        rw [er]
        obtain ⟨o1, o2⟩ := zr_or1 (c := 22) (by decide) hR0 hN
        exact ⟨zP_O hPT o1 (Or.inl rfl), by rw [zs_out rfl]; exact t20, o2, fun j hj => by rw [o1.2.1 _ (by omega)]; exact tB j hj⟩
      · have hR0 : R = 0 := by have := zsg_0.mp z2; omega
        refine zr_rset (c := 22) (X := 1) (by decide) (by decide) (by decide) (by decide) (fun T3 hO3 hN3 => ?_)
        subst hR0
        exact ⟨zP_O hPT hO3 (Or.inl rfl), by rw [(hO3.2.2 a ha22).1]; exact t20, hN3, fun j hj => by rw [hO3.2.1 _ (by omega)]; exact tB j hj⟩
theorem zr_divide_9 {M : zMem} {a n : Nat} {c2 : Int32} {K : zMem → Prop} (ha : a < 60) (hn : n ≤ 200) (h20 : M 20 a = nI n) (hK : ∀ T : zMem, zO 23 M T → T 20 = M 20 → (∀ k : Nat, k < n → T 19 (4600 + k) = 0) → K T) : ∀ (d i : Nat) (M1 : zMem), i + d = n → zO 23 M M1 → M1 20 = M 20 → (∀ k : Nat, k < i → M1 19 (4600 + k) = 0) → zw_X6_divide_9 (nI a) c2 K (d + 1) (nI i) M1 := by
  intro d
  induction d with
  | zero =>
    intro i M1 hi hO g20 hB
    refine And.intro (vp_in_nI ha (by decide)) ?_
    rw [nI_clamp (by omega), g20, h20]
    exact And.intro (fun _ => hK M1 hO g20 (fun k hk => hB k (by omega))) (fun q => absurd (nI_le (by omega) (by omega)) q)
  | succ d ih =>
    intro i M1 hi hO g20 hB
    refine And.intro (vp_in_nI ha (by decide)) ?_
    rw [nI_clamp (by omega), g20, h20]
    refine And.intro (fun q => absurd q (nI_ge (by omega) (by omega))) (fun _ => ?_)
    rw [show (4600 : Int32) = nI 4600 from rfl, nI_add]
    refine And.intro (vp_in_nI (by omega) (by decide)) ?_
    intro r e x ex
    rw [nI_clamp (by omega)] at e
    rw [ex, nI_1, e]
    refine ih (i + 1) _ (by omega) (zO_trans hO ?_) (by rw [zs_out rfl, g20]) (fun k hk => ?_)
    · rw [show 4600 + i = 200 * 23 + i from by omega]; exact zO_19 (by omega)
    rw [zs_in]
    by_cases w2 : k = i
    · subst w2; rw [pk_us]
    · rw [pk_un (by omega)]; exact hB k (by omega)
theorem zg_divide {M0 M : zMem} {v : Nat → Int} (a b : Nat) {X Y : Nat} {post : zMem → Prop} (h : zG M0 M v) (ha : a < 60) (hb : b < 60) (ha22 : a ≠ 22) (ha23 : a ≠ 23) (hb22 : b ≠ 22) (hb23 : b ≠ 23) (eX : v a = X) (eY : v b = Y) (hY : 0 < Y) (hYb : Y < 2 ^ 2900) (k : ∀ (M' : zMem) (w : Nat → Int), zG M0 M' w → w a = ((X / Y : Nat) : Int) → (∀ d : Nat, d ≠ 22 → d ≠ 23 → d ≠ a → w d = v d) → post M') : zw_X6_divide M (nI a) (nI b) post := by
  refine zr_rset (c := 22) (X := 0) (by decide) (by decide) (by decide) (by decide) (fun T1 hO1 hN1 => ?_)
  have hP1 : zP M0 T1 v := ⟨fun i p q r => by rw [hO1.1 i p q r, h.1 i p q r], fun c hc p _ => zN_O (h.2 c hc) hO1 p⟩
  obtain ⟨n, h1, h2, h3, h4, h5, h6⟩ := hP1.2 a ha ha22 ha23
  have hs : v a = X := eX
  refine ⟨_, zr_divide_9 ha h1 h2 ?_ n 0 T1 (by omega) (zO_refl 23 T1) rfl (fun k hk => by omega)⟩
  intro T2 hO2 t20 tB
  refine And.intro (vp_in_nI ha (by decide)) ?_
  intro x ex
  have hP2 := zP_O hP1 hO2 (Or.inr rfl)
  rw [nI_clamp (by omega), t20, h2, show (15 : Int32) = nI 15 from rfl, pk_mul] at ex
  have hx : x.toInt = ((15 * n : Nat) : Int) - 1 := by rw [ex]; exact zn_sub (nI_toInt (by omega)) zn_1 (by omega) (by omega)
  refine ⟨_, zr_divide_48 (M0 := M0) (v := v) (X := X) (Y := Y) ha hb ha22 ha23 hb22 hb23 eX eY hY hYb h1 ?_ (15 * n) 0 0 x T2 hx (Nat.le_refl _) hP2 (by rw [t20, h2]) (zN_O hN1 hO2 (by decide)) ?_ hY (fun j hj => by rw [tB j hj, Nat.zero_mul, zE_of0]; rfl)⟩
  · intro T3 hP3 u20 ⟨R, hR⟩ uB
    refine And.intro (vp_in_nI (n := 23) (by decide) (by decide)) ?_
    intro r er
    refine And.intro (vp_in_nI ha (by decide)) ?_
    rw [show (23 : Int32).toNatClampNeg = 23 from rfl] at er
    rw [nI_clamp (by omega), u20, er]
    have hz : zE (X / Y) n = 0 := by
      have e1 : (v a).natAbs = X := by rw [eX, Int.natAbs_natCast]
      rw [e1] at h5
      exact zE_le h5 (Nat.div_le_self _ _)
    refine zr_trim (c := 23) (A := X / Y) (X := ((X / Y : Nat) : Int)) (by decide) h1 ⟨fun k hk => by rw [zs_out rfl]; exact uB k hk, hz⟩ (Int.natAbs_natCast _) (fun hne => ?_) (fun T4 hO4 hN4 => ?_)
    · rw [zs_in, pk_us, zsg_pos (Int.natCast_pos.mpr (Nat.pos_of_ne_zero (fun w => hne (by rw [w]; rfl))))]
    · have hO4' := zO_trans (zO_21 (c := 23) (M := T3) (v := 1)) hO4
      have hP4 := zP_O hP3 hO4' (Or.inr rfl)
      have hR4 := zN_O hR hO4' (by decide)
      have hG4 : zG M0 T4 (zj (zj v 22 R) 23 ((X / Y : Nat) : Int)) := by
        refine ⟨hP4.1, fun c hc => ?_⟩
        by_cases w : c = 23
        · subst w; rw [zj_in]; exact hN4
        · rw [zj_out w]
          by_cases w2 : c = 22
          · subst w2; rw [zj_in]; exact hR4
          · rw [zj_out w2]; exact hP4.2 c hc w2 w
      refine zg_copy a 23 hG4 ha (by decide) (fun T5 G5 => ?_)
      rw [zj_in] at G5
      exact k T5 _ G5 zj_in (fun d p q r => by rw [zj_out r, zj_out q, zj_out p])
  · rw [Nat.mul_zero, Nat.add_zero]
    have e1 : (v a).natAbs = X := by rw [eX, Int.natAbs_natCast]
    rw [e1] at h5
    exact Nat.div_eq_of_lt (zE_bound h5)
/-! shortening, and a part that is told -/
theorem zg_shorten {M0 M : zMem} {v : Nat → Int} (u l : Nat) {X : Int} {Y : Nat} {post : zMem → Prop} (h : zG M0 M v) (hu : u < 60) (hl : l < 60) (hul : u ≠ l) (hu1 : u ≠ 20 ∧ u ≠ 21 ∧ u ≠ 22 ∧ u ≠ 23 ∧ u ≠ 38) (hl1 : l ≠ 20 ∧ l ≠ 21 ∧ l ≠ 22 ∧ l ≠ 23 ∧ l ≠ 38) (eX : v u = X) (eY : v l = Y) (hY : 0 < Y) (bX : X.natAbs < 2 ^ 2800) (bY : Y < 2 ^ 2800) (k : ∀ (M' : zMem) (w : Nat → Int), zG M0 M' w → (w u).natAbs = X.natAbs / Nat.gcd X.natAbs Y → zsg (w u) = zsg X → w l = ((Y / Nat.gcd X.natAbs Y : Nat) : Int) → (∀ d : Nat, d ≠ 20 → d ≠ 21 → d ≠ 22 → d ≠ 23 → d ≠ 38 → d ≠ u → d ≠ l → w d = v d) → post M') : zw_X6_shorten M (nI u) (nI l) post := by
  have cu : (nI u).toNatClampNeg = u := nI_clamp (by omega)
  refine And.intro (vp_in_nI hu (by decide)) ?_
  rw [cu, zN_sg (h.2 u hu), eX]
  refine And.intro (fun q => And.intro (vp_in_nI hu (by decide)) ?_) (fun q => ?_)
  · intro x3 e3
    have hX0 : X ≠ 0 := fun w => q (zsg_0.mpr w)
    refine And.intro (vp_in_nI hu (by decide)) ?_
    intro r6 e6
    rw [e6]
    obtain ⟨n, h1, h2, h3, h4, h5, h6⟩ := h.2 u hu
    rw [eX] at h3 h4 h5 h6
    have G1 : zG M0 (zset M 21 (upd (M 21) u 1)) (zj v u ((X.natAbs : Nat) : Int)) := by
      refine zG_set h zO_21 ⟨n, h1, by rw [zs_out rfl]; exact h2, ?_, fun k hk => ?_, ?_, ?_⟩
      · rw [zs_in, pk_us, zsg_pos (by omega)]
      · rw [zs_out rfl, Int.natAbs_natCast]; exact h4 k hk
      · rw [Int.natAbs_natCast]; exact h5
      · rw [Int.natAbs_natCast]; exact h6
    have g0 : 0 < Nat.gcd X.natAbs Y := Nat.gcd_pos_of_pos_right _ hY
    have gle : Nat.gcd X.natAbs Y ≤ Y := Nat.gcd_le_right _ hY
    have p1 : (2 : Nat) ^ 2800 ≤ 2 ^ 2900 := Nat.pow_le_pow_right (by decide) (by decide)
    refine zg_common u l (X := X.natAbs) (Y := Y) G1 hu hl hl1.1 zj_in (by rw [zj_out (Ne.symm hul)]; exact eY) (by omega) hY bX bY (fun T2 w2 G2 k2 a2 => ?_)
    refine zg_copy 38 20 G2 (by decide) (by decide) (fun T3 G3 => ?_)
    rw [a2] at G3
    have eu : zj w2 38 ((Nat.gcd X.natAbs Y : Nat) : Int) u = ((X.natAbs : Nat) : Int) := by
      rw [zj_out hu1.2.2.2.2, k2 u hu1.1 hu1.2.1 hu1.2.2.1, zj_in]
    have el : zj w2 38 ((Nat.gcd X.natAbs Y : Nat) : Int) l = ((Y : Nat) : Int) := by
      rw [zj_out hl1.2.2.2.2, k2 l hl1.1 hl1.2.1 hl1.2.2.1, zj_out (Ne.symm hul), eY]
    refine zg_divide u 38 (X := X.natAbs) (Y := Nat.gcd X.natAbs Y) G3 hu (by decide) hu1.2.2.1 hu1.2.2.2.1 (by decide) (by decide) eu zj_in g0 (by omega) (fun T4 w4 G4 a4 k4 => ?_)
    refine zg_divide l 38 (X := Y) (Y := Nat.gcd X.natAbs Y) G4 hl (by decide) hl1.2.2.1 hl1.2.2.2.1 (by decide) (by decide) (by rw [k4 l hl1.2.2.1 hl1.2.2.2.1 (Ne.symm hul), el]) (by rw [k4 38 (by decide) (by decide) (Ne.symm hu1.2.2.2.2), zj_in]) g0 (by omega) (fun T5 w5 G5 a5 k5 => ?_)
    refine And.intro (vp_in_nI hu (by decide)) ?_
    intro r12 e12
    rw [e12, e3]
    obtain ⟨X', hX'⟩ : ∃ X' : Int, X'.natAbs = X.natAbs / Nat.gcd X.natAbs Y ∧ zsg X' = zsg X := by
      have hd : 0 < X.natAbs / Nat.gcd X.natAbs Y := Nat.div_pos (Nat.gcd_le_left _ (by omega)) g0
      rcases Int.lt_trichotomy X 0 with w | w | w
      · exact ⟨-((X.natAbs / Nat.gcd X.natAbs Y : Nat) : Int), by omega, by rw [zsg_neg w, zsg_neg (by omega)]⟩
      · exact absurd w hX0
      · exact ⟨((X.natAbs / Nat.gcd X.natAbs Y : Nat) : Int), by omega, by rw [zsg_pos w, zsg_pos (by omega)]⟩
    have e5 : w5 u = ((X.natAbs / Nat.gcd X.natAbs Y : Nat) : Int) := by rw [k5 u hu1.2.2.1 hu1.2.2.2.1 hul, a4]
    obtain ⟨n', g1, g2, g3, g4, g5, g6⟩ := G5.2 u hu
    rw [e5, Int.natAbs_natCast] at g4 g5 g6
    have G6 : zG M0 (zset T5 21 (upd (T5 21) u (zsg X))) (zj w5 u X') := by
      refine zG_set G5 zO_21 ⟨n', g1, by rw [zs_out rfl]; exact g2, ?_, fun k hk => ?_, ?_, ?_⟩
      · rw [zs_in, pk_us, hX'.2]
      · rw [zs_out rfl, hX'.1]; exact g4 k hk
      · rw [hX'.1]; exact g5
      · rw [hX'.1]; exact g6
    refine k _ _ G6 (by rw [zj_in]; exact hX'.1) (by rw [zj_in]; exact hX'.2) (by rw [zj_out (Ne.symm hul)]; exact a5) (fun d d1 d2 d3 d4 d5 d6 d7 => ?_)
    rw [zj_out d6, k5 d d3 d4 d7, k4 d d3 d4 d6, zj_out d5, k2 d d1 d2 d3, zj_out d6]
  · have hX0 : X = 0 := zsg_0.mp q
    refine zg_set l 1 h hl (by decide) (by decide) (by decide) (fun T1 G1 => ?_)
    refine k T1 _ G1 ?_ ?_ ?_ (fun d _ _ _ _ _ _ d7 => zj_out d7)
    · rw [zj_out hul, eX, hX0]; simp
    · rw [zj_out hul, eX]
    · rw [zj_in, hX0, Int.natAbs_zero, Nat.gcd_zero_left, Nat.div_self hY]; rfl
theorem zr_rpart {M : zMem} {a k : Nat} {X : Int} {post : Int32 → Prop} (ha : a < 60) (hk : k < 40) (h : zN M a X) (K : post (zpart X.natAbs k)) : zw_X6_part M (nI a) (nI k) post := by
  unfold zw_X6_part
  rw [show (2 : Int32) = nI 2 from rfl, pk_mul, nI_1]
  refine zr_at ha (by omega) h (zr_at ha (by omega) h ?_)
  rw [pk_shlN _ 15 (by decide) (by omega), Nat.mul_comm _ (2 ^ 15), zn_orI (by omega)]
  have e : 2 ^ 15 * (zE X.natAbs (2 * k + 1) % 32768) + zE X.natAbs (2 * k) % 32768 = X.natAbs / 2 ^ (30 * k) % 1073741824 := by
    rw [zE_succ]
    unfold zE
    rw [show 15 * (2 * k) = 30 * k from by omega]
    omega
  rw [e]; exact K
theorem zg_toldPart {M0 M : zMem} {v : Nat → Int} (a b : Nat) {f : Int32} {kk : Nat} {X : Int} {Y : Nat} {post : Int32 → zMem → Prop} (h : zG M0 M v) (ha : a < 60) (hb : b < 60) (hb18 : b ≠ 18) (hk : kk < 40) (eX : v a = X) (eY : v b = Y) (hY : 0 < Y) (bX : X.natAbs < 2 ^ 2800) (bY : Y < 2 ^ 2800) (k : ∀ (M' : zMem) (w : Nat → Int), zG M0 M' w → post (if f = 0 then zpart (X.natAbs / Nat.gcd X.natAbs Y) kk else zpart (Y / Nat.gcd X.natAbs Y) kk) M') : zw_X6_toldPart M (nI a) (nI b) f (nI kk) post := by
  refine zg_copy 18 a h (by decide) ha (fun T1 G1 => ?_)
  refine zg_copy 19 b G1 (by decide) hb (fun T2 G2 => ?_)
  rw [zj_out hb18] at G2
  refine zg_shorten 18 19 (X := X) (Y := Y) G2 (by decide) (by decide) (by decide) (by decide) (by decide) (by rw [zj_out (by decide), zj_in]; exact eX) (by rw [zj_in]; exact eY) hY bX bY (fun T3 w3 G3 a3 _ b3 _ => ?_)
  refine And.intro (fun q => ?_) (fun q => ?_)
  · refine zr_rpart (a := 18) (by decide) hk (G3.2 18 (by decide)) ?_
    rw [a3]
    have := k T3 w3 G3
    rwa [if_pos q] at this
  · refine zr_rpart (a := 19) (by decide) hk (G3.2 19 (by decide)) ?_
    rw [b3, Int.natAbs_natCast]
    have := k T3 w3 G3
    rwa [if_neg q] at this
