/-! the mathematics of the panes: first, inner, whole, last, through -/
def zp1 (m x y : Int) (t : Int × Int × Int × Int × Int) : Int × Int × Int × Int × Int :=
  (t.1 * (m * m) + t.2.1 * (x * m), t.2.1 * (y * y - x * x) + t.1 * (-x * m), t.2.2.1 * (m * m) + t.2.2.2.1 * (-x * m), t.2.2.2.1 * (y * y - x * x) + t.2.2.1 * (x * m), t.2.2.2.2 * (y * m))
def zp2 (bu bl ou ol : Nat) (t : Int × Int × Int × Int × Int) : Int × Int × Int × Int × Int :=
  if t.2.2.1 * ((bl * ol : Nat) : Int) + t.2.2.2.1 * (-((bu * ol : Nat) : Int)) = 0 then t else zp1 ((bl * ol : Nat) : Int) ((bu * ol : Nat) : Int) ((ou * bl : Nat) : Int) t
def zPs (bu bl ou ol : Nat → Nat) : Nat → Int × Int × Int × Int × Int
  | 0 => (0, 1, 1, 0, 1)
  | i + 1 => zp2 (bu i) (bl i) (ou i) (ol i) (zPs bu bl ou ol i)
/-- a pane's shares as they may be -/
def zSh (bu bl ou ol : Nat) : Prop := bu ≤ 100 ∧ 1 ≤ bl ∧ bl ≤ 100 ∧ ou ≤ 100 ∧ 1 ≤ ol ∧ ol ≤ 100 ∧ bu * ol + ou * bl ≤ bl * ol
/-- what holds of all panes together -/
def zPi (t : Int × Int × Int × Int × Int) : Prop := 0 < t.2.2.1 ∧ 0 ≤ t.1 ∧ 0 ≤ t.2.2.2.1 ∧ 0 ≤ t.2.2.2.2 ∧ t.2.1 * t.2.2.1 = t.2.2.2.2 * t.2.2.2.2 - t.1 * t.2.2.2.1 ∧ t.2.2.2.1 + t.2.2.2.2 ≤ t.2.2.1 ∧ t.1 + t.2.2.2.2 ≤ t.2.2.1
theorem zn_cancel {W a b : Int} (hW : 0 < W) (h : W * a ≤ W * b) : a ≤ b := Int.le_of_mul_le_mul_left h hW
theorem zp_step {m x y F I W L O : Int} (hm : 0 < m) (hx : 0 ≤ x) (hy : 0 ≤ y) (hxy : x + y ≤ m) (h : zPi (F, I, W, L, O)) (hN : W * m + L * (-x) ≠ 0) : zPi (zp1 m x y (F, I, W, L, O)) ∧ W * (m * m) + L * (-x * m) ≤ W * (m * m) := by
  obtain ⟨h1, h2, h3, h4, h5, h6, h7⟩ := h
  simp only at h1 h2 h3 h4 h5 h6 h7
  have hLW : L ≤ W := by omega
  have hOW : O ≤ W := by omega
  have hxm : x ≤ m := by omega
  obtain ⟨N, hNe⟩ : ∃ N, W * m + L * (-x) = N := ⟨_, rfl⟩
  have hN0 : 0 < N := by
    have a1 : L * x ≤ W * m := Int.mul_le_mul hLW hxm hx (by omega)
    rw [hNe] at hN
    rw [Int.mul_neg] at hNe
    omega
  have hNe' : N = m * W - x * L := by rw [← hNe]; grind
  have eW : W * (m * m) + L * (-x * m) = m * N := by rw [hNe']; grind
  have eL : L * (y * y - x * x) + W * (x * m) = L * (y * y) + x * N := by rw [hNe']; grind
  have eF : W * (F * (m * m) + I * (x * m)) = m * F * N + x * m * (O * O) := by
    have : W * (F * (m * m) + I * (x * m)) = m * m * F * W + x * m * (I * W) := by grind
    rw [this, h5, hNe']; grind
  have pF : 0 ≤ F * (m * m) + I * (x * m) := by
    refine zn_cancel h1 ?_
    rw [eF, Int.mul_zero]
    have a1 : 0 ≤ m * F * N := Int.mul_nonneg (Int.mul_nonneg (by omega) h2) (by omega)
    have a2 : 0 ≤ x * m * (O * O) := Int.mul_nonneg (Int.mul_nonneg hx (by omega)) (zn_sqn O)
    omega
  have pL : 0 ≤ L * (y * y - x * x) + W * (x * m) := by
    rw [eL]
    have a1 : 0 ≤ L * (y * y) := Int.mul_nonneg h3 (zn_sqn y)
    have a2 : 0 ≤ x * N := Int.mul_nonneg hx (by omega)
    omega
  refine ⟨⟨?_, pF, pL, Int.mul_nonneg h4 (Int.mul_nonneg hy (by omega)), ?_, ?_, ?_⟩, ?_⟩
  · show 0 < W * (m * m) + L * (-x * m)
    rw [eW]; exact Int.mul_pos hm hN0
  · show (I * (y * y - x * x) + F * (-x * m)) * (W * (m * m) + L * (-x * m)) = O * (y * m) * (O * (y * m)) - (F * (m * m) + I * (x * m)) * (L * (y * y - x * x) + W * (x * m))
    have e : (I * (y * y - x * x) + F * (-x * m)) * (W * (m * m) + L * (-x * m)) + (F * (m * m) + I * (x * m)) * (L * (y * y - x * x) + W * (x * m)) = m * m * (y * y) * (I * W + F * L) := by grind
    rw [h5] at e
    have e2 : m * m * (y * y) * (O * O - F * L + F * L) = O * (y * m) * (O * (y * m)) := by grind
    omega
  · show L * (y * y - x * x) + W * (x * m) + O * (y * m) ≤ W * (m * m) + L * (-x * m)
    rw [eL, eW]
    have a1 : L * y + O * m ≤ N := by
      have b1 : L * (x + y) ≤ L * m := Int.mul_le_mul_of_nonneg_left hxy h3
      have b2 : (L + O) * m ≤ W * m := Int.mul_le_mul_of_nonneg_right h6 (by omega)
      have b3 : L * (x + y) = L * x + L * y := Int.mul_add L x y
      have b4 : (L + O) * m = L * m + O * m := Int.add_mul L O m
      rw [hNe', Int.mul_comm m W, Int.mul_comm x L]
      omega
    have a2 : y * (L * y + O * m) ≤ y * N := Int.mul_le_mul_of_nonneg_left a1 hy
    have a3 : (x + y) * N ≤ m * N := Int.mul_le_mul_of_nonneg_right hxy (by omega)
    have a4 : y * (L * y + O * m) = L * (y * y) + O * (y * m) := by grind
    have a5 : (x + y) * N = x * N + y * N := Int.add_mul x y N
    omega
  · show F * (m * m) + I * (x * m) + O * (y * m) ≤ W * (m * m) + L * (-x * m)
    refine zn_cancel h1 ?_
    rw [Int.mul_add, eF, eW]
    have a1 : x * O + y * W ≤ N := by
      have b1 : x * (O + L) ≤ x * W := Int.mul_le_mul_of_nonneg_left (by omega) hx
      have b2 : (x + y) * W ≤ m * W := Int.mul_le_mul_of_nonneg_right hxy (by omega)
      have b3 : x * (O + L) = x * O + x * L := Int.mul_add x O L
      have b4 : (x + y) * W = x * W + y * W := Int.add_mul x y W
      rw [hNe']; omega
    have a2 : O * (x * O + y * W) ≤ O * N := Int.mul_le_mul_of_nonneg_left a1 h4
    have a3 : (F + O) * N ≤ W * N := Int.mul_le_mul_of_nonneg_right h7 (by omega)
    have a4 : m * (F * N + O * (x * O + y * W)) ≤ m * (W * N) := Int.mul_le_mul_of_nonneg_left (by
      have b4 : (F + O) * N = F * N + O * N := Int.add_mul F O N
      omega) (by omega)
    have a5 : m * (F * N + O * (x * O + y * W)) = m * F * N + x * m * (O * O) + W * (O * (y * m)) := by grind
    have a6 : m * (W * N) = W * (m * N) := by grind
    omega
  · have a1 : 0 ≤ L * (x * m) := Int.mul_nonneg h3 (Int.mul_nonneg hx (by omega))
    have a2 : L * (-x * m) = -(L * (x * m)) := by grind
    omega
theorem zPi_0 : zPi (0, 1, 1, 0, 1) := by unfold zPi; decide
theorem zp2_i {bu bl ou ol : Nat} {t : Int × Int × Int × Int × Int} (hs : zSh bu bl ou ol) (h : zPi t) : zPi (zp2 bu bl ou ol t) ∧ (zp2 bu bl ou ol t).2.2.1 ≤ t.2.2.1 * 134217728 := by
  obtain ⟨s1, s2, s3, s4, s5, s6, s7⟩ := hs
  have hW := h.1
  unfold zp2
  split
  · exact ⟨h, by omega⟩
  · rename_i q
    have m1 : 0 < bl * ol := Nat.mul_pos (by omega) (by omega)
    have m2 : bl * ol ≤ 100 * 100 := Nat.mul_le_mul s3 s6
    obtain ⟨a, b⟩ := zp_step (m := ((bl * ol : Nat) : Int)) (x := ((bu * ol : Nat) : Int)) (y := ((ou * bl : Nat) : Int)) (F := t.1) (I := t.2.1) (W := t.2.2.1) (L := t.2.2.2.1) (O := t.2.2.2.2) (by omega) (by omega) (by omega) (by omega) h q
    refine ⟨a, ?_⟩
    show t.2.2.1 * (((bl * ol : Nat) : Int) * ((bl * ol : Nat) : Int)) + t.2.2.2.1 * (-((bu * ol : Nat) : Int) * ((bl * ol : Nat) : Int)) ≤ _
    have c1 : ((bl * ol : Nat) : Int) * ((bl * ol : Nat) : Int) ≤ 134217728 := by
      rw [← Int.natCast_mul]
      have := Nat.mul_le_mul m2 m2
      omega
    have c2 := Int.mul_le_mul_of_nonneg_left c1 (Int.le_of_lt hW)
    omega
theorem zPs_i {bu bl ou ol : Nat → Nat} {n : Nat} (hs : ∀ i : Nat, i < n → zSh (bu i) (bl i) (ou i) (ol i)) : ∀ i : Nat, i ≤ n → zPi (zPs bu bl ou ol i) ∧ (zPs bu bl ou ol i).2.2.1 ≤ ((2 ^ (27 * i) : Nat) : Int) := by
  intro i
  induction i with
  | zero => intro _; exact ⟨zPi_0, (show (1 : Int) ≤ ((2 ^ (27 * 0) : Nat) : Int) by decide)⟩
  | succ i ih =>
    intro hi
    obtain ⟨h1, h2⟩ := ih (by omega)
    obtain ⟨a, b⟩ := zp2_i (hs i (by omega)) h1
    refine ⟨a, Int.le_trans b ?_⟩
    rw [show 27 * (i + 1) = 27 * i + 27 from by omega, Nat.pow_add]
    have := Int.mul_le_mul_of_nonneg_right h2 (show (0 : Int) ≤ 134217728 by decide)
    rw [Int.natCast_mul]; exact this
theorem zPi_I {t : Int × Int × Int × Int × Int} (h : zPi t) : t.2.1.natAbs ≤ t.2.2.1.natAbs := by
  obtain ⟨h1, h2, h3, h4, h5, h6, h7⟩ := h
  have a1 : t.2.2.2.2 * t.2.2.2.2 ≤ t.2.2.1 * t.2.2.1 := Int.mul_le_mul (by omega) (by omega) h4 (by omega)
  have a2 : t.1 * t.2.2.2.1 ≤ t.2.2.1 * t.2.2.1 := Int.mul_le_mul (by omega) (by omega) h3 (by omega)
  have a3 : 0 ≤ t.1 * t.2.2.2.1 := Int.mul_nonneg h2 h3
  have a4 := zn_sqn t.2.2.2.2
  have u : t.2.1 ≤ t.2.2.1 := zn_cancel h1 (by rw [Int.mul_comm _ t.2.1]; omega)
  have l : -t.2.2.1 ≤ t.2.1 := zn_cancel h1 (by rw [Int.mul_comm _ t.2.1, Int.mul_neg]; omega)
  omega
/-! two ways to tell one fraction -/
theorem zn_same {X Y U V : Nat} (hY : 0 < Y) (hV : 0 < V) (h : X * V = U * Y) : X / Nat.gcd X Y = U / Nat.gcd U V ∧ Y / Nat.gcd X Y = V / Nat.gcd U V := by
  obtain ⟨g, hg⟩ : ∃ g, Nat.gcd X Y = g := ⟨_, rfl⟩
  have g0 : 0 < g := by rw [← hg]; exact Nat.gcd_pos_of_pos_right _ hY
  obtain ⟨p, hp⟩ : ∃ p, X = g * p := by rw [← hg]; exact Nat.gcd_dvd_left X Y
  obtain ⟨q, hq⟩ : ∃ q, Y = g * q := by rw [← hg]; exact Nat.gcd_dvd_right X Y
  have cop : Nat.gcd p q = 1 := by
    rw [hp, hq, Nat.gcd_mul_left] at hg
    exact Nat.eq_of_mul_eq_mul_left g0 (by rw [hg, Nat.mul_one])
  have q0 : 0 < q := by
    rcases Nat.eq_zero_or_pos q with z | z
    · rw [z, Nat.mul_zero] at hq; omega
    · exact z
  have e1 : p * V = U * q := by
    rw [hp, hq] at h
    have : g * (p * V) = g * (U * q) := by rw [← Nat.mul_assoc, h, Nat.mul_left_comm]
    exact Nat.eq_of_mul_eq_mul_left g0 this
  have d1 : q ∣ V := by
    have c : Nat.Coprime q p := by show Nat.gcd q p = 1; rw [Nat.gcd_comm]; exact cop
    exact Nat.Coprime.dvd_of_dvd_mul_left c ⟨U, by rw [e1, Nat.mul_comm]⟩
  obtain ⟨t, ht⟩ := d1
  have t0 : 0 < t := by
    rcases Nat.eq_zero_or_pos t with z | z
    · rw [z, Nat.mul_zero] at ht; omega
    · exact z
  have hU : U = p * t := by
    rw [ht] at e1
    have : q * U = q * (p * t) := by rw [Nat.mul_comm q U, ← e1, Nat.mul_left_comm]
    exact Nat.eq_of_mul_eq_mul_left q0 this
  have eg : Nat.gcd U V = t := by
    rw [hU, ht, Nat.mul_comm p t, Nat.mul_comm q t, Nat.gcd_mul_left, cop, Nat.mul_one]
  rw [hg, eg, hp, hq, hU, ht, Nat.mul_div_cancel_left _ g0, Nat.mul_div_cancel_left _ g0, Nat.mul_div_cancel _ t0, Nat.mul_div_cancel _ t0]
  exact ⟨rfl, rfl⟩
/-- a shortened fraction's lower part divides the other one's -/
theorem zn_short {X Y U V : Nat} (hY : 0 < Y) (hV : 0 < V) (h : X * V = U * Y) : X / Nat.gcd X Y * V = U * (Y / Nat.gcd X Y) ∧ 0 < Y / Nat.gcd X Y ∧ Y / Nat.gcd X Y ≤ V := by
  obtain ⟨h1, h2⟩ := zn_same hY hV h
  have g0 : 0 < Nat.gcd U V := Nat.gcd_pos_of_pos_right _ hV
  rw [h1, h2]
  refine ⟨?_, Nat.div_pos (Nat.gcd_le_right _ hV) g0, Nat.div_le_self _ _⟩
  obtain ⟨p, hp⟩ : ∃ p, U = Nat.gcd U V * p := Nat.gcd_dvd_left U V
  obtain ⟨q, hq⟩ : ∃ q, V = Nat.gcd U V * q := Nat.gcd_dvd_right U V
  generalize Nat.gcd U V = g at *
  subst hp hq
  rw [Nat.mul_div_cancel_left _ g0, Nat.mul_div_cancel_left _ g0, Nat.mul_left_comm, ← Nat.mul_assoc]
