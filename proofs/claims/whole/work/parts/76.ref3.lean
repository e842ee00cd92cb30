/-! the reference's products -/
theorem zr_times_18 {M : zMem} {c n : Nat} {c2 c3 : Int32} {K : zMem → Prop} (hc : c < 60) (hn : n ≤ 200) (hK : ∀ T : zMem, zO c M T → T 20 = M 20 → T 21 = M 21 → (∀ k : Nat, k < n → T 19 (200 * c + k) = 0) → K T) : ∀ (d i : Nat) (M1 : zMem), i + d = n → zO c M M1 → M1 20 = M 20 → M1 21 = M 21 → (∀ k : Nat, k < i → M1 19 (200 * c + k) = 0) → zw_X6_times_18 (nI c) c2 c3 (nI n) K (d + 1) (nI i) M1 := by
  intro d
  induction d with
  | zero =>
    intro i M1 hi hO h20 h21 hB
    exact And.intro (fun _ => hK M1 hO h20 h21 (fun k hk => hB k (by omega))) (fun q => absurd (nI_le (by omega) (by omega)) q)
  | succ d ih =>
    intro i M1 hi hO h20 h21 hB
    refine And.intro (fun q => absurd q (nI_ge (by omega) (by omega))) (fun _ => ?_)
    rw [zn_ix]
    refine And.intro (vp_in_nI (by omega) (by decide)) ?_
    intro r e x ex
    rw [nI_clamp (by omega)] at e
    rw [ex, nI_1, e]
    refine ih (i + 1) _ (by omega) (zO_trans hO (zO_19 (by omega))) (by rw [zs_out rfl, h20]) (by rw [zs_out rfl, h21]) (fun k hk => ?_)
    rw [zs_in]
    by_cases w2 : k = i
    · subst w2; rw [pk_us]
    · rw [pk_un (by omega)]; exact hB k (by omega)
theorem zn_step15 {a b m e z : Nat} (h : z = m + e + a * b) : (a * (b % 32768) + e % 32768 + m) % 32768 = z % 32768 ∧ z / 32768 = (a * (b % 32768) + e % 32768 + m) / 32768 + e / 32768 + a * (b / 32768) := by
  have h1 : b = 32768 * (b / 32768) + b % 32768 := by omega
  have h2 : a * b = 32768 * (a * (b / 32768)) + a * (b % 32768) := by
    conv => lhs; rw [h1]
    rw [Nat.mul_add, Nat.mul_left_comm]
  rw [h2] at h
  generalize a * (b / 32768) = p at *
  generalize a * (b % 32768) = q at *
  omega
theorem zr_times_65 {M : zMem} {c a b i nb x B E : Nat} {c4 : Int32} {X : Int} {K : Int64 → zMem → Prop} (hc : c < 60) (ha : a < 60) (hb : b < 60) (hca : a ≠ c) (hcb : b ≠ c) (hib : i + nb ≤ 200) (hi : i < 200) (hX : zN M a X) (hx : x = zE X.natAbs i % 32768) (b20 : M 20 b = nI nb) (bB : zB M b nb B) (hE : ∀ k : Nat, k < nb → M 19 (200 * c + i + k) = nI (zE E k % 32768)) (hE0 : zE E nb = 0) (hK : ∀ (T : zMem) (w : Int64), zO c M T → T 20 = M 20 → T 21 = M 21 → (∀ j : Nat, ¬ (200 * c + i ≤ j ∧ j < 200 * c + i + nb) → T 19 j = M 19 j) → (∀ k : Nat, k < nb → T 19 (200 * c + i + k) = nI (zE (E + x * B) k % 32768)) → w.toInt = (zE (E + x * B) nb : Int) → K w T) :
    ∀ (d k m : Nat) (p : Int64) (M1 : zMem), k + d = nb → p.toInt = (m : Int) → m ≤ 65536 → zO c M M1 → M1 20 = M 20 → M1 21 = M 21 → (∀ j : Nat, ¬ (200 * c + i ≤ j ∧ j < 200 * c + i + k) → M1 19 j = M 19 j) → (∀ j : Nat, j < k → M1 19 (200 * c + i + j) = nI (zE (E + x * B) j % 32768)) → zE (E + x * B) k = m + zE E k + x * zE B k → zw_X6_times_65 (nI c) (nI a) (nI b) c4 (nI i) K (d + 1) p (nI k) M1 := by
  have hx2 : x < 32768 := by omega
  intro d
  induction d with
  | zero =>
    intro k m p M1 hk hp hm hO h20 h21 hs hB hz
    have e : k = nb := by omega
    subst e
    refine And.intro (vp_in_nI hb (by decide)) ?_
    rw [nI_clamp (by omega), h20, b20]
    refine And.intro (fun _ => hK M1 p hO h20 h21 hs hB ?_) (fun q => absurd (nI_le (Nat.le_refl _) (by omega)) q)
    rw [hE0, bB.2] at hz
    rw [hp, hz]; simp
  | succ d ih =>
    intro k m p M1 hk hp hm hO h20 h21 hs hB hz
    refine And.intro (vp_in_nI hb (by decide)) ?_
    rw [nI_clamp (show b < 2 ^ 31 by omega), h20, b20]
    refine And.intro (fun q => absurd q (nI_ge (by omega) (by omega))) (fun _ => ?_)
    refine zr_at ha (by omega) (zN_O hX hO hca) ?_
    refine zr_atr (n := nb) (x := zE B k % 32768) hb (by omega) (by omega) (by rw [h20, b20]) (fun q => by rw [hs _ (by omega)]; exact bB.1 k q) (fun q => by rw [zE_up bB.2 k q]) ?_
    rw [← hx, zn_ix, nI_add]
    refine And.intro (vp_in_nI (by omega) (by decide)) ?_
    intro x9 e9
    rw [nI_clamp (by omega), hs _ (by omega), hE k (by omega)] at e9
    have hb2 : x * (zE B k % 32768) ≤ 32767 * 32767 := Nat.mul_le_mul (by omega) (by omega)
    have em : (Int32.toInt64 (nI x) * Int32.toInt64 (nI (zE B k % 32768))).toInt = ((x * (zE B k % 32768) : Nat) : Int) := by
      rw [Int.natCast_mul]
      exact zn_mulL (zn_wide (nI_toInt (by omega))) (zn_wide (nI_toInt (by omega))) (by rw [← Int.natCast_mul]; omega) (by rw [← Int.natCast_mul]; omega)
    have ex : x9.toInt = ((x * (zE B k % 32768) + zE E k % 32768 + m : Nat) : Int) := by
      rw [e9]
      have e1 := zn_addL em (zn_wide (nI_toInt (n := zE E k % 32768) (by omega))) (by omega) (by omega)
      have e2 := zn_addL e1 hp (by omega) (by omega)
      rw [e2]; omega
    obtain ⟨s1, s2⟩ := zn_step15 hz
    refine And.intro (vp_in_nI (by omega) (by decide)) ?_
    intro r e x6 e6 x8 e8
    rw [nI_clamp (by omega)] at e
    have hd : Int64.toInt32 (x9 &&& (32767 : Int64)) = nI (zE (E + x * B) k % 32768) := zn_ofI (by rw [zn_nar (zn_mk15L ex) (by omega) (by omega), ← s1]; omega)
    rw [hd] at e
    have h6 : x6.toInt = (((x * (zE B k % 32768) + zE E k % 32768 + m) / 32768 : Nat) : Int) := by rw [e6, zn_sr15L ex]; omega
    rw [e8, nI_1, e]
    refine ih (k + 1) _ _ _ (by omega) h6 (by omega) (zO_trans hO ?_) (by rw [zs_out rfl, h20]) (by rw [zs_out rfl, h21]) (fun j hj => ?_) (fun j hj => ?_) ?_
    · rw [show 200 * c + i + k = 200 * c + (i + k) from by omega]; exact zO_19 (by omega)
    · rw [zs_in, pk_un (by omega)]; exact hs j (by omega)
    · rw [zs_in]
      by_cases w2 : j = k
      · subst w2; rw [pk_us]
      · rw [pk_un (by omega)]; exact hB j (by omega)
    · rw [zE_succ, zE_succ, zE_succ]; exact s2
theorem zn_stepo {a b e z : Nat} (h : z = e + a * b) : (e + a % 32768 * b) % 32768 = z % 32768 ∧ z / 32768 = (e + a % 32768 * b) / 32768 + a / 32768 * b := by
  have h1 : a = 32768 * (a / 32768) + a % 32768 := by omega
  have h2 : a * b = 32768 * (a / 32768 * b) + a % 32768 * b := by
    conv => lhs; rw [h1]
    rw [Nat.add_mul, Nat.mul_assoc]
  rw [h2] at h
  generalize a / 32768 * b = p at *
  generalize a % 32768 * b = q at *
  omega
theorem zr_times_48 {M : zMem} {c a b na nb B : Nat} {c4 : Int32} {X : Int} {K : zMem → Prop} (hc : c < 60) (ha : a < 60) (hb : b < 60) (hca : a ≠ c) (hcb : b ≠ c) (hn : na + nb ≤ 200) (hX : zN M a X) (a20 : M 20 a = nI na) (aZ : zE X.natAbs na = 0) (b20 : M 20 b = nI nb) (bB : zB M b nb B) (hK : ∀ (T : zMem), zO c M T → T 20 = M 20 → T 21 = M 21 → zB T c (na + nb) (X.natAbs * B) → K T) :
    ∀ (d i E : Nat) (M1 : zMem), i + d = na → zO c M M1 → M1 20 = M 20 → M1 21 = M 21 → (∀ j : Nat, j < i → M1 19 (200 * c + j) = nI (zE (X.natAbs * B) j % 32768)) → (∀ j : Nat, i + j < na + nb → M1 19 (200 * c + i + j) = nI (zE E j % 32768)) → zE E nb = 0 → zE (X.natAbs * B) i = E + zE X.natAbs i * B → zw_X6_times_48 (nI c) (nI a) (nI b) c4 K (d + 1) (nI i) M1 := by
  intro d
  induction d with
  | zero =>
    intro i E M1 hi hO h20 h21 hB hE hE0 hz
    have e : i = na := by omega
    subst e
    refine And.intro (vp_in_nI ha (by decide)) ?_
    rw [nI_clamp (by omega), h20, a20]
    refine And.intro (fun _ => hK M1 hO h20 h21 ⟨fun k hk => ?_, ?_⟩) (fun q => absurd (nI_le (Nat.le_refl _) (by omega)) q)
    · rw [aZ] at hz
      by_cases q : k < i
      · exact hB k q
      · have := hE (k - i) (by omega)
        rw [show 200 * c + i + (k - i) = 200 * c + k from by omega] at this
        rw [this, show k = i + (k - i) from by omega, zE_add, hz]
        simp
    · rw [aZ] at hz
      rw [zE_add, hz]; simpa using hE0
  | succ d ih =>
    intro i E M1 hi hO h20 h21 hB hE hE0 hz
    refine And.intro (vp_in_nI ha (by decide)) ?_
    rw [nI_clamp (show a < 2 ^ 31 by omega), h20, a20]
    refine And.intro (fun q => absurd q (nI_ge (by omega) (by omega))) (fun _ => ?_)
    obtain ⟨x, hx⟩ : ∃ x, x = zE X.natAbs i % 32768 := ⟨_, rfl⟩
    obtain ⟨s1, s2⟩ := zn_stepo hz
    rw [← hx] at s1 s2
    refine ⟨_, zr_times_65 (M := M1) (x := x) (E := E) (B := B) hc ha hb hca hcb (by omega) (by omega) (zN_O hX hO hca) hx (by rw [h20, b20]) ⟨fun k hk => by rw [hO.2.1 _ (by omega)]; exact bB.1 k hk, bB.2⟩ (fun k hk => hE k (by omega)) hE0 ?_ nb 0 0 0 M1 (by omega) zn_0L (by omega) (zO_refl c M1) rfl rfl (fun _ _ => rfl) (fun j hj => by omega) (by rw [zE_0, zE_0, zE_0]; omega)⟩
    intro T w hO2 g20 g21 gs gB gw
    refine And.intro (vp_in_nI hb (by decide)) ?_
    rw [nI_clamp (show b < 2 ^ 31 by omega), g20, h20, b20, zn_ix, nI_add]
    refine And.intro (vp_in_nI (by omega) (by decide)) ?_
    intro r e x5 e5
    rw [nI_clamp (by omega)] at e
    rw [e5, nI_1, e]
    have hEb := zE_bound hE0
    have hBb := zE_bound bB.2
    have hsm : E + x * B < 2 ^ (15 * (nb + 1)) := by
      have a3 : (2 : Nat) ^ (15 * (nb + 1)) = 32768 * 2 ^ (15 * nb) := by rw [show 15 * (nb + 1) = 15 + 15 * nb from by omega, Nat.pow_add]
      have a4 : x * B ≤ 32767 * B := Nat.mul_le_mul_right B (by omega)
      omega
    have hz1 : zE (E + x * B) (nb + 1) = 0 := zE_small hsm
    have hw : Int64.toInt32 w = nI (zE (E + x * B) nb % 32768) := by
      have h1 : zE (E + x * B) nb < 32768 := by rw [zE_succ] at hz1; omega
      exact zn_ofI (by rw [zn_nar gw (by omega) (by omega)]; omega)
    rw [hw]
    refine ih (i + 1) ((E + x * B) / 32768) _ (by omega) (zO_trans (zO_trans hO hO2) ?_) (by rw [zs_out rfl, g20, h20]) (by rw [zs_out rfl, g21, h21]) (fun j hj => ?_) (fun j hj => ?_) ?_ (by rw [zE_succ, zE_succ]; exact s2)
    · rw [show 200 * c + i + nb = 200 * c + (i + nb) from by omega]; exact zO_19 (by omega)
    · rw [zs_in]
      by_cases w2 : j = i
      · subst w2
        rw [← s1]
        rcases Nat.eq_zero_or_pos nb with q | q
        · subst q
          rw [Nat.add_zero, pk_us, zE_0]
        · rw [pk_un (by omega)]
          have := gB 0 q
          rw [Nat.add_zero, zE_0] at this
          exact this
      · rw [pk_un (by omega), gs _ (by omega)]; exact hB j (by omega)
    · rw [zs_in, show (E + x * B) / 32768 = zE (E + x * B) 1 from by rw [zE_succ, zE_0], ← zE_add]
      by_cases w2 : j + 1 = nb
      · rw [show 200 * c + (i + 1) + j = 200 * c + i + nb from by omega, pk_us, ← w2, Nat.add_comm 1 j]
      · rw [pk_un (by omega)]
        by_cases w3 : j + 1 < nb
        · have := gB (j + 1) w3
          rw [show 200 * c + i + (j + 1) = 200 * c + (i + 1) + j from by omega] at this
          rw [this, Nat.add_comm 1 j]
        · rw [gs _ (by omega), show 200 * c + (i + 1) + j = 200 * c + i + (j + 1) from by omega, hE (j + 1) (by omega), zE_up hE0 (j + 1) (by omega), zE_up hz1 (1 + j) (by omega)]
    · rw [show (E + x * B) / 32768 = zE (E + x * B) 1 from by rw [zE_succ, zE_0], ← zE_add, Nat.add_comm 1 nb]; exact hz1
theorem zsg_mul (X Y : Int) : zsg X * zsg Y = zsg (X * Y) := by
  rcases Int.lt_trichotomy X 0 with h | h | h
  · rcases Int.lt_trichotomy Y 0 with g | g | g
    · rw [zsg_neg h, zsg_neg g, zsg_pos (Int.mul_pos_of_neg_of_neg h g)]; decide
    · rw [zsg_neg h, zsg_zero g, g, Int.mul_zero]; decide
    · rw [zsg_neg h, zsg_pos g, zsg_neg (Int.mul_neg_of_neg_of_pos h g)]; decide
  · rw [zsg_zero h, h, Int.zero_mul, zsg_zero rfl]; exact Int32.zero_mul
  · rcases Int.lt_trichotomy Y 0 with g | g | g
    · rw [zsg_pos h, zsg_neg g, zsg_neg (Int.mul_neg_of_pos_of_neg h g)]; decide
    · rw [zsg_pos h, zsg_zero g, g, Int.mul_zero]; decide
    · rw [zsg_pos h, zsg_pos g, zsg_pos (Int.mul_pos h g)]; decide
theorem zr_times {M : zMem} {c a b e f : Nat} {X Y : Int} {post : zMem → Prop} (hc : c < 60) (ha : a < 60) (hb : b < 60) (hca : a ≠ c) (hcb : b ≠ c) (hX : zN M a X) (hY : zN M b Y) (hef : e + f ≤ 200) (bX : X.natAbs < 2 ^ (15 * e)) (bY : Y.natAbs < 2 ^ (15 * f)) (k : ∀ M' : zMem, zO c M M' → zN M' c (X * Y) → post M') : zw_X6_times M (nI c) (nI a) (nI b) post := by
  have hX' := hX
  obtain ⟨na, h1, h1', h2, h3, h4, h5⟩ := zN_size hX bX
  obtain ⟨nb, g1, g1', g2, g3, g4, g5⟩ := zN_size hY bY
  have ca : (nI a).toNatClampNeg = a := nI_clamp (by omega)
  have cb : (nI b).toNatClampNeg = b := nI_clamp (by omega)
  have cc : (nI c).toNatClampNeg = c := nI_clamp (by omega)
  refine And.intro (vp_in_nI ha (by decide)) (And.intro (vp_in_nI hb (by decide)) ?_)
  intro x4 e4
  rw [ca, cb, h2, g2, nI_add] at e4
  subst e4
  refine ⟨_, zr_times_18 hc (by omega) ?_ (na + nb) 0 M (by omega) (zO_refl c M) rfl rfl (fun k hk => by omega)⟩
  intro T hO t20 t21 tB
  refine ⟨_, zr_times_48 (M := T) (B := Y.natAbs) hc ha hb hca hcb (by omega) (zN_O hX' hO hca) (by rw [t20, h2]) h5 (by rw [t20, g2]) ⟨fun k hk => by rw [hO.2.1 _ (by omega)]; exact g4 k hk, g5⟩ ?_ na 0 0 T (by omega) (zO_refl c T) rfl rfl (fun k hk => by omega) (fun j hj => by rw [zE_of0, Nat.add_zero, tB j (by omega)]; rfl) (zE_of0 _) (by rw [zE_0, zE_0]; omega)⟩
  intro T2 hO2 u20 u21 uB
  refine And.intro (vp_in_nI ha (by decide)) (And.intro (vp_in_nI hb (by decide)) (And.intro (vp_in_nI hc (by decide)) ?_))
  intro r e
  rw [ca, cb, cc, u21, t21, h3, g3, zsg_mul] at e
  have e' : r = upd (T2 21) c (zsg (X * Y)) := by rw [e, u21, t21]
  rw [e']
  refine zr_trim (X := X * Y) hc (by omega) ⟨fun k hk => by rw [zs_out rfl]; exact uB.1 k hk, uB.2⟩ (Int.natAbs_mul X Y) (fun _ => by rw [zs_in, pk_us]) (fun M' hO3 hN => k M' (zO_trans (zO_trans hO hO2) (zO_trans zO_21 hO3)) hN)
