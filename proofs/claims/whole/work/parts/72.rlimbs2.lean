/-! what the methods of Limbs do, in whole numbers (second half: twos, the common divisor, the exact division) -/
theorem zn_bm1 : ∀ i, i < 32 → (-1 : Int32).toBitVec.getLsbD i = true := by decide +kernel
theorem zn_ntzm {v m : Nat} (h : 2 ^ v * (2 * m + 1) < 2147483648) : ((nI (2 ^ v * (2 * m + 1)) ^^^ (-1 : Int32)) &&& (nI (2 ^ v * (2 * m + 1)) - (1 : Int32))) = nI (2 ^ v - 1) := by
  have hp := Nat.two_pow_pos v
  have e1 : nI (2 ^ v * (2 * m + 1)) - (1 : Int32) = nI (2 ^ v * (2 * m) + (2 ^ v - 1)) := by
    rw [show 2 ^ v * (2 * m + 1) = (2 ^ v * (2 * m) + (2 ^ v - 1)) + 1 from by rw [Nat.mul_add, Nat.mul_one]; omega, nI_pred]
  rw [e1]
  apply Int32.toBitVec_inj.mp
  apply BitVec.eq_of_getLsbD_eq
  intro j hj
  rw [Int32.toBitVec_and, BitVec.getLsbD_and, Int32.toBitVec_xor, BitVec.getLsbD_xor, zn_bm1 j hj]
  show (((BitVec.ofNat 32 _).getLsbD j ^^ true) && (BitVec.ofNat 32 _).getLsbD j) = (BitVec.ofNat 32 _).getLsbD j
  rw [BitVec.getLsbD_ofNat, BitVec.getLsbD_ofNat, BitVec.getLsbD_ofNat, decide_eq_true hj, Bool.true_and, Bool.true_and, Bool.true_and]
  rw [Nat.testBit_two_pow_mul_add _ (by omega), Nat.testBit_two_pow_sub_one, Nat.testBit_two_pow_mul]
  by_cases q : j < v
  · rw [if_pos q, decide_eq_true q, decide_eq_false (by omega : ¬ v ≤ j)]; rfl
  · rw [if_neg q, decide_eq_false q, decide_eq_true (by omega : v ≤ j)]
    obtain ⟨i, hi⟩ : ∃ i, j - v = i := ⟨_, rfl⟩
    rw [hi]
    cases i with
    | zero => simp [Nat.testBit_zero]
    | succ i =>
      rw [Nat.testBit_succ, Nat.testBit_succ, show (2 * m + 1) / 2 = m from by omega, show 2 * m / 2 = m from by omega]
      cases m.testBit i <;> rfl
theorem zn_t1 : ∀ w, w < 30 → (nI (2 ^ w - 1) ≤ (65536 : Int32) ↔ w ≤ 16) := by decide +kernel
theorem zn_t2 : ∀ w, w < 30 → (nI (2 ^ w - 1) ≤ (256 : Int32) ↔ w ≤ 8) := by decide +kernel
theorem zn_t3 : ∀ w, w < 30 → (nI (2 ^ w - 1) ≤ (16 : Int32) ↔ w ≤ 4) := by decide +kernel
theorem zn_t4 : ∀ w, w < 30 → (nI (2 ^ w - 1) ≤ (4 : Int32) ↔ w ≤ 2) := by decide +kernel
theorem zn_u1 : ∀ w, w < 30 → 16 < w → (Int32.toUInt32 (nI (2 ^ w - 1)) >>> (Int32.toUInt32 (16 : Int32) &&& Int32.toUInt32 31)).toInt32 = nI (2 ^ (w - 16) - 1) := by decide +kernel
theorem zn_u2 : ∀ w, w < 30 → 8 < w → (Int32.toUInt32 (nI (2 ^ w - 1)) >>> (Int32.toUInt32 (8 : Int32) &&& Int32.toUInt32 31)).toInt32 = nI (2 ^ (w - 8) - 1) := by decide +kernel
theorem zn_u3 : ∀ w, w < 30 → 4 < w → (Int32.toUInt32 (nI (2 ^ w - 1)) >>> (Int32.toUInt32 (4 : Int32) &&& Int32.toUInt32 31)).toInt32 = nI (2 ^ (w - 4) - 1) := by decide +kernel
theorem zn_u4 : ∀ w, w < 30 → 2 < w → (Int32.toUInt32 (nI (2 ^ w - 1)) >>> (Int32.toUInt32 (2 : Int32) &&& Int32.toUInt32 31)).toInt32 = nI (2 ^ (w - 2) - 1) := by decide +kernel
theorem zn_u5 : ∀ w, w < 3 → 1 ≤ w → (Int32.toUInt32 (nI (2 ^ w - 1)) >>> (Int32.toUInt32 (1 : Int32) &&& Int32.toUInt32 31)).toInt32 = nI (w - 1) := by decide +kernel
theorem zn_u6 : ∀ w, w < 30 → 1 ≤ w → (0 : Int32) < nI (2 ^ w - 1) := by decide +kernel
theorem zr_ntz {i : Int32} {v m : Nat} {post : Int32 → Prop} (hi : i = nI (2 ^ v * (2 * m + 1))) (h : 2 ^ v * (2 * m + 1) < 1073741824) (k : post (nI v)) : zw_J6_numberOfTrailingZeros_0f7a4 i post := by
  have hv : v < 30 := by
    rcases Nat.lt_or_ge v 30 with q | q
    · exact q
    · have := Nat.pow_le_pow_right (n := 2) (by decide) q
      have h2 : 2 ^ v ≤ 2 ^ v * (2 * m + 1) := Nat.le_mul_of_pos_right _ (by omega)
      omega
  intro x e
  rw [hi, zn_ntzm (by omega)] at e
  rcases Nat.eq_zero_or_pos v with q | q
  · subst q
    subst e
    exact And.intro (fun c => absurd c (by decide)) (fun _ => k)
  · refine And.intro (fun _ => ?_) (fun c => absurd (by rw [e]; exact zn_u6 v hv q) c)
    refine ⟨fun a b => ∃ w : Nat, 1 ≤ w ∧ w ≤ 16 ∧ w ≤ v ∧ a = nI (2 ^ w - 1) ∧ b = nI (1 + (v - w)), ?_, ?_⟩
    · rintro a b ⟨w, w1, w2, w3, rfl, rfl⟩
      refine ⟨fun a b => ∃ w : Nat, 1 ≤ w ∧ w ≤ 8 ∧ w ≤ v ∧ a = nI (2 ^ w - 1) ∧ b = nI (1 + (v - w)), ?_, ?_⟩
      · clear w1 w2 w3 w
        rintro a b ⟨w, w1, w2, w3, rfl, rfl⟩
        refine ⟨fun a b => ∃ w : Nat, 1 ≤ w ∧ w ≤ 4 ∧ w ≤ v ∧ a = nI (2 ^ w - 1) ∧ b = nI (1 + (v - w)), ?_, ?_⟩
        · clear w1 w2 w3 w
          rintro a b ⟨w, w1, w2, w3, rfl, rfl⟩
          refine And.intro (fun c => ?_) (fun c => ?_)
          · have c2 := (zn_t4 w (by omega)).mp c
            rw [zn_u5 w (by omega) w1, nI_add, show 1 + (v - w) + (w - 1) = v from by omega]; exact k
          · have c2 : ¬ w ≤ 2 := fun q => c ((zn_t4 w (by omega)).mpr q)
            intro b' e1 a' e2
            rw [zn_u4 w (by omega) (by omega)] at e2
            rw [e1, e2, zn_u5 (w - 2) (by omega) (by omega), show (2 : Int32) = nI 2 from rfl, nI_add, nI_add, show 1 + (v - w) + 2 + (w - 2 - 1) = v from by omega]; exact k
        · refine And.intro (fun c => ⟨w, w1, (zn_t3 w (by omega)).mp c, w3, rfl, rfl⟩) (fun c => ?_)
          have c2 : ¬ w ≤ 4 := fun q => c ((zn_t3 w (by omega)).mpr q)
          intro b' e1 a' e2
          rw [zn_u3 w (by omega) (by omega)] at e2
          exact ⟨w - 4, by omega, by omega, by omega, e2, by rw [e1, show (4 : Int32) = nI 4 from rfl, nI_add]; congr 1; omega⟩
      · refine And.intro (fun c => ⟨w, w1, (zn_t2 w (by omega)).mp c, w3, rfl, rfl⟩) (fun c => ?_)
        have c2 : ¬ w ≤ 8 := fun q => c ((zn_t2 w (by omega)).mpr q)
        intro b' e1 a' e2
        rw [zn_u2 w (by omega) (by omega)] at e2
        exact ⟨w - 8, by omega, by omega, by omega, e2, by rw [e1, show (8 : Int32) = nI 8 from rfl, nI_add]; congr 1; omega⟩
    · subst e
      refine And.intro (fun c => ⟨v, q, (zn_t1 v (by omega)).mp c, Nat.le_refl v, rfl, by rw [Nat.sub_self]; rfl⟩) (fun c => ?_)
      have c2 : ¬ v ≤ 16 := fun q => c ((zn_t1 v (by omega)).mpr q)
      intro b' e1 a' e2
      rw [zn_u1 v (by omega) (by omega)] at e2
      exact ⟨v - 16, by omega, by omega, by omega, e2, by rw [e1, show (1 : Int32) = nI 1 from rfl, show (16 : Int32) = nI 16 from rfl, nI_add]; congr 1; omega⟩
/-- every number above 0 is a power of two times an odd one -/
theorem zn_twos : ∀ (n b : Nat), n < b → 0 < n → ∃ v m : Nat, n = 2 ^ v * (2 * m + 1) := by
  intro n b
  induction b generalizing n with
  | zero => intro h; omega
  | succ b ih =>
    intro h h0
    rcases Nat.mod_two_eq_zero_or_one n with q | q
    · obtain ⟨v, m, e⟩ := ih (n / 2) (by omega) (by omega)
      refine ⟨v + 1, m, ?_⟩
      rw [Nat.pow_succ, Nat.mul_comm (2 ^ v) 2, Nat.mul_assoc, ← e]; omega
    · exact ⟨0, n / 2, by omega⟩
theorem zr_twosOf {nr t : Nat} (hn : nr < 67108864) (ht : t ≤ nr) {r : zRow} {X : Int} {post : Int32 → Prop} (hr : zL t r X) (hX : zD X t = 0) (h0 : 0 < X) (k : ∀ (s : Nat) (m : Int), s < 30 * t → 0 ≤ m → X = 2 ^ s * (2 * m + 1) → post (nI s)) : zw_X1_twosOf nr r (nI t) post := by
  have L : ∀ (d i : Nat), i + d = t → X = 2 ^ (30 * i) * zD X i → zw_X1_twosOf_2 nr r (nI t) (fun (x2_6 : Int32) => (vp_in x2_6 nr ∧ zw_J6_numberOfTrailingZeros_0f7a4 (r (Int32.toNatClampNeg x2_6)) (fun (v_8 : Int32) => post ((x2_6 * (30 : Int32)) + v_8) ))) (post (0 : Int32)) (d + 1) (nI i) := by
    intro d
    induction d with
    | zero =>
      intro i e h
      exfalso
      have : i = t := by omega
      subst this
      rw [hX] at h
      simp at h
      omega
    | succ d ih =>
      intro i e h
      have hd := hr i (by omega)
      refine And.intro (fun c => absurd c (nI_ge (by omega) (by omega))) (fun _ => And.intro (fun c => absurd c (nI_ge (by omega) (by omega))) (fun _ => And.intro (vp_in_nI (by omega) (by omega)) (And.intro (fun c => ?_) (fun c => And.intro (vp_in_nI (by omega) (by omega)) ?_))))
      · intro x e5
        rw [nI_clamp (by omega)] at c
        rw [e5, nI_1]
        refine ih (i + 1) (by omega) ?_
        rw [c, zn_0] at hd
        conv => lhs; rw [h]
        rw [zD_succ, show 30 * (i + 1) = 30 * i + 30 from by omega, zn_pow, Int.mul_assoc]
        congr 1
        show zD X i = 1073741824 * (zD X i / 1073741824)
        omega
      · rw [nI_clamp (by omega)] at c ⊢
        have hp := zD_nonneg i (Int.le_of_lt h0)
        obtain ⟨x, hx⟩ : ∃ x : Nat, (x : Int) = zD X i % 1073741824 := ⟨(zD X i % 1073741824).toNat, by omega⟩
        have hx0 : x ≠ 0 := fun q => c (zn_eq.mpr (by rw [hd, ← hx, q, zn_0]; rfl))
        obtain ⟨v, m, hvm⟩ := zn_twos x (x + 1) (by omega) (by omega)
        have er : r i = nI (2 ^ v * (2 * m + 1)) := by rw [← hvm]; exact zn_ofI (by rw [hd, hx])
        have hv : v < 30 := by
          rcases Nat.lt_or_ge v 30 with q | q
          · exact q
          · have a := Nat.pow_le_pow_right (n := 2) (by decide) q
            have b : 2 ^ v ≤ 2 ^ v * (2 * m + 1) := Nat.le_mul_of_pos_right _ (by omega)
            omega
        refine zr_ntz er (by omega) ?_
        rw [show (30 : Int32) = nI 30 from rfl, pk_mul, nI_add]
        obtain ⟨q, hq⟩ : ∃ q : Nat, (q : Int) = zD X i / 1073741824 := ⟨(zD X i / 1073741824).toNat, by omega⟩
        have e1 : zD X i = 2 ^ v * (2 * ((m : Int) + 2 ^ (29 - v) * q) + 1) := by
          have e2 : zD X i = 1073741824 * q + x := by omega
          have e3 : (1073741824 : Int) = 2 ^ v * (2 * 2 ^ (29 - v)) := by
            rw [show (2 : Int) * 2 ^ (29 - v) = 2 ^ (30 - v) from by rw [show 30 - v = 29 - v + 1 from by omega, Int.pow_succ, Int.mul_comm], ← zn_pow, show v + (30 - v) = 30 from by omega]; decide
          rw [e2, hvm, e3]
          simp only [Int.natCast_mul, Int.natCast_pow, Int.natCast_add, Int.cast_ofNat_Int]
          grind
        refine k (i * 30 + v) (m + 2 ^ (29 - v) * q) (by omega) ?_ ?_
        · have := zn_ppos (29 - v)
          have := Int.mul_nonneg (Int.le_of_lt this) (Int.natCast_nonneg q)
          omega
        · conv => lhs; rw [h, e1]
          rw [← Int.mul_assoc, ← zn_pow, show 30 * i + v = i * 30 + v from by omega]
  exact ⟨_, L t 0 (by omega) (by rw [zD_0]; simp)⟩
theorem zn_sl : ∀ p, p < 30 → ((((30 : Int32) - nI p) &&& 31).toBitVec.smod 32).toNat = 30 - p := by decide +kernel
theorem zn_su : ∀ n, n < 32 → (((nI n).toUInt32 &&& Int32.toUInt32 31).toBitVec % 32).toNat = n := by decide +kernel
theorem zn_shlm {d p : Nat} (hd : d < 1073741824) (hp : p < 30) : ((nI d <<< (((30 : Int32) - nI p) &&& 31)) &&& (1073741823 : Int32)) = nI (2 ^ (30 - p) * (d % 2 ^ p)) := by
  rw [pk_and _ 30 (by decide), pk_shl _ _ (30 - p) (zn_sl p hp), pk_tn (by omega)]
  congr 1
  rw [Nat.mod_mod_of_dvd _ (by decide), Nat.mul_comm (2 ^ (30 - p)) (d % 2 ^ p), show (2 : Nat) ^ 30 = 2 ^ p * 2 ^ (30 - p) from by rw [← Nat.pow_add]; congr 1; omega, Nat.mul_mod_mul_right]
theorem zn_orI {a b k : Nat} (h : a < 2 ^ k) : nI a ||| nI (2 ^ k * b) = nI (2 ^ k * b + a) := by
  apply Int32.toBitVec_inj.mp
  apply BitVec.eq_of_getLsbD_eq
  intro j hj
  rw [Int32.toBitVec_or, BitVec.getLsbD_or]
  show ((BitVec.ofNat 32 _).getLsbD j || (BitVec.ofNat 32 _).getLsbD j) = (BitVec.ofNat 32 _).getLsbD j
  rw [BitVec.getLsbD_ofNat, BitVec.getLsbD_ofNat, BitVec.getLsbD_ofNat, decide_eq_true hj, Bool.true_and, Bool.true_and, Bool.true_and, Nat.two_pow_add_eq_or_of_lt h, Nat.testBit_or, Bool.or_comm]
theorem zn_or0 (x : Int32) : x ||| (0 : Int32) = x := by
  apply Int32.toBitVec_inj.mp
  rw [Int32.toBitVec_or]
  show x.toBitVec ||| 0#32 = _
  simp
/-- a limb of a shifted number, out of two limbs -/
theorem zn_shd {a p : Nat} (hp : p < 30) : a / 2 ^ p % 1073741824 = 2 ^ (30 - p) * (a / 1073741824 % 1073741824 % 2 ^ p) + a % 1073741824 / 2 ^ p := by
  have hp0 := Nat.two_pow_pos p
  have e : (1073741824 : Nat) = 2 ^ p * 2 ^ (30 - p) := by rw [← Nat.pow_add, show p + (30 - p) = 30 from by omega]
  have e1 : a % 1073741824 / 2 ^ p = a / 2 ^ p % 2 ^ (30 - p) := by
    rw [e, Nat.mod_mul_right_div_self]
  have e2 : a / 1073741824 % 1073741824 % 2 ^ p = a / 2 ^ p / 2 ^ (30 - p) % 2 ^ p := by
    rw [Nat.mod_mod_of_dvd _ ⟨2 ^ (30 - p), e⟩, Nat.div_div_eq_div_mul, ← e]
  rw [e1, e2]
  generalize a / 2 ^ p = b
  have e3 : (1073741824 : Nat) = 2 ^ (30 - p) * 2 ^ p := by rw [e, Nat.mul_comm]
  rw [e3, Nat.mod_mul, Nat.add_comm]
theorem zD_shift (X : Int) (i l p : Nat) : zD (X / 2 ^ (30 * l + p)) i = zD X (i + l) / 2 ^ p := by
  unfold zD
  rw [zn_dd, zn_dd]
  congr 2; omega
theorem zr_shiftDown {nr t s : Nat} (hn : nr < 67108864) (ht : t ≤ nr) (hs : s < 67108864) {r : zRow} {X : Int} {post : zRow → Prop} (hr : zL t r X) (hX : zD X t = 0) (k : ∀ r' : zRow, zL t r' (X / 2 ^ s) → (∀ j : Nat, t ≤ j → r' j = r j) → post r') : zw_X1_shiftDown nr r (nI s) (nI t) post := by
  have hX0 := (zD_bound hX).1
  refine And.intro (fun c => ?_) (fun c => ?_)
  · intro x3 e3
    rw [if_neg (nI_nlt ht (by omega))] at e3
    refine And.intro (by decide) (fun x4 e4 => And.intro (by decide) (fun x5 e5 => ?_))
    rw [show (30 : Int32) = nI 30 from rfl, pk_div (by omega) (by omega) (by omega)] at e4
    rw [show (30 : Int32) = nI 30 from rfl, pk_rem (by omega) (by omega) (by omega)] at e5
    subst e3 e4 e5
    obtain ⟨l, hl⟩ : ∃ l, s / 30 = l := ⟨_, rfl⟩
    obtain ⟨p, hp⟩ : ∃ p, s % 30 = p := ⟨_, rfl⟩
    rw [hl, hp]
    have es : s = 30 * l + p := by omega
    have hp30 : p < 30 := by omega
    rw [es] at k
    have hl67 : l < 67108864 := by omega
    clear hl hp hs c
    have L : ∀ (d i : Nat) (r1 : zRow), i + d = t → zH t i r1 (X / 2 ^ (30 * l + p)) X → (∀ j : Nat, t ≤ j → r1 j = r j) → l < 67108864 → zw_X1_shiftDown_27 nr (nI t) (nI l) (nI p) (fun r => post r) (d + 1) (nI i) r1 := by
      intro d
      induction d with
      | zero => intro i r1 e h1 h2 _; exact And.intro (fun _ => k r1 (zH_out h1 (by omega)) h2) (fun c => absurd (nI_le (by omega) (by omega)) c)
      | succ d ih =>
        intro i r1 e h1 h2 hl
        refine And.intro (fun c => absurd c (nI_ge (by omega) (by omega))) (fun _ => ?_)
        intro x7 e7
        rw [nI_add] at e7
        subst e7
        obtain ⟨a, ha⟩ : ∃ a : Nat, (a : Int) = zD X (i + l) := ⟨(zD X (i + l)).toNat, by have := zD_nonneg (i + l) hX0; omega⟩
        have hdig : zD (X / 2 ^ (30 * l + p)) i % 1073741824 = ((2 ^ (30 - p) * (a / 1073741824 % 1073741824 % 2 ^ p) + a % 1073741824 / 2 ^ p : Nat) : Int) := by
          rw [zD_shift, ← ha, ← zn_shd hp30]
          simp
        have hlow : a % 1073741824 / 2 ^ p < 2 ^ (30 - p) := by
          rw [Nat.div_lt_iff_lt_mul (Nat.two_pow_pos p), ← Nat.pow_add, show 30 - p + p = 30 from by omega]
          exact Nat.mod_lt _ (by decide)
        have hbig : 2 ^ (30 - p) * (a / 1073741824 % 1073741824 % 2 ^ p) + a % 1073741824 / 2 ^ p < 1073741824 := by
          rw [← zn_shd hp30]; exact Nat.mod_lt _ (by decide)
        have next : ∀ v : Int32, v = nI (2 ^ (30 - p) * (a / 1073741824 % 1073741824 % 2 ^ p) + a % 1073741824 / 2 ^ p) → ∀ r_14 : zRow, r_14 = upd r1 (nI i).toNatClampNeg v → ∀ x6 : Int32, x6 = nI i + (1 : Int32) → zw_X1_shiftDown_27 nr (nI t) (nI l) (nI p) (fun r => post r) (d + 1) x6 r_14 := by
          intro v hv r4 e4 x6 e6
          rw [e6, nI_1]
          rw [nI_clamp (by omega)] at e4
          refine ih (i + 1) r4 (by omega) ?_ (fun j hj => ?_) hl
          · rw [e4]; exact zH_step h1 (by rw [hv, hdig]; exact nI_toInt (by omega))
          · rw [e4, pk_un (by omega)]; exact h2 j hj
        have hold : ∀ q : Nat, i ≤ q → q < t → r1 q = nI (zD X q % 1073741824).toNat := fun q hq hq2 => zn_ofI (by rw [h1 q hq2, if_neg (by omega)]; omega)
        refine ⟨fun v => v = nI (a % 1073741824 / 2 ^ p), ?_, ?_⟩
        · rintro v rfl
          have ha1 : (a / 1073741824 : Nat) = (zD X (i + l + 1)).toNat := by rw [zD_succ, ← ha]; omega
          refine And.intro (fun c => And.intro (vp_in_nI (by omega) (by omega)) (next _ ?_)) (fun c => ?_)
          · rw [nI_1] at c
            have c2 := (nI_leI (by omega) (by omega)).mp c
            rw [zn_or0, show a / 1073741824 = 0 from by rw [ha1, zD_up hX _ c2]; rfl]
            simp
          · rw [nI_1] at c ⊢
            have c2 : ¬ t ≤ i + l + 1 := fun q => c ((nI_leI (by omega) (by omega)).mpr q)
            refine And.intro (vp_in_nI (by omega) (by omega)) ?_
            intro x9 e9
            refine And.intro (vp_in_nI (by omega) (by omega)) (next _ ?_)
            rw [nI_clamp (by omega), hold _ (by omega) (by omega), zn_shlm (by omega) hp30] at e9
            rw [e9, zn_orI hlow]
            congr 4
            have := zD_nonneg (i + l + 1) hX0
            omega
        · refine And.intro (fun c => ?_) (fun c => ?_)
          · have c2 := (nI_leI (by omega) (by omega)).mp c
            have : a = 0 := by rw [zD_up hX _ c2] at ha; omega
            subst this
            simp; rfl
          · have c2 : ¬ t ≤ i + l := fun q => c ((nI_leI (by omega) (by omega)).mpr q)
            refine And.intro (vp_in_nI (by omega) (by omega)) ?_
            rw [nI_clamp (by omega), hold _ (by omega) (by omega), pk_ushrN (by omega) (nI p) p (zn_su p (by omega)), ← ha]
            congr 2
    exact ⟨_, L t 0 r (by omega) (zH_in _ hr) (fun _ _ => rfl) hl67⟩
  · have : s = 0 := by
      rcases Nat.eq_zero_or_pos s with q | q
      · exact q
      · exact absurd (show (0 : Int32) < nI s from nI_lt (a := 0) q (by omega)) c
    subst this
    exact k r (by simpa using hr) (fun _ _ => rfl)
theorem zr_takeOff {nr nb t : Nat} (hn : nr < 2000000) (hn2 : nb < 2000000) (ht : t ≤ nr) (ht2 : t ≤ nb) {r b : zRow} {G L : Int} {post : zRow → Prop} (hr : zL t r G) (hb : zL t b L) (hG : zD G t = 0) (hL : zD L t = 0) (hlt : L < G) (k : ∀ (r' : zRow) (s : Nat) (m : Int), 0 ≤ m → G - L = 2 ^ s * (2 * m + 1) → zL t r' (2 * m + 1) → (∀ j : Nat, t ≤ j → r' j = r j) → post r') : zw_X1_takeOff nr nb r b (nI t) post := by
  have hL0 := (zD_bound hL).1
  have hz : zD (G - L) t = 0 := zD_small (by omega) (by have := (zD_bound hG).2; omega)
  have LL : ∀ (d i : Nat) (c : Int32) (r1 : zRow), i + d = t → zH t i r1 (G - L) G → (∀ j : Nat, t ≤ j → r1 j = r j) → zD (G - L) i = c.toInt + (zD G i - zD L i) → -1 ≤ c.toInt → c.toInt ≤ 0 → zw_X1_takeOff_5 nr nb b (nI t) (fun (r_11 : zRow) => zw_X1_twosOf nr r_11 (nI t) (fun (v_12 : Int32) => zw_X1_shiftDown nr r_11 v_12 (nI t) (fun (r_13 : zRow) => post r_13))) (d + 1) c (nI i) r1 := by
    intro d
    induction d with
    | zero =>
      intro i c r1 e h1 h2 _ _ _
      refine And.intro (fun _ => ?_) (fun c => absurd (nI_le (by omega) (by omega)) c)
      have h3 := zH_out h1 (by omega)
      refine zr_twosOf (by omega) ht h3 hz (by omega) (fun s m hs hm e => ?_)
      refine zr_shiftDown (by omega) ht (by omega) h3 hz (fun r' h4 h5 => ?_)
      rw [e, Int.mul_ediv_cancel_left _ (Int.ne_of_gt (zn_ppos s))] at h4
      exact k r' s m hm e h4 (fun j hj => by rw [h5 j hj]; exact h2 j hj)
    | succ d ih =>
      intro i c r1 e h1 h2 hzz hc1 hc2
      refine And.intro (fun c => absurd c (nI_ge (by omega) (by omega))) (fun _ => And.intro (fun c => absurd c (nI_ge (by omega) (by omega))) (fun _ => And.intro (fun c => absurd c (nI_ge (by omega) (by omega))) (fun _ => And.intro (vp_in_nI (by omega) (by omega)) (And.intro (vp_in_nI (by omega) (by omega)) ?_))))
      intro x3 e3
      rw [nI_clamp (by omega)] at e3
      have hd := zH_at h1 (show i < t by omega)
      have hdb := hb i (by omega)
      have ex : x3.toInt = c.toInt + (zD G i % 1073741824 - zD L i % 1073741824) := by rw [e3]; exact zn_add rfl (zn_sub hd hdb (by omega) (by omega)) (by omega) (by omega)
      refine And.intro (vp_in_nI (by omega) (by omega)) ?_
      intro r4 e4 x5 e5 x6 e6
      rw [e6, nI_1]
      rw [nI_clamp (by omega)] at e4
      have e7 : x5.toInt = (c.toInt + (zD G i % 1073741824 - zD L i % 1073741824)) / 1073741824 := by rw [e5]; exact zn_sr30 ex
      refine ih (i + 1) x5 r4 (by omega) ?_ (fun j hj => ?_) ?_ ?_ ?_
      · rw [e4]; exact zH_step h1 (by rw [zn_mk30 ex, hzz]; omega)
      · rw [e4, pk_un (by omega)]; exact h2 j hj
      · rw [zD_succ, zD_succ, zD_succ, hzz, e7]; omega
      · rw [e7]; omega
      · rw [e7]; omega
  exact ⟨_, LL t 0 0 r (by omega) (zH_in _ hr) (fun _ _ => rfl) (by rw [zD_0, zD_0, zD_0, zn_0]; omega) (by decide) (by decide)⟩
/-! the common divisor -/
theorem zn_cop {b : Nat} (hb : b % 2 = 1) (s : Nat) : Nat.Coprime (2 ^ s) b := by
  apply Nat.Coprime.pow_left
  show Nat.gcd 2 b = 1
  rw [Nat.gcd_rec, hb]; decide
theorem zn_gstep {a b s m : Nat} (hb : b % 2 = 1) (hlt : b < a) (e : a - b = 2 ^ s * m) : Nat.gcd m b = Nat.gcd a b := by
  rw [← Nat.gcd_sub_self_left (Nat.le_of_lt hlt), e, Nat.Coprime.gcd_mul_left_cancel m (zn_cop hb s)]
theorem zL_cut {n t : Nat} {r : zRow} {X : Int} (h : zL n r X) (ht : t ≤ n) : zL t r X := fun k hk => h k (by omega)
theorem zL_grow {n t : Nat} {r r0 : zRow} {X Y : Int} (h : zL t r X) (hX : zD X t = 0) (h0 : zL n r0 Y) (hY : zD Y t = 0) (hs : ∀ j : Nat, t ≤ j → r j = r0 j) : zL n r X := fun k hk => by
  by_cases q : k < t
  · exact h k q
  · rw [hs k (by omega), h0 k hk, zD_up hY k (by omega), zD_up hX k (by omega)]
theorem zD_le {X Y : Int} {t : Nat} (h : zD Y t = 0) (h0 : 0 ≤ X) (hle : X ≤ Y) : zD X t = 0 := zD_small h0 (by have := (zD_bound h).2; omega)
theorem zr_meet {n : Nat} (hn : n < 2000000) {a b : zRow} {A B : Nat} {post : zRow → zRow → Prop} (hn1 : 1 ≤ n) (ha : zL n a A) (hb : zL n b B) (hA : zD A n = 0) (hB : zD B n = 0) (oA : A % 2 = 1) (oB : B % 2 = 1) (hAB : A * B < 2 ^ (60 * n)) (k : ∀ a' b' : zRow, zL n a' ((Nat.gcd A B : Nat) : Int) → post a' b') : zw_X1_meetAtDivisor n n a b post := by
  intro x2 e2 x3 e3
  rw [if_neg (nI_nlt (Nat.le_refl n) (by omega))] at e2
  subst e2
  have e3' : x3 = nI (60 * n) := by rw [e3, show (60 : Int32) = nI 60 from rfl, pk_mul]
  subst e3'
  -- the inner loop
  have L1 : ∀ (a b : zRow) (A B : Nat) (c3 : Int32) (K : Int32 → Prop), zL n a A → zL n b B → (∀ t : Nat, 1 ≤ t → t ≤ n → zD A t = 0 → zD B t = 0 → K (nI t)) → ∀ t : Nat, 1 ≤ t → t ≤ n → zD A t = 0 → zD B t = 0 → zw_X1_meetAtDivisor_17 n n a b c3 K t (nI t) := by
    intro a b A B c3 K ha hb hK t
    induction t with
    | zero => intro h; omega
    | succ t ih =>
      intro h1 h2 h3 h4
      have e1 : nI (t + 1) - (1 : Int32) = nI t := nI_pred t
      refine And.intro (fun _ => hK _ h1 h2 h3 h4) (fun c => ?_)
      have ct : ¬ t + 1 ≤ 1 := fun q => c (nI_le (b := 1) q (by omega))
      rw [e1, nI_clamp (by omega)]
      refine And.intro (vp_in_nI (by omega) (by omega)) (And.intro (fun _ => hK _ h1 h2 h3 h4) (fun c1 => And.intro (vp_in_nI (by omega) (by omega)) (And.intro (fun _ => hK _ h1 h2 h3 h4) (fun c2 => ?_))))
      intro x ex
      rw [pk_m1] at ex
      subst ex
      have da := ha t (by omega)
      have db := hb t (by omega)
      rw [c1, zn_0] at da
      rw [c2, zn_0] at db
      rw [zD_succ] at h3 h4
      exact ih (by omega) (by omega) (by omega) (by omega)
  have L2 : ∀ (s t : Nat) (a b : zRow) (A B : Nat), (∀ a' b' : zRow, zL n a' ((Nat.gcd A B : Nat) : Int) → post a' b') → 1 ≤ t → t ≤ n → s ≤ 60 * n → zL n a A → zL n b B → zD A t = 0 → zD B t = 0 → A % 2 = 1 → B % 2 = 1 → A * B < 2 ^ s → zw_X1_meetAtDivisor_13 n n (fun r_18 r_19 => post r_18 r_19) (fun r_20 r_21 => post r_20 r_21) (s + 1) (nI t) (nI s) a b := by
    intro s
    induction s with
    | zero =>
      intro t a b A B k h1 h2 h3 ha hb hA hB oA oB hAB
      exfalso
      have : 0 < A * B := Nat.mul_pos (by omega) (by omega)
      simp at hAB
      omega
    | succ s ih =>
      intro t a b A B k h1 h2 h3 ha hb hA hB oA oB hAB
      refine And.intro (fun c => absurd c (nI_nle (by omega) (by omega))) (fun _ => ⟨t, ?_⟩)
      refine L1 a b A B _ _ ha hb (fun t' g1 g2 g3 g4 => ?_) t h1 h2 hA hB
      refine zr_compare (by omega) (by omega) g2 g2 (zL_cut ha g2) (zL_cut hb g2) g3 g4 ?_
      have fin : ∀ {A B M q : Nat}, A * B < 2 ^ (s + 1) → A - B = 2 ^ q * M → M % 2 = 1 → A % 2 = 1 → B % 2 = 1 → B < A → M * B < 2 ^ s := by
        intro A B M q h1 h2 hM h3 h4 h5
        have h6 : q ≠ 0 := fun w => by subst w; simp at h2; omega
        obtain ⟨q', rfl⟩ : ∃ q', q = q' + 1 := ⟨q - 1, by omega⟩
        have h7 : 2 * M ≤ A := by
          have e : 2 * M ≤ 2 ^ (q' + 1) * M := by
            rw [Nat.pow_succ]
            have := Nat.two_pow_pos q'
            exact Nat.mul_le_mul_right M (by omega)
          omega
        have h8 := Nat.mul_le_mul_right B h7
        rw [Nat.mul_assoc] at h8
        rw [Nat.pow_succ] at h1
        omega
      have step : ∀ {A B : Nat} {r r' : zRow} {q : Nat} {m : Int}, 0 ≤ m → (A : Int) - B = 2 ^ q * (2 * m + 1) → zL n r A → zD A t' = 0 → zL t' r' (2 * m + 1) → (∀ j : Nat, t' ≤ j → r' j = r j) → B < A → ∃ M : Nat, M % 2 = 1 ∧ A - B = 2 ^ q * M ∧ zL n r' M ∧ zD M t' = 0 := by
        intro A B r r' q m hm e hr hA hr' hs hlt
        obtain ⟨m', rfl⟩ : ∃ m' : Nat, m = m' := ⟨m.toNat, by omega⟩
        have e2 : A - B = 2 ^ q * (2 * m' + 1) := by
          have : ((A - B : Nat) : Int) = ((2 ^ q * (2 * m' + 1) : Nat) : Int) := by
            rw [Int.natCast_sub (Nat.le_of_lt hlt), e]; push_cast; rfl
          exact_mod_cast this
        have hle : 2 * m' + 1 ≤ A - B := by rw [e2]; exact Nat.le_mul_of_pos_left _ (Nat.two_pow_pos q)
        have hz : zD ((2 * m' + 1 : Nat) : Int) t' = 0 := zD_le hA (by omega) (by omega)
        have hr2 : zL t' r' ((2 * m' + 1 : Nat) : Int) := by push_cast; exact hr'
        exact ⟨2 * m' + 1, by omega, e2, zL_grow hr2 hz hr hA hs, hz⟩
      rcases Nat.lt_trichotomy A B with w | w | w
      · rw [zsg_neg (by omega)]
        refine And.intro (fun _ => And.intro (fun _ => ?_) (fun c => absurd (by decide) c)) (fun c => absurd c (by decide))
        refine zr_takeOff hn hn g2 g2 (zL_cut hb g2) (zL_cut ha g2) g4 g3 (by omega) (fun r' q m hm e hr' hs => ?_)
        obtain ⟨M, hM, e2, hrM, hzM⟩ := step hm e hb g4 hr' hs w
        intro x ex
        rw [pk_m1] at ex
        subst ex
        refine ih t' a r' A M ?_ g1 g2 (by omega) ha hrM g3 hzM oA hM ?_
        · rw [Nat.gcd_comm, zn_gstep oA w e2, Nat.gcd_comm]; exact k
        · rw [Nat.mul_comm]; rw [Nat.mul_comm] at hAB; exact fin hAB e2 hM oB oA w
      · subst w
        rw [zsg_zero (by omega)]
        refine And.intro (fun c => absurd rfl c) (fun _ => k a b ?_)
        rw [Nat.gcd_self]; exact ha
      · rw [zsg_pos (by omega)]
        refine And.intro (fun _ => And.intro (fun c => absurd c (by decide)) (fun _ => ?_)) (fun c => absurd c (by decide))
        refine zr_takeOff hn hn g2 g2 (zL_cut ha g2) (zL_cut hb g2) g3 g4 (by omega) (fun r' q m hm e hr' hs => ?_)
        obtain ⟨M, hM, e2, hrM, hzM⟩ := step hm e ha g3 hr' hs w
        intro x ex
        rw [pk_m1] at ex
        subst ex
        refine ih t' r' b M B ?_ g1 g2 (by omega) hrM hb hzM g4 hM oB ?_
        · rw [zn_gstep oB w e2]; exact k
        · exact fin hAB e2 hM oA oB w
  exact ⟨_, L2 (60 * n) n a b A B k hn1 (Nat.le_refl n) (Nat.le_refl _) ha hb hA hB oA oB hAB⟩

/-! the exact division -/
theorem zr_inverseOf {odd : Int32} {post : Int32 → Prop} (ho : odd.toInt % 2 = 1) (k : ∀ v : Int32, odd * v = 1 → post v) : zw_X1_inverseOf odd post := by
  have e0 : ∃ u : Int32, 1 - odd * odd = 8 * u := by
    have h1 : odd = Int32.ofInt (2 * (odd.toInt / 2) + 1) := by
      rw [show 2 * (odd.toInt / 2) + 1 = odd.toInt from by omega, Int32.ofInt_toInt]
    generalize odd.toInt / 2 = m at h1
    obtain ⟨w, hw⟩ : ∃ w : Int, m * (m + 1) = 2 * w := by
      rcases Int.emod_two_eq m with q | q
      · exact ⟨m / 2 * (m + 1), by rw [← Int.mul_assoc, show 2 * (m / 2) = m from by omega]⟩
      · exact ⟨m * ((m + 1) / 2), by rw [Int.mul_left_comm, show 2 * ((m + 1) / 2) = m + 1 from by omega]⟩
    refine ⟨Int32.ofInt (-w), ?_⟩
    rw [h1, show (1 : Int32) = Int32.ofInt 1 from rfl, show (8 : Int32) = Int32.ofInt 8 from rfl, ← Int32.ofInt_mul, ← Int32.ofInt_mul, ← Int32.ofInt_sub]
    congr 1
    grind
  obtain ⟨u, hu⟩ := e0
  have st : ∀ x : Int32, 1 - odd * (x * (2 - odd * x)) = (1 - odd * x) * (1 - odd * x) := fun x => by grind
  have fin : ∀ x1 x2 x3 x4 : Int32, x1 = odd * (2 - odd * odd) → x2 = x1 * (2 - odd * x1) → x3 = x2 * (2 - odd * x2) → x4 = x3 * (2 - odd * x3) → odd * x4 = 1 := by
    intro x1 x2 x3 x4 h1 h2 h3 h4
    have a1 : 1 - odd * x1 = 64 * (u * u) := by rw [h1, st, hu]; grind
    have a2 : 1 - odd * x2 = 4096 * (u * u * (u * u)) := by rw [h2, st, a1]; grind
    generalize u * u * (u * u) = y at a2
    have a3 : 1 - odd * x3 = 16777216 * (y * y) := by rw [h3, st, a2]; grind
    have a4 : 1 - odd * x4 = 0 := by
      rw [h4, st, a3]
      have : (16777216 : Int32) * 16777216 = 0 := by decide
      grind
    grind
  refine ⟨5, And.intro (fun c => absurd c (by decide)) (fun _ => ?_)⟩
  intro x1 e1 i1 f1
  subst f1
  refine And.intro (fun c => absurd c (by decide)) (fun _ => ?_)
  intro x2 e2 i2 f2
  subst f2
  refine And.intro (fun c => absurd c (by decide)) (fun _ => ?_)
  intro x3 e3 i3 f3
  subst f3
  refine And.intro (fun c => absurd c (by decide)) (fun _ => ?_)
  intro x4 e4 i4 f4
  subst f4
  exact And.intro (fun _ => k x4 (fin x1 x2 x3 x4 e1 e2 e3 e4)) (fun c => absurd (by decide) c)
theorem zn_bmodm (n : Int) : n.bmod (2 ^ 32) % 1073741824 = n % 1073741824 := by
  have e : (2 : Nat) ^ 32 = 4294967296 := by decide
  rw [e]; simp only [Int.bmod]; split <;> omega
theorem zr_divideExactly {nr nb : Nat} (hn : nr < 1073741824) (hn2 : nb < 1073741824) {r b : zRow} {X D Q : Int} {post : zRow → Prop} (hb0 : 0 < nb) (hr : zL nr r X) (hb : zL nb b D) (hD : zD D nb = 0) (oD : D % 2 = 1) (hX : X = D * Q) (k : ∀ r' : zRow, zL nr r' Q → post r') : zw_X1_divideExactly nr nb r b post := by
  refine And.intro (fun _ => And.intro (vp_in_nI (n := 0) hb0 (by omega)) ?_) (fun c => absurd c (nI_ne0 hb0 (by omega)))
  have hb00 : (b 0).toInt = D % 1073741824 := by have := hb 0 hb0; rwa [zD_0] at this
  refine zr_inverseOf (by rw [show (0 : Int32).toNatClampNeg = 0 from rfl, hb00]; omega) (fun v hv => ?_)
  rw [show (0 : Int32).toNatClampNeg = 0 from rfl] at hv
  have hv2 : (D * v.toInt) % 1073741824 = 1 := by
    have h1 := congrArg Int32.toInt hv
    rw [Int32.toInt_mul, zn_1, hb00] at h1
    have h2 := zn_bmodm (D % 1073741824 * v.toInt)
    rw [h1] at h2
    have h3 : (D * v.toInt) % 1073741824 = (D % 1073741824 * v.toInt) % 1073741824 := by
      have p1 := Int.mul_emod D v.toInt 1073741824
      have p2 := Int.mul_emod (D % 1073741824) v.toInt 1073741824
      rw [Int.emod_emod_of_dvd D (Int.dvd_refl _)] at p2
      rw [p1, p2]
    omega
  have L : ∀ (d i : Nat) (r : zRow), i + d = nr → (∀ j : Nat, j < i → (r j).toInt = zD Q j % 1073741824) → zT nr i r (D * zD Q i) → zw_X1_divideExactly_15 nr nb b v (fun r => post r) (d + 1) (nI i) r := by
    intro d
    induction d with
    | zero => intro i r e h _; exact And.intro (fun _ => k r (fun j hj => h j (by omega))) (fun c => absurd (nI_le (by omega) (by omega)) c)
    | succ d ih =>
      intro i r e h hT
      refine And.intro (fun c => absurd c (nI_ge (by omega) (by omega))) (fun _ => And.intro (vp_in_nI (by omega) (by omega)) ?_)
      intro x4 e4
      rw [nI_clamp (by omega)] at e4
      have hx : x4.toInt = zD Q i % 1073741824 := by
        rw [e4, zn_mk30 rfl, Int32.toInt_mul, zn_bmodm, zT_at hT (by omega), Int.mul_emod, Int.emod_emod, ← Int.mul_emod, Int.mul_assoc, Int.mul_comm (zD Q i), ← Int.mul_assoc, Int.mul_emod, hv2, Int.one_mul, Int.emod_emod]
      have hneg : (-x4).toInt = -(zD Q i % 1073741824) := zn_neg hx (by omega)
      refine zr_gainRaised (by omega) hn2 (by omega) hT hb hD (zn_wide hneg) (by omega) (by omega) (fun r' hs hT' => ?_)
      refine And.intro (vp_in_nI (by omega) (by omega)) ?_
      intro r9 e9 x3 e3
      rw [nI_clamp (by omega)] at e9
      rw [e3, nI_1]
      refine ih (i + 1) r9 (by omega) (fun j hj => ?_) ?_
      · rw [e9]
        by_cases q : j = i
        · subst q; rw [pk_us]; exact hx
        · rw [pk_un q, hs j (by omega)]; exact h j (by omega)
      · have e5 : D * zD Q i + D * -(zD Q i % 1073741824) = 1073741824 * (D * (zD Q i / 1073741824)) := by
          rw [← Int.mul_add, Int.mul_left_comm]; congr 1; omega
        rw [e5] at hT'
        have h6 := zT_step hT'
        rw [Int.mul_ediv_cancel_left _ (by decide)] at h6
        rw [zD_succ]
        intro q hq hq2
        rw [e9, pk_un (by omega)]
        exact h6 q hq hq2
  refine ⟨_, L nr 0 r (by omega) (fun j hj => by omega) (fun j _ hj => ?_)⟩
  rw [hr j hj, zD_0, hX, Nat.sub_zero]
