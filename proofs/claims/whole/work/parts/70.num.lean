/-! numbers: Int32 and Int64 as whole numbers -/
theorem zn_bm32 {n : Int} (h1 : -2147483648 ≤ n) (h2 : n < 2147483648) : n.bmod (2 ^ 32) = n := by
  have e : (2 : Nat) ^ 32 = 4294967296 := by decide
  rw [e]; simp only [Int.bmod]; split <;> omega
theorem zn_bm64 {n : Int} (h1 : -9223372036854775808 ≤ n) (h2 : n < 9223372036854775808) : n.bmod (2 ^ 64) = n := by
  have e : (2 : Nat) ^ 64 = 18446744073709551616 := by decide
  rw [e]; simp only [Int.bmod]; split <;> omega
theorem zn_rng (x : Int32) : -2147483648 ≤ x.toInt ∧ x.toInt < 2147483648 := by
  have a := x.le_toInt
  have b := x.toInt_lt
  omega
theorem zn_add {x y : Int32} {a b : Int} (hx : x.toInt = a) (hy : y.toInt = b) (h1 : -2147483648 ≤ a + b) (h2 : a + b < 2147483648) : (x + y).toInt = a + b := by
  rw [Int32.toInt_add, hx, hy]; exact zn_bm32 h1 h2
theorem zn_sub {x y : Int32} {a b : Int} (hx : x.toInt = a) (hy : y.toInt = b) (h1 : -2147483648 ≤ a - b) (h2 : a - b < 2147483648) : (x - y).toInt = a - b := by
  rw [Int32.toInt_sub, hx, hy]; exact zn_bm32 h1 h2
theorem zn_mul {x y : Int32} {a b : Int} (hx : x.toInt = a) (hy : y.toInt = b) (h1 : -2147483648 ≤ a * b) (h2 : a * b < 2147483648) : (x * y).toInt = a * b := by
  rw [Int32.toInt_mul, hx, hy]; exact zn_bm32 h1 h2
theorem zn_neg {x : Int32} {a : Int} (hx : x.toInt = a) (h1 : -2147483648 < a) : (-x).toInt = -a := by
  have b := zn_rng x
  rw [Int32.toInt_neg, hx]; exact zn_bm32 (by omega) (by omega)
theorem zn_addL {x y : Int64} {a b : Int} (hx : x.toInt = a) (hy : y.toInt = b) (h1 : -9223372036854775808 ≤ a + b) (h2 : a + b < 9223372036854775808) : (x + y).toInt = a + b := by
  rw [Int64.toInt_add, hx, hy]; exact zn_bm64 h1 h2
theorem zn_subL {x y : Int64} {a b : Int} (hx : x.toInt = a) (hy : y.toInt = b) (h1 : -9223372036854775808 ≤ a - b) (h2 : a - b < 9223372036854775808) : (x - y).toInt = a - b := by
  rw [Int64.toInt_sub, hx, hy]; exact zn_bm64 h1 h2
theorem zn_mulL {x y : Int64} {a b : Int} (hx : x.toInt = a) (hy : y.toInt = b) (h1 : -9223372036854775808 ≤ a * b) (h2 : a * b < 9223372036854775808) : (x * y).toInt = a * b := by
  rw [Int64.toInt_mul, hx, hy]; exact zn_bm64 h1 h2
theorem zn_negL {x : Int64} {a : Int} (hx : x.toInt = a) (h1 : -9223372036854775808 < a) (h2 : a < 9223372036854775808) : (-x).toInt = -a := by
  rw [Int64.toInt_neg, hx]; exact zn_bm64 (by omega) (by omega)
theorem zn_wide {x : Int32} {a : Int} (hx : x.toInt = a) : (Int32.toInt64 x).toInt = a := by rw [Int32.toInt_toInt64, hx]
theorem zn_nar {x : Int64} {a : Int} (hx : x.toInt = a) (h1 : -2147483648 ≤ a) (h2 : a < 2147483648) : (Int64.toInt32 x).toInt = a := by
  rw [Int64.toInt_toInt32, hx]; exact zn_bm32 h1 h2
theorem zn_tn32 (x : Int32) : (x.toInt : Int) = if 2 * x.toBitVec.toNat < 4294967296 then (x.toBitVec.toNat : Int) else (x.toBitVec.toNat : Int) - 4294967296 := BitVec.toInt_eq_toNat_cond x.toBitVec
theorem zn_tn64 (x : Int64) : (x.toInt : Int) = if 2 * x.toBitVec.toNat < 18446744073709551616 then (x.toBitVec.toNat : Int) else (x.toBitVec.toNat : Int) - 18446744073709551616 := BitVec.toInt_eq_toNat_cond x.toBitVec
theorem zn_and64 (x : Int64) {m : Int64} (k : Nat) (hm : m.toBitVec.toNat = 2 ^ k - 1) : (x &&& m).toBitVec.toNat = x.toBitVec.toNat % 2 ^ k := by
  rw [Int64.toBitVec_and, BitVec.toNat_and, hm, Nat.and_two_pow_sub_one_eq_mod]
theorem zn_mk30 {x : Int32} {a : Int} (hx : x.toInt = a) : (x &&& 1073741823).toInt = a % 1073741824 := by
  rw [pk_and x 30 (by decide), nI_toInt (Nat.lt_trans (Nat.mod_lt _ (by decide)) (by decide)), ← hx, zn_tn32 x]
  have h := x.toBitVec.isLt
  split <;> omega
theorem zn_mk15 {x : Int32} {a : Int} (hx : x.toInt = a) : (x &&& 32767).toInt = a % 32768 := by
  rw [pk_and x 15 (by decide), nI_toInt (Nat.lt_trans (Nat.mod_lt _ (by decide)) (by decide)), ← hx, zn_tn32 x]
  have h := x.toBitVec.isLt
  split <;> omega
theorem zn_mk1 {x : Int32} {a : Int} (hx : x.toInt = a) : (x &&& 1).toInt = a % 2 := by
  rw [pk_and x 1 (by decide), nI_toInt (Nat.lt_trans (Nat.mod_lt _ (by decide)) (by decide)), ← hx, zn_tn32 x]
  have h := x.toBitVec.isLt
  split <;> omega
theorem zn_mk30L {x : Int64} {a : Int} (hx : x.toInt = a) : (x &&& 1073741823).toInt = a % 1073741824 := by
  have e := zn_and64 x (m := 1073741823) 30 (by decide)
  rw [zn_tn64 (x &&& 1073741823), e, ← hx, zn_tn64 x]
  have h := x.toBitVec.isLt
  split <;> split <;> omega
theorem zn_mk15L {x : Int64} {a : Int} (hx : x.toInt = a) : (x &&& 32767).toInt = a % 32768 := by
  have e := zn_and64 x (m := 32767) 15 (by decide)
  rw [zn_tn64 (x &&& 32767), e, ← hx, zn_tn64 x]
  have h := x.toBitVec.isLt
  split <;> split <;> omega
theorem zn_sr30 {x : Int32} {a : Int} (hx : x.toInt = a) : (x >>> ((30 : Int32) &&& 31)).toInt = a / 1073741824 := by
  rw [pk_shr x _ 30 (by decide), hx, Int.shiftRight_eq_div_pow]; rfl
theorem zn_sr29 {x : Int32} {a : Int} (hx : x.toInt = a) : (x >>> ((29 : Int32) &&& 31)).toInt = a / 536870912 := by
  rw [pk_shr x _ 29 (by decide), hx, Int.shiftRight_eq_div_pow]; rfl
theorem zn_sr15 {x : Int32} {a : Int} (hx : x.toInt = a) : (x >>> ((15 : Int32) &&& 31)).toInt = a / 32768 := by
  rw [pk_shr x _ 15 (by decide), hx, Int.shiftRight_eq_div_pow]; rfl
theorem zn_sr1 {x : Int32} {a : Int} (hx : x.toInt = a) : (x >>> ((1 : Int32) &&& 31)).toInt = a / 2 := by
  rw [pk_shr x _ 1 (by decide), hx, Int.shiftRight_eq_div_pow]; rfl
theorem zn_srL (a s : Int64) (k : Nat) (hs : (s.toBitVec.smod 64).toNat = k) : (a >>> s).toInt = a.toInt >>> k := by
  show (a.toBitVec.sshiftRight (s.toBitVec.smod 64).toNat).toInt = _
  rw [hs, BitVec.toInt_sshiftRight]
  rfl
theorem zn_sr30L {x : Int64} {a : Int} (hx : x.toInt = a) : (x >>> (Int32.toInt64 (30 : Int32) &&& 63)).toInt = a / 1073741824 := by
  rw [zn_srL x _ 30 (by decide), hx, Int.shiftRight_eq_div_pow]; rfl
theorem zn_sr15L {x : Int64} {a : Int} (hx : x.toInt = a) : (x >>> (Int32.toInt64 (15 : Int32) &&& 63)).toInt = a / 32768 := by
  rw [zn_srL x _ 15 (by decide), hx, Int.shiftRight_eq_div_pow]; rfl
theorem zn_le {x y : Int32} : x ≤ y ↔ x.toInt ≤ y.toInt := Int32.le_iff_toInt_le
theorem zn_lt {x y : Int32} : x < y ↔ x.toInt < y.toInt := Int32.lt_iff_toInt_lt
theorem zn_eq {x y : Int32} : x = y ↔ x.toInt = y.toInt := Int32.toInt_inj.symm
theorem zn_leL {x y : Int64} : x ≤ y ↔ x.toInt ≤ y.toInt := Int64.le_iff_toInt_le
theorem zn_ltL {x y : Int64} : x < y ↔ x.toInt < y.toInt := Int64.lt_iff_toInt_lt
theorem zn_eqL {x y : Int64} : x = y ↔ x.toInt = y.toInt := Int64.toInt_inj.symm
theorem zn_0 : (0 : Int32).toInt = 0 := by decide
theorem zn_1 : (1 : Int32).toInt = 1 := by decide
theorem zn_m1 : (-1 : Int32).toInt = -1 := by decide
theorem zn_0L : (0 : Int64).toInt = 0 := by decide
theorem zn_1L : (1 : Int64).toInt = 1 := by decide
/-- a product of a limb and a factor -/
theorem zn_xf {x f : Int} (h0 : 0 ≤ x) (h1 : x < 1073741824) (h2 : -2147483648 ≤ f) (h3 : f ≤ 2147483648) : -2305843009213693952 ≤ x * f ∧ x * f ≤ 2305843009213693952 := by
  have a := Int.mul_le_mul_of_nonneg_left h3 h0
  have b := Int.mul_le_mul_of_nonneg_left h2 h0
  omega
theorem zn_stepf {a f c e : Int} (h : e = c + a * f) : (c + a % 1073741824 * f) % 1073741824 = e % 1073741824 ∧ e / 1073741824 = (c + a % 1073741824 * f) / 1073741824 + a / 1073741824 * f := by
  have h1 : a = 1073741824 * (a / 1073741824) + a % 1073741824 := by omega
  have h2 : a * f = 1073741824 * (a / 1073741824 * f) + a % 1073741824 * f := by
    conv => lhs; rw [h1]
    rw [Int.add_mul, Int.mul_assoc]
  rw [h2] at h
  generalize a / 1073741824 * f = p at *
  generalize a % 1073741824 * f = q at *
  omega
theorem zn_stepg {a b f c e : Int} (h : e = c + (a + b * f)) : (c + (a % 1073741824 + b % 1073741824 * f)) % 1073741824 = e % 1073741824 ∧ e / 1073741824 = (c + (a % 1073741824 + b % 1073741824 * f)) / 1073741824 + (a / 1073741824 + b / 1073741824 * f) := by
  have h1 : b = 1073741824 * (b / 1073741824) + b % 1073741824 := by omega
  have h2 : b * f = 1073741824 * (b / 1073741824 * f) + b % 1073741824 * f := by
    conv => lhs; rw [h1]
    rw [Int.add_mul, Int.mul_assoc]
  rw [h2] at h
  generalize b / 1073741824 * f = p at *
  generalize b % 1073741824 * f = q at *
  omega
/-! limbs of 30 bits: zD X i is X without its i lowest limbs -/
def zD (X : Int) (i : Nat) : Int := X / 2 ^ (30 * i)
theorem zD_0 (X : Int) : zD X 0 = X := by unfold zD; simp
theorem zn_pow (a b : Nat) : (2 : Int) ^ (a + b) = 2 ^ a * 2 ^ b := by rw [Int.pow_add]
theorem zn_ppos (a : Nat) : (0 : Int) < 2 ^ a := Int.pow_pos (by decide)
theorem zn_dd (X : Int) (a b : Nat) : X / 2 ^ a / 2 ^ b = X / 2 ^ (a + b) := by
  rw [zn_pow, Int.ediv_ediv_of_nonneg (Int.le_of_lt (zn_ppos a))]
theorem zD_succ (X : Int) (i : Nat) : zD X (i + 1) = zD X i / 1073741824 := by
  unfold zD
  rw [show (1073741824 : Int) = 2 ^ 30 from by decide, zn_dd, show 30 * (i + 1) = 30 * i + 30 from by omega]
theorem zD_add (X : Int) (i j : Nat) : zD X (i + j) = zD (zD X i) j := by
  unfold zD
  rw [zn_dd, show 30 * (i + j) = 30 * i + 30 * j from by omega]
theorem zD_of0 (j : Nat) : zD 0 j = 0 := by unfold zD; simp
theorem zD_up {X : Int} {i : Nat} (h : zD X i = 0) : ∀ k : Nat, i ≤ k → zD X k = 0 := by
  intro k hk
  obtain ⟨j, rfl⟩ : ∃ j, k = i + j := ⟨k - i, by omega⟩
  rw [zD_add, h, zD_of0]
theorem zD_small {X : Int} {i : Nat} (h0 : 0 ≤ X) (h1 : X < 2 ^ (30 * i)) : zD X i = 0 := Int.ediv_eq_zero_of_lt h0 h1
theorem zD_bound {X : Int} {i : Nat} (h : zD X i = 0) : 0 ≤ X ∧ X < 2 ^ (30 * i) := by
  have a := zn_ppos (30 * i)
  have b := Int.emod_add_mul_ediv X (2 ^ (30 * i))
  have c := Int.emod_nonneg X (Int.ne_of_gt a)
  have d := Int.emod_lt_of_pos X a
  unfold zD at h
  rw [h] at b
  simp at b
  omega
theorem zD_mono {X Y : Int} (i : Nat) (h : X ≤ Y) : zD X i ≤ zD Y i := Int.ediv_le_ediv (zn_ppos _) h
theorem zD_nonneg {X : Int} (i : Nat) (h : 0 ≤ X) : 0 ≤ zD X i := Int.ediv_nonneg h (Int.le_of_lt (zn_ppos _))
theorem zD_pos0 {X : Int} {i : Nat} (h0 : 0 ≤ X) (h : zD X i ≠ 0) : 0 < X := by
  rcases Int.lt_or_le 0 X with q | q
  · exact q
  · have e : X = 0 := by omega
    subst e
    exact absurd (zD_of0 i) h
/-- the row r of n limbs holds X (as what it lacks, where X is below 0) -/
def zL (n : Nat) (r : zRow) (X : Int) : Prop := ∀ k : Nat, k < n → (r k).toInt = zD X k % 1073741824
/-- its i lowest limbs are Z's, the others are X's -/
def zH (n i : Nat) (r : zRow) (Z X : Int) : Prop := ∀ k : Nat, k < n → (r k).toInt = zD (if k < i then Z else X) k % 1073741824
/-- from limb p on it holds E -/
def zT (n p : Nat) (r : zRow) (E : Int) : Prop := ∀ k : Nat, p ≤ k → k < n → (r k).toInt = zD E (k - p) % 1073741824
theorem zH_in {n : Nat} {r : zRow} {X : Int} (Z : Int) (h : zL n r X) : zH n 0 r Z X := fun k hk => by rw [if_neg (by omega)]; exact h k hk
theorem zH_out {n i : Nat} {r : zRow} {Z X : Int} (h : zH n i r Z X) (hi : n ≤ i) : zL n r Z := fun k hk => by
  have := h k hk
  rwa [if_pos (by omega)] at this
theorem zH_at {n i : Nat} {r : zRow} {Z X : Int} (h : zH n i r Z X) (hi : i < n) : (r i).toInt = zD X i % 1073741824 := by
  have := h i hi
  rwa [if_neg (by omega)] at this
theorem zH_step {n i : Nat} {r : zRow} {Z X : Int} {v : Int32} (h : zH n i r Z X) (hv : v.toInt = zD Z i % 1073741824) : zH n (i + 1) (upd r i v) Z X := fun k hk => by
  by_cases e : k = i
  · subst e
    rw [pk_us, if_pos (by omega)]; exact hv
  · rw [pk_un e, h k hk]
    by_cases q : k < i
    · rw [if_pos q, if_pos (by omega)]
    · rw [if_neg q, if_neg (by omega)]
theorem zL_b {n : Nat} {r : zRow} {X : Int} (h : zL n r X) {k : Nat} (hk : k < n) : 0 ≤ (r k).toInt ∧ (r k).toInt < 1073741824 := by
  rw [h k hk]; omega
theorem zH_b {n i : Nat} {r : zRow} {Z X : Int} (h : zH n i r Z X) {k : Nat} (hk : k < n) : 0 ≤ (r k).toInt ∧ (r k).toInt < 1073741824 := by
  rw [h k hk]; omega
