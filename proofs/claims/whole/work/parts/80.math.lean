/-! the mathematics of a table: both sides reckon these whole numbers -/
def zch (u v a b : Int) : Nat → Int × Int
  | 0 => (a, b)
  | k + 1 => ((zch u v a b k).2, 2 * u * (zch u v a b k).2 - v * v * (zch u v a b k).1)
def zTk (u v : Int) (k : Nat) : Int := (zch u v 1 u k).1
def zWk (u v : Int) (k : Nat) : Int := (zch u v 0 1 k).1
theorem zch_two (u v : Int) : ∀ k : Nat, (zch u v 1 u k).2 = u * zTk u v k - (v * v - u * u) * zWk u v k ∧ (zch u v 0 1 k).2 = u * zWk u v k + zTk u v k := by
  intro k
  induction k with
  | zero => refine ⟨?_, ?_⟩ <;> simp [zch, zTk, zWk]
  | succ k ih =>
    obtain ⟨h1, h2⟩ := ih
    unfold zTk zWk at *
    simp only [zch]
    rw [h1, h2]
    generalize (zch u v 1 u k).1 = a at *
    generalize (zch u v 0 1 k).1 = c at *
    constructor <;> grind
theorem zTk_succ (u v : Int) (k : Nat) : zTk u v (k + 1) = u * zTk u v k - (v * v - u * u) * zWk u v k := (zch_two u v k).1
theorem zWk_succ (u v : Int) (k : Nat) : zWk u v (k + 1) = u * zWk u v k + zTk u v k := (zch_two u v k).2
theorem zTk_0 (u v : Int) : zTk u v 0 = 1 := rfl
theorem zWk_0 (u v : Int) : zWk u v 0 = 0 := rfl
theorem zpell (u v : Int) : ∀ k : Nat, zTk u v k * zTk u v k + (v * v - u * u) * (zWk u v k * zWk u v k) = v ^ k * v ^ k := by
  intro k
  induction k with
  | zero => simp [zTk_0, zWk_0]
  | succ k ih =>
    rw [zTk_succ, zWk_succ, Int.pow_succ]
    generalize zTk u v k = a at *
    generalize zWk u v k = c at *
    generalize v ^ k = p at *
    have e : (u * a - (v * v - u * u) * c) * (u * a - (v * v - u * u) * c) + (v * v - u * u) * ((u * c + a) * (u * c + a)) = v * v * (a * a + (v * v - u * u) * (c * c)) := by grind
    rw [e, ih]; grind
theorem zn_sq {a V : Int} (hV : 0 ≤ V) (h : a * a ≤ V * V) : a.natAbs ≤ V.toNat := by
  rcases Nat.lt_or_ge V.toNat a.natAbs with q | q
  · exfalso
    have h1 : (V.toNat + 1) * (V.toNat + 1) ≤ a.natAbs * a.natAbs := Nat.mul_le_mul q q
    have h2 : ((a.natAbs * a.natAbs : Nat) : Int) = a * a := by rw [Int.natAbs_mul_self]
    have h3 : ((V.toNat * V.toNat : Nat) : Int) = V * V := by rw [Int.natCast_mul, Int.toNat_of_nonneg hV]
    have h4 : (V.toNat + 1) * (V.toNat + 1) = V.toNat * V.toNat + 2 * V.toNat + 1 := by grind
    omega
  · exact q
theorem zn_sqn (a : Int) : 0 ≤ a * a := by
  rw [← Int.natAbs_mul_self]; exact Int.natCast_nonneg _
theorem zn_z {u : Int} {v : Nat} (hu : u.natAbs ≤ v) : 0 ≤ (v : Int) * v - u * u ∧ ((v : Int) * v - u * u).natAbs ≤ v * v := by
  have h1 : u.natAbs * u.natAbs ≤ v * v := Nat.mul_le_mul hu hu
  have h2 : ((u.natAbs * u.natAbs : Nat) : Int) = u * u := by rw [Int.natAbs_mul_self]
  have h3 : ((v * v : Nat) : Int) = (v : Int) * v := Int.natCast_mul v v
  omega
theorem zTk_le {u : Int} {v : Nat} (hu : u.natAbs ≤ v) (k : Nat) : (zTk u v k).natAbs ≤ v ^ k := by
  have h := zpell u v k
  have hz := (zn_z hu).1
  have h1 : 0 ≤ ((v : Int) * v - u * u) * (zWk u v k * zWk u v k) := Int.mul_nonneg hz (zn_sqn _)
  have h2 := zn_sq (a := zTk u v k) (V := (v : Int) ^ k) (Int.pow_nonneg (by omega)) (by omega)
  have h3 : ((v : Int) ^ k).toNat = v ^ k := by rw [← Int.natCast_pow]; rfl
  rwa [h3] at h2
theorem zWk_le {u : Int} {v : Nat} (hu : u.natAbs ≤ v) : ∀ k : Nat, (zWk u v k).natAbs * v ≤ k * v ^ k := by
  intro k
  induction k with
  | zero => simp [zWk_0]
  | succ k ih =>
    rw [zWk_succ]
    have h1 : (u * zWk u v k + zTk u v k).natAbs ≤ u.natAbs * (zWk u v k).natAbs + (zTk u v k).natAbs := by
      have := Int.natAbs_add_le (u * zWk u v k) (zTk u v k)
      rwa [Int.natAbs_mul] at this
    have h2 := zTk_le hu k
    have h3 : u.natAbs * (zWk u v k).natAbs ≤ v * (zWk u v k).natAbs := Nat.mul_le_mul_right _ hu
    have h4 : (v * (zWk u v k).natAbs + v ^ k) * v = v * ((zWk u v k).natAbs * v) + v ^ k * v := by grind
    have h5 : v * ((zWk u v k).natAbs * v) ≤ v * (k * v ^ k) := Nat.mul_le_mul_left v ih
    have h6 : (u * zWk u v k + zTk u v k).natAbs * v ≤ (v * (zWk u v k).natAbs + v ^ k) * v := Nat.mul_le_mul_right v (by omega)
    have h7 : (k + 1) * v ^ (k + 1) = v * (k * v ^ k) + v ^ k * v := by rw [Nat.pow_succ]; grind
    omega
/-- one more layer -/
def zLy (u v : Int) (n m : Int) (k : Nat) (t : Int × Int × Int × Int × Int) : Int × Int × Int × Int × Int :=
  (t.1 * (zTk u v k * n * m) - t.2.1 * (zWk u v k * n * n) * (v * v - u * u),
   t.1 * (zWk u v k * m * m) + t.2.1 * (zTk u v k * n * m),
   t.2.2.1 * (zTk u v k * n * m) + t.2.2.2.1 * (zWk u v k * n * n),
   t.2.2.2.1 * (zTk u v k * n * m) - t.2.2.1 * (zWk u v k * m * m) * (v * v - u * u),
   t.2.2.2.2 * (v ^ k * n * m))
def zTb (u v : Int) (up lo wi : Nat → Nat) : Nat → Int × Int × Int × Int × Int
  | 0 => (1, 0, 0, 1, 1)
  | i + 1 => zLy u v (up i) (lo i) (wi i) (zTb u v up lo wi i)
/-- n layers as they may be -/
def zOk (up lo wi : Nat → Nat) (n : Nat) : Prop := n ≤ 6 ∧ ∀ i : Nat, i < n → 1 ≤ up i ∧ up i ≤ 9 ∧ 1 ≤ lo i ∧ lo i ≤ 9 ∧ 1 ≤ wi i ∧ wi i ≤ 4
theorem zn_vk {v k : Nat} (hv : v ≤ 49) (hk : k ≤ 4) : v ^ k ≤ 5764801 := by
  have h1 : v ^ k ≤ 49 ^ k := Nat.pow_le_pow_left hv k
  have h2 : (49 : Nat) ^ k ≤ 49 ^ 4 := Nat.pow_le_pow_right (by decide) hk
  have h3 : (49 : Nat) ^ 4 = 5764801 := by decide
  omega
/-- what a table's numbers can't pass -/
def zTB (v : Nat) (t : Int × Int × Int × Int × Int) (K : Nat) : Prop := t.1.natAbs ≤ K ∧ t.2.1.natAbs * v ≤ K ∧ t.2.2.1.natAbs * v ≤ K ∧ t.2.2.2.1.natAbs ≤ K
theorem zn_b1 {A T K V n m : Nat} (hA : A ≤ K) (hT : T ≤ V) : A * (T * n * m) ≤ K * (V * (n * m)) := by
  rw [Nat.mul_assoc T]
  exact Nat.mul_le_mul hA (Nat.mul_le_mul_right _ hT)
theorem zn_b2 {B w K V n m v z : Nat} (hB : B * v ≤ K) (hw : w * v ≤ 4 * V) (hz : z ≤ v * v) (hn : n ≤ 9) (hm : 1 ≤ m) : B * (w * n * n) * z ≤ 36 * (K * (V * (n * m))) := by
  have h1 : B * (w * n * n) * z ≤ B * (w * n * n) * (v * v) := Nat.mul_le_mul_left _ hz
  have h2 : B * (w * n * n) * (v * v) = (B * v) * ((w * v) * (n * n)) := by grind
  have h3 : n * n ≤ 9 * (n * m) := by
    have a : n * n ≤ n * 9 := Nat.mul_le_mul_left n hn
    have b : n * 1 ≤ n * m := Nat.mul_le_mul_left n hm
    omega
  have h4 : (B * v) * ((w * v) * (n * n)) ≤ K * ((4 * V) * (9 * (n * m))) := Nat.mul_le_mul hB (Nat.mul_le_mul hw h3)
  have h5 : K * ((4 * V) * (9 * (n * m))) = 36 * (K * (V * (n * m))) := by grind
  omega
theorem zn_b3 {A w K V n m v : Nat} (hA : A ≤ K) (hw : w * v ≤ 4 * V) (hn : n ≤ 9) (hm : 1 ≤ m) : A * (w * n * n) * v ≤ 36 * (K * (V * (n * m))) := by
  have h2 : A * (w * n * n) * v = A * ((w * v) * (n * n)) := by grind
  have h3 : n * n ≤ 9 * (n * m) := by
    have a : n * n ≤ n * 9 := Nat.mul_le_mul_left n hn
    have b : n * 1 ≤ n * m := Nat.mul_le_mul_left n hm
    omega
  have h4 : A * ((w * v) * (n * n)) ≤ K * ((4 * V) * (9 * (n * m))) := Nat.mul_le_mul hA (Nat.mul_le_mul hw h3)
  have h5 : K * ((4 * V) * (9 * (n * m))) = 36 * (K * (V * (n * m))) := by grind
  omega
theorem zLy_b {u : Int} {v n m k K : Nat} {t : Int × Int × Int × Int × Int} (hu : u.natAbs ≤ v) (hk : k ≤ 4) (hn1 : 1 ≤ n) (hn : n ≤ 9) (hm1 : 1 ≤ m) (hm : m ≤ 9) (h : zTB v t K) : zTB v (zLy u v n m k t) (37 * (K * (v ^ k * (n * m)))) := by
  obtain ⟨hA, hB, hG, hD⟩ := h
  have hT := zTk_le hu k
  have hw : (zWk u v k).natAbs * v ≤ 4 * v ^ k := Nat.le_trans (zWk_le hu k) (Nat.mul_le_mul_right _ hk)
  have hz := (zn_z hu).2
  have c1 : ∀ X : Int, X.natAbs ≤ K → (X * (zTk u v k * n * m)).natAbs ≤ K * (v ^ k * (n * m)) := fun X hX => by
    simp only [Int.natAbs_mul, Int.natAbs_natCast]; exact zn_b1 hX hT
  have c1' : ∀ X : Int, X.natAbs * v ≤ K → (X * (zTk u v k * n * m)).natAbs * v ≤ K * (v ^ k * (n * m)) := fun X hX => by
    simp only [Int.natAbs_mul, Int.natAbs_natCast]
    rw [Nat.mul_right_comm]; exact zn_b1 hX hT
  have c2 : ∀ (X : Int) (a b : Nat), a ≤ 9 → 1 ≤ b → X.natAbs * v ≤ K → (X * (zWk u v k * a * a) * ((v : Int) * v - u * u)).natAbs ≤ 36 * (K * (v ^ k * (a * b))) := fun X a b ha hb hX => by
    simp only [Int.natAbs_mul, Int.natAbs_natCast]; exact zn_b2 hX hw hz ha hb
  have c3 : ∀ (X : Int) (a b : Nat), a ≤ 9 → 1 ≤ b → X.natAbs ≤ K → (X * (zWk u v k * a * a)).natAbs * v ≤ 36 * (K * (v ^ k * (a * b))) := fun X a b ha hb hX => by
    simp only [Int.natAbs_mul, Int.natAbs_natCast]; exact zn_b3 hX hw ha hb
  have cm : n * m = m * n := Nat.mul_comm n m
  unfold zLy zTB
  refine ⟨?_, ?_, ?_, ?_⟩
  · have a := c1 t.1 hA
    have b := c2 t.2.1 n m hn hm1 hB
    simp only
    generalize t.1 * (zTk u v k * n * m) = p at *
    generalize t.2.1 * (zWk u v k * n * n) * ((v : Int) * v - u * u) = q at *
    generalize K * (v ^ k * (n * m)) = r at *
    omega
  · have a := c3 t.1 m n hm hn1 hA
    have b := c1' t.2.1 hB
    rw [← cm] at a
    simp only
    generalize t.1 * (zWk u v k * m * m) = p at *
    generalize t.2.1 * (zTk u v k * n * m) = q at *
    generalize K * (v ^ k * (n * m)) = r at *
    have h1 : (p + q).natAbs * v ≤ (p.natAbs + q.natAbs) * v := Nat.mul_le_mul_right v (Int.natAbs_add_le p q)
    rw [Nat.add_mul] at h1
    omega
  · have a := c1' t.2.2.1 hG
    have b := c3 t.2.2.2.1 n m hn hm1 hD
    simp only
    generalize t.2.2.1 * (zTk u v k * n * m) = p at *
    generalize t.2.2.2.1 * (zWk u v k * n * n) = q at *
    generalize K * (v ^ k * (n * m)) = r at *
    have h1 : (p + q).natAbs * v ≤ (p.natAbs + q.natAbs) * v := Nat.mul_le_mul_right v (Int.natAbs_add_le p q)
    rw [Nat.add_mul] at h1
    omega
  · have a := c1 t.2.2.2.1 hD
    have b := c2 t.2.2.1 m n hm hn1 hG
    rw [← cm] at b
    simp only
    generalize t.2.2.2.1 * (zTk u v k * n * m) = p at *
    generalize t.2.2.1 * (zWk u v k * m * m) * ((v : Int) * v - u * u) = q at *
    generalize K * (v ^ k * (n * m)) = r at *
    omega
theorem zTB_mono {v K K' : Nat} {t : Int × Int × Int × Int × Int} (h : zTB v t K) (hK : K ≤ K') : zTB v t K' := ⟨Nat.le_trans h.1 hK, Nat.le_trans h.2.1 hK, Nat.le_trans h.2.2.1 hK, Nat.le_trans h.2.2.2 hK⟩
theorem zn_vnm {v k n m : Nat} (hv : v ≤ 49) (hk : k ≤ 4) (hn : n ≤ 9) (hm : m ≤ 9) : v ^ k * (n * m) ≤ 466948881 := by
  have h1 := zn_vk hv hk
  have h2 : n * m ≤ 9 * 9 := Nat.mul_le_mul hn hm
  have h3 := Nat.mul_le_mul h1 h2
  omega
theorem zTb_b {u : Int} {v : Nat} {up lo wi : Nat → Nat} {N : Nat} (hu : u.natAbs ≤ v) (hv : v ≤ 49) (hv1 : 1 ≤ v) (hO : zOk up lo wi N) : ∀ i : Nat, i ≤ N → zTB v (zTb u v up lo wi i) (2 ^ (35 * i)) ∧ 0 < (zTb u v up lo wi i).2.2.2.2 ∧ (zTb u v up lo wi i).2.2.2.2.natAbs ≤ 2 ^ (29 * i) := by
  intro i
  induction i with
  | zero => intro _; refine ⟨?_, (show (0 : Int) < 1 by decide), (show (1 : Int).natAbs ≤ 2 ^ (29 * 0) by decide)⟩; simp [zTb, zTB]
  | succ i ih =>
    intro hi
    obtain ⟨h1, h2, h3⟩ := ih (by omega)
    obtain ⟨a1, a2, a3, a4, a5, a6⟩ := hO.2 i (by omega)
    have hb := zn_vnm hv a6 a2 a4
    refine ⟨zTB_mono (zLy_b hu a6 a1 a2 a3 a4 h1) ?_, ?_, ?_⟩
    · rw [show 35 * (i + 1) = 35 * i + 35 from by omega, Nat.pow_add]
      have c1 : 2 ^ (35 * i) * (v ^ wi i * (up i * lo i)) ≤ 2 ^ (35 * i) * 466948881 := Nat.mul_le_mul_left _ hb
      have c2 : 37 * (2 ^ (35 * i) * 466948881) ≤ 2 ^ (35 * i) * 2 ^ 35 := by
        rw [Nat.mul_left_comm]; exact Nat.mul_le_mul_left _ (by decide)
      omega
    · show 0 < (zTb u v up lo wi i).2.2.2.2 * ((v : Int) ^ wi i * up i * lo i)
      refine Int.mul_pos h2 (Int.mul_pos (Int.mul_pos (Int.pow_pos (by omega)) (by omega)) (by omega))
    · show ((zTb u v up lo wi i).2.2.2.2 * ((v : Int) ^ wi i * up i * lo i)).natAbs ≤ _
      rw [Int.natAbs_mul, Int.natAbs_mul, Int.natAbs_mul, Int.natAbs_pow, Int.natAbs_natCast, Int.natAbs_natCast, Int.natAbs_natCast, Nat.mul_assoc (v ^ wi i), show 29 * (i + 1) = 29 * i + 29 from by omega, Nat.pow_add]
      exact Nat.mul_le_mul h3 (by omega)
/-- the table's determinant -/
theorem zTb_det {u v : Int} {up lo wi : Nat → Nat} : ∀ i : Nat, (zTb u v up lo wi i).1 * (zTb u v up lo wi i).2.2.2.1 + (v * v - u * u) * ((zTb u v up lo wi i).2.1 * (zTb u v up lo wi i).2.2.1) = (zTb u v up lo wi i).2.2.2.2 * (zTb u v up lo wi i).2.2.2.2 := by
  intro i
  induction i with
  | zero => simp [zTb]
  | succ i ih =>
    simp only [zTb, zLy]
    have hp := zpell u v (wi i)
    generalize zTk u v (wi i) = T at *
    generalize zWk u v (wi i) = w at *
    generalize v ^ wi i = V at *
    generalize (zTb u v up lo wi i).1 = A at *
    generalize (zTb u v up lo wi i).2.1 = B at *
    generalize (zTb u v up lo wi i).2.2.1 = G at *
    generalize (zTb u v up lo wi i).2.2.2.1 = D at *
    generalize (zTb u v up lo wi i).2.2.2.2 = W at *
    generalize ((up i : Nat) : Int) = n at *
    generalize ((lo i : Nat) : Int) = m at *
    generalize v * v - u * u = z at *
    have e : (A * (T * n * m) - B * (w * n * n) * z) * (D * (T * n * m) - G * (w * m * m) * z) + z * ((A * (w * m * m) + B * (T * n * m)) * (G * (T * n * m) + D * (w * n * n))) = (A * D + z * (B * G)) * ((n * m) * (n * m)) * (T * T + z * (w * w)) := by grind
    rw [e, ih, hp]; grind
/-- with - u for u the table only changes signs -/
theorem zTk_neg (u v : Int) : ∀ k : Nat, (zTk (-u) v k = zTk u v k ∧ zWk (-u) v k = - zWk u v k) ∨ (zTk (-u) v k = - zTk u v k ∧ zWk (-u) v k = zWk u v k) := by
  intro k
  induction k with
  | zero => left; simp [zTk_0, zWk_0]
  | succ k ih =>
    rw [zTk_succ, zTk_succ, zWk_succ, zWk_succ]
    generalize zTk u v k = a at *
    generalize zWk u v k = c at *
    generalize zTk (-u) v k = a' at *
    generalize zWk (-u) v k = c' at *
    rcases ih with ⟨h1, h2⟩ | ⟨h1, h2⟩
    · right; subst h1 h2; constructor <;> grind
    · left; subst h1 h2; constructor <;> grind
theorem zTb_neg {u v : Int} {up lo wi : Nat → Nat} : ∀ i : Nat, ∃ e : Int, e * e = 1 ∧ (zTb (-u) v up lo wi i).1 = e * (zTb u v up lo wi i).1 ∧ (zTb (-u) v up lo wi i).2.1 = - (e * (zTb u v up lo wi i).2.1) ∧ (zTb (-u) v up lo wi i).2.2.1 = - (e * (zTb u v up lo wi i).2.2.1) ∧ (zTb (-u) v up lo wi i).2.2.2.1 = e * (zTb u v up lo wi i).2.2.2.1 ∧ (zTb (-u) v up lo wi i).2.2.2.2 = (zTb u v up lo wi i).2.2.2.2 := by
  intro i
  induction i with
  | zero => exact ⟨1, by simp [zTb]⟩
  | succ i ih =>
    obtain ⟨e, h0, h1, h2, h3, h4, h5⟩ := ih
    simp only [zTb, zLy]
    rw [h1, h2, h3, h4, h5]
    generalize (zTb u v up lo wi i).1 = A at *
    generalize (zTb u v up lo wi i).2.1 = B at *
    generalize (zTb u v up lo wi i).2.2.1 = G at *
    generalize (zTb u v up lo wi i).2.2.2.1 = D at *
    generalize ((up i : Nat) : Int) = n at *
    generalize ((lo i : Nat) : Int) = m at *
    rcases zTk_neg u v (wi i) with ⟨k1, k2⟩ | ⟨k1, k2⟩
    · rw [k1, k2]
      generalize zTk u v (wi i) = T at *
      generalize zWk u v (wi i) = w at *
      refine ⟨e, h0, ?_, ?_, ?_, ?_, rfl⟩ <;> grind
    · rw [k1, k2]
      generalize zTk u v (wi i) = T at *
      generalize zWk u v (wi i) = w at *
      refine ⟨-e, by grind, ?_, ?_, ?_, ?_, rfl⟩ <;> grind
/-- P (s = -1) and Q (s = 1) -/
def zPQ (s : Int) (u v : Int) (au al gu gl : Int) (t : Int × Int × Int × Int × Int) : Int :=
  (t.1 * (au * gl) + t.2.2.2.1 * (s * gu * al)) * (t.1 * (au * gl) + t.2.2.2.1 * (s * gu * al)) + (t.2.1 * (au * gu) + t.2.2.1 * (s * al * gl)) * (t.2.1 * (au * gu) + t.2.2.1 * (s * al * gl)) * (v * v - u * u)
theorem zPQ_neg {s u v au al gu gl : Int} {up lo wi : Nat → Nat} (i : Nat) : zPQ s (-u) v au al gu gl (zTb (-u) v up lo wi i) = zPQ s u v au al gu gl (zTb u v up lo wi i) := by
  obtain ⟨e, h0, h1, h2, h3, h4, h5⟩ := zTb_neg (u := u) (v := v) (up := up) (lo := lo) (wi := wi) i
  unfold zPQ
  rw [h1, h2, h3, h4]
  generalize (zTb u v up lo wi i).1 = A at *
  generalize (zTb u v up lo wi i).2.1 = B at *
  generalize (zTb u v up lo wi i).2.2.1 = G at *
  generalize (zTb u v up lo wi i).2.2.2.1 = D at *
  grind
theorem zPQ_nonneg {s : Int} {u : Int} {v : Nat} {au al gu gl : Int} {t : Int × Int × Int × Int × Int} (hu : u.natAbs ≤ v) : 0 ≤ zPQ s u v au al gu gl t := by
  have h := (zn_z hu).1
  unfold zPQ
  have a := zn_sqn (t.1 * (au * gl) + t.2.2.2.1 * (s * gu * al))
  have b := Int.mul_nonneg (zn_sqn (t.2.1 * (au * gu) + t.2.2.1 * (s * al * gl))) h
  omega
theorem zPQ_diff {u v au al gu gl : Int} {up lo wi : Nat → Nat} (i : Nat) : zPQ 1 u v au al gu gl (zTb u v up lo wi i) - zPQ (-1) u v au al gu gl (zTb u v up lo wi i) = 4 * (au * al * gu * gl) * ((zTb u v up lo wi i).2.2.2.2 * (zTb u v up lo wi i).2.2.2.2) := by
  rw [← zTb_det i]
  unfold zPQ
  generalize (zTb u v up lo wi i).1 = A at *
  generalize (zTb u v up lo wi i).2.1 = B at *
  generalize (zTb u v up lo wi i).2.2.1 = G at *
  generalize (zTb u v up lo wi i).2.2.2.1 = D at *
  grind
