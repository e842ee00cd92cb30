/-! the reference's common divisor -/
def zk3 (v w : Nat → Int) : Prop := ∀ d : Nat, d ≠ 20 → d ≠ 21 → d ≠ 22 → w d = v d
theorem zk3_refl (v : Nat → Int) : zk3 v v := fun _ _ _ _ => rfl
theorem zk3_u {v w : Nat → Int} {c : Nat} {x : Int} (h : zk3 v w) (hc : c = 20 ∨ c = 21 ∨ c = 22) : zk3 v (zj w c x) := fun d a b e => by
  rw [zj_out (by omega)]; exact h d a b e
theorem zr_common_78 {M0 : zMem} {v : Nat → Int} {c3 : Int32} {K : zMem → Prop} {y g s : Nat} (hK : ∀ (T : zMem) (w : Nat → Int) (x : Nat), zG M0 T w → zk3 v w → w 20 = x → w 21 = y → 0 < x → x % 2 = 1 → Nat.gcd x y = g → x + y ≤ s → K T) : ∀ (f x : Nat) (M1 : zMem) (w : Nat → Int), x < f → zG M0 M1 w → zk3 v w → w 20 = x → w 21 = y → 0 < x → (x % 2 = 1 ∨ y % 2 = 1) → Nat.gcd x y = g → x + y ≤ s → zw_X6_common_78 c3 K f M1 := by
  intro f
  induction f with
  | zero => intro x M1 w h; omega
  | succ f ih =>
    intro x M1 w hf hG hk h20 h21 hx ho hg hs
    refine zr_isEven (a := 20) (X := x) (by decide) (by rw [← h20]; exact hG.2 20 (by decide)) ?_
    by_cases q : (x : Int) % 2 = 0
    · rw [if_pos q]
      refine And.intro (fun c => absurd c (by decide)) (fun _ => ?_)
      refine zg_halve 20 hG (by decide) (by omega) (fun T gT => ?_)
      have e : w 20 / 2 = ((x / 2 : Nat) : Int) := by omega
      rw [e] at gT
      refine ih (x / 2) T _ (by omega) gT (zk3_u hk (Or.inl rfl)) zj_in (by rw [zj_out (by decide)]; exact h21) (by omega) (Or.inr (by omega)) ?_ (by omega)
      rw [← hg]
      have oy : y % 2 = 1 := by omega
      conv => rhs; rw [show x = 2 ^ 1 * (x / 2) from by omega]
      rw [Nat.Coprime.gcd_mul_left_cancel (x / 2) (zn_cop oy 1)]
    · rw [if_neg q]
      exact And.intro (fun _ => hK M1 w x hG hk h20 h21 hx (by omega) hg hs) (fun c => absurd rfl c)
theorem zr_common_96 {M0 : zMem} {v : Nat → Int} {c3 : Int32} {K : zMem → Prop} {x g s : Nat} (ox : x % 2 = 1) (hK : ∀ (T : zMem) (w : Nat → Int) (y : Nat), zG M0 T w → zk3 v w → w 20 = x → w 21 = y → 0 < y → y % 2 = 1 → Nat.gcd x y = g → x + y ≤ s → K T) : ∀ (f y : Nat) (M1 : zMem) (w : Nat → Int), y < f → zG M0 M1 w → zk3 v w → w 20 = x → w 21 = y → 0 < y → Nat.gcd x y = g → x + y ≤ s → zw_X6_common_96 c3 K f M1 := by
  intro f
  induction f with
  | zero => intro y M1 w h; omega
  | succ f ih =>
    intro y M1 w hf hG hk h20 h21 hy hg hs
    refine zr_isEven (a := 21) (X := y) (by decide) (by rw [← h21]; exact hG.2 21 (by decide)) ?_
    by_cases q : (y : Int) % 2 = 0
    · rw [if_pos q]
      refine And.intro (fun c => absurd c (by decide)) (fun _ => ?_)
      refine zg_halve 21 hG (by decide) (by omega) (fun T gT => ?_)
      have e : w 21 / 2 = ((y / 2 : Nat) : Int) := by omega
      rw [e] at gT
      refine ih (y / 2) T _ (by omega) gT (zk3_u hk (Or.inr (Or.inl rfl))) (by rw [zj_out (by decide)]; exact h20) zj_in (by omega) ?_ (by omega)
      rw [← hg]
      conv => rhs; rw [show y = 2 ^ 1 * (y / 2) from by omega]
      rw [Nat.Coprime.gcd_mul_left_cancel_right (y / 2) (zn_cop ox 1)]
    · rw [if_neg q]
      exact And.intro (fun _ => hK M1 w y hG hk h20 h21 hy (by omega) hg hs) (fun c => absurd rfl c)
theorem zsg_0 {X : Int} : zsg X = 0 ↔ X = 0 := by
  refine ⟨fun h => ?_, fun h => zsg_zero h⟩
  rcases Int.lt_trichotomy X 0 with p | p | p
  · rw [zsg_neg p] at h; exact absurd h (by decide)
  · exact p
  · rw [zsg_pos p] at h; exact absurd h (by decide)
theorem zN_sg {M : zMem} {c : Nat} {X : Int} (h : zN M c X) : M 21 c = zsg X := by
  obtain ⟨n, _, _, h3, _⟩ := h
  exact h3
theorem zr_common_68 {M0 : zMem} {v : Nat → Int} {c3 : Int32} {K : zMem → Prop} {g s : Nat} (hs2 : s < 2 ^ 2900) (hK : ∀ (T : zMem) (w : Nat → Int), zG M0 T w → zk3 v w → w 20 = g → K T) : ∀ (f x y : Nat) (M1 : zMem) (w : Nat → Int), x + y < f → zG M0 M1 w → zk3 v w → w 20 = x → w 21 = y → 0 < x → (x % 2 = 1 ∨ y % 2 = 1) → Nat.gcd x y = g → x + y ≤ s → zw_X6_common_68 c3 K f M1 := by
  intro f
  induction f with
  | zero => intro x y M1 w h; omega
  | succ f ih =>
    intro x y M1 w hf hG hk h20 h21 hx ho hg hs
    refine And.intro (vp_in_nI (n := 21) (by decide) (by decide)) ?_
    rw [show (21 : Int32).toNatClampNeg = 21 from rfl, zN_sg (hG.2 21 (by decide)), h21]
    refine And.intro (fun q => ?_) (fun q => ?_)
    · have hy : y = 0 := by have := zsg_0.mp q; omega
      subst hy
      rw [Nat.gcd_zero_right] at hg
      exact hK M1 w hG hk (by rw [h20, hg])
    · have hy : 0 < y := by
        rcases Nat.eq_zero_or_pos y with z | z
        · exact absurd (zsg_0.mpr (by omega)) q
        · exact z
      have hb : ∀ {z : Nat}, z ≤ s → ((z : Int)).natAbs < 2 ^ 2900 := fun {z} hz => by omega
      refine ⟨x + 1, zr_common_78 (v := v) (y := y) (g := g) (s := x + y) ?_ (x + 1) x M1 w (by omega) hG hk h20 h21 hx ho hg (Nat.le_refl _)⟩
      intro T1 w1 x1 G1 k1 a1 b1 p1 o1 g1 s1
      refine ⟨y + 1, zr_common_96 (v := v) (x := x1) (g := g) (s := x + y) o1 ?_ (y + 1) y T1 w1 (by omega) G1 k1 a1 b1 hy g1 s1⟩
      intro T2 w2 y2 G2 k2 a2 b2 p2 o2 g2 s2
      refine zr_compareSizes (a := 20) (b := 21) (by decide) (by decide) (G2.2 20 (by decide)) (G2.2 21 (by decide)) ?_
      rw [a2, b2]
      rcases Nat.lt_or_ge y2 x1 with z | z
      · rw [zsg_pos (by omega)]
        refine And.intro (fun c => absurd c (by decide)) (fun _ => ?_)
        refine zg_copy 22 20 G2 (by decide) (by decide) (fun T3 G3 => ?_)
        refine zg_copy 20 21 G3 (by decide) (by decide) (fun T4 G4 => ?_)
        refine zg_copy 21 22 G4 (by decide) (by decide) (fun T5 G5 => ?_)
        have e21 : zj (zj (zj w2 22 (w2 20)) 20 (zj w2 22 (w2 20) 21)) 21 (zj (zj w2 22 (w2 20)) 20 (zj w2 22 (w2 20) 21) 22) 21 = x1 := a2
        have e20 : zj (zj (zj w2 22 (w2 20)) 20 (zj w2 22 (w2 20) 21)) 21 (zj (zj w2 22 (w2 20)) 20 (zj w2 22 (w2 20) 21) 22) 20 = y2 := b2
        refine zg_minus 21 21 20 (e := 2900) (f := 2900) G5 (by decide) (by decide) (by decide) (by rw [e21]; exact hb (by omega)) (by rw [e20]; exact hb (by omega)) (by decide) (by decide) (fun T6 G6 => ?_)
        rw [e21, e20] at G6
        refine ih y2 (x1 - y2) T6 _ (by omega) G6 (zk3_u (zk3_u (zk3_u (zk3_u k2 (Or.inr (Or.inr rfl))) (Or.inl rfl)) (Or.inr (Or.inl rfl))) (Or.inr (Or.inl rfl))) e20 (by rw [zj_in]; omega) p2 (Or.inl o2) ?_ (by omega)
        rw [← g2, Nat.gcd_sub_self_right (by omega), Nat.gcd_comm]
      · have hle : zsg ((x1 : Int).natAbs - (y2 : Int).natAbs : Int) ≤ 0 := by
          rcases Nat.lt_or_ge x1 y2 with z2 | z2
          · rw [zsg_neg (by omega)]; decide
          · rw [zsg_zero (by omega)]; decide
        refine And.intro (fun _ => ?_) (fun c => absurd hle c)
        refine zg_minus 21 21 20 (e := 2900) (f := 2900) G2 (by decide) (by decide) (by decide) (by rw [b2]; exact hb (by omega)) (by rw [a2]; exact hb (by omega)) (by decide) (by decide) (fun T6 G6 => ?_)
        rw [a2, b2] at G6
        refine ih x1 (y2 - x1) T6 _ (by omega) G6 (zk3_u k2 (Or.inr (Or.inl rfl))) (by rw [zj_out (by decide)]; exact a2) (by rw [zj_in]; omega) p1 (Or.inl o1) ?_ (by omega)
        rw [← g2, Nat.gcd_sub_self_right (by omega)]
theorem zr_common_32 {M0 : zMem} {v : Nat → Int} {K : Int32 → zMem → Prop} {X Y : Nat} (hX : X < 2 ^ 2900) (hK : ∀ (T : zMem) (w : Nat → Int) (x y t : Nat), zG M0 T w → zk3 v w → w 20 = x → w 21 = y → 0 < x → 0 < y → (x % 2 = 1 ∨ y % 2 = 1) → X = 2 ^ t * x → Y = 2 ^ t * y → t < 2900 → K (nI t) T) : ∀ (f x y t : Nat) (M1 : zMem) (w : Nat → Int), x < f → zG M0 M1 w → zk3 v w → w 20 = x → w 21 = y → 0 < x → 0 < y → X = 2 ^ t * x → Y = 2 ^ t * y → zw_X6_common_32 K f (nI t) M1 := by
  intro f
  induction f with
  | zero => intro x y t M1 w h; omega
  | succ f ih =>
    intro x y t M1 w hf hG hk h20 h21 hx hy eX eY
    have ht : t < 2900 := by
      rcases Nat.lt_or_ge t 2900 with q | q
      · exact q
      · have a1 := Nat.pow_le_pow_right (n := 2) (by decide) q
        have a2 : 2 ^ t ≤ 2 ^ t * x := Nat.le_mul_of_pos_right _ hx
        omega
    refine zr_isEven (a := 20) (X := x) (by decide) (by rw [← h20]; exact hG.2 20 (by decide)) ?_
    by_cases q : (x : Int) % 2 = 0
    · rw [if_pos q]
      refine And.intro (fun c => absurd c (by decide)) (fun _ => ?_)
      refine zr_isEven (a := 21) (X := y) (by decide) (by rw [← h21]; exact hG.2 21 (by decide)) ?_
      by_cases q2 : (y : Int) % 2 = 0
      · rw [if_pos q2]
        refine And.intro (fun c => absurd c (by decide)) (fun _ => ?_)
        refine zg_halve 20 hG (by decide) (by omega) (fun T gT => ?_)
        rw [show w 20 / 2 = ((x / 2 : Nat) : Int) from by omega] at gT
        have e21 : zj w 20 ((x / 2 : Nat) : Int) 21 = y := h21
        refine zg_halve 21 gT (by decide) (by rw [e21]; omega) (fun T2 gT2 => ?_)
        rw [e21, show (y : Int) / 2 = ((y / 2 : Nat) : Int) from by omega] at gT2
        intro x3 e3
        rw [e3, nI_1]
        refine ih (x / 2) (y / 2) (t + 1) T2 _ (by omega) gT2 (zk3_u (zk3_u hk (Or.inl rfl)) (Or.inr (Or.inl rfl))) (by rw [zj_out (by decide), zj_in]) zj_in (by omega) (by omega) ?_ ?_
        · rw [eX, Nat.pow_succ, Nat.mul_assoc]; congr 1; omega
        · rw [eY, Nat.pow_succ, Nat.mul_assoc]; congr 1; omega
      · rw [if_neg q2]
        exact And.intro (fun _ => hK M1 w x y t hG hk h20 h21 hx hy (Or.inr (by omega)) eX eY ht) (fun c => absurd rfl c)
    · rw [if_neg q]
      exact And.intro (fun _ => hK M1 w x y t hG hk h20 h21 hx hy (Or.inl (by omega)) eX eY ht) (fun c => absurd rfl c)
theorem zr_common_165 {M0 : zMem} {v : Nat → Int} {K : zMem → Prop} {t g : Nat} (ht : t < 2900) (hg : 2 ^ t * g < 2 ^ 2900) (hK : ∀ (T : zMem) (w : Nat → Int), zG M0 T w → zk3 v w → w 20 = ((2 ^ t * g : Nat) : Int) → K T) : ∀ (d i : Nat) (M1 : zMem) (w : Nat → Int), i + d = t → zG M0 M1 w → zk3 v w → w 20 = ((2 ^ i * g : Nat) : Int) → zw_X6_common_165 (nI t) K (d + 1) (nI i) M1 := by
  intro d
  induction d with
  | zero =>
    intro i M1 w hi hG hk h20
    have e : i = t := by omega
    subst e
    exact And.intro (fun _ => hK M1 w hG hk h20) (fun q => absurd (nI_le (Nat.le_refl _) (by omega)) q)
  | succ d ih =>
    intro i M1 w hi hG hk h20
    refine And.intro (fun q => absurd q (nI_ge (by omega) (by omega))) (fun _ => ?_)
    have hle : 2 ^ i * g ≤ 2 ^ t * g := Nat.mul_le_mul_right g (Nat.pow_le_pow_right (by decide) (by omega))
    have hb : (w 20).natAbs < 2 ^ 2900 := by rw [h20]; omega
    refine zg_plus 20 20 20 hG (by decide) (by decide) (by decide) hb hb (by decide) (by decide) (fun T gT => ?_)
    intro x ex
    rw [ex, nI_1]
    refine ih (i + 1) T _ (by omega) gT (zk3_u hk (Or.inl rfl)) ?_
    rw [zj_in, h20, Nat.pow_succ, Nat.mul_comm (2 ^ i) 2, Nat.mul_assoc]
    generalize 2 ^ i * g = z
    omega
theorem zset_same (M : zMem) (i : Nat) : zset M i (M i) = M := by
  funext k
  unfold zset
  cases e : Nat.beq k i with
  | false => rfl
  | true => rw [Nat.eq_of_beq_eq_true e]; rfl
theorem zupd_same {f : zRow} {i : Nat} {x : Int32} (h : f i = x) : upd f i x = f := by
  funext k
  unfold upd
  split
  · rename_i q; rw [q, h]
  · rfl
theorem zg_common {M0 M : zMem} {v : Nat → Int} (a b : Nat) {X Y : Nat} {post : zMem → Prop} (h : zG M0 M v) (ha : a < 60) (hb : b < 60) (hb20 : b ≠ 20) (eX : v a = X) (eY : v b = Y) (hX : 0 < X) (hY : 0 < Y) (bX : X < 2 ^ 2800) (bY : Y < 2 ^ 2800) (k : ∀ (M' : zMem) (w : Nat → Int), zG M0 M' w → zk3 v w → w 20 = ((Nat.gcd X Y : Nat) : Int) → post M') : zw_X6_common M (nI a) (nI b) post := by
  refine zg_copy 20 a h (by decide) ha (fun T1 G1 => ?_)
  refine zg_copy 21 b G1 (by decide) hb (fun T2 G2 => ?_)
  rw [eX] at G1 G2
  rw [zj_out hb20, eY] at G2
  refine And.intro (vp_in_nI (n := 20) (by decide) (by decide)) ?_
  intro r4 e4
  refine And.intro (vp_in_nI (n := 21) (by decide) (by decide)) ?_
  intro r6 e6
  have s20 : T2 21 20 = 1 := by
    rw [zN_sg (G2.2 20 (by decide)), zj_out (by decide), zj_in]; exact zsg_pos (by omega)
  have s21 : T2 21 21 = 1 := by
    rw [zN_sg (G2.2 21 (by decide)), zj_in]; exact zsg_pos (by omega)
  rw [show (20 : Int32).toNatClampNeg = 20 from rfl, zupd_same s20] at e4
  rw [e4, show (21 : Int32).toNatClampNeg = 21 from rfl, zupd_same s21] at e6
  rw [e6, zset_same]
  have p29 : (2 : Nat) ^ 2800 + 2 ^ 2800 = 2 ^ 2801 := by rw [Nat.pow_succ 2 2800]; omega
  have p30 : (2 : Nat) ^ 2801 ≤ 2 ^ 2900 := Nat.pow_le_pow_right (by decide) (by decide)
  refine ⟨X + 1, zr_common_32 (v := v) (X := X) (Y := Y) (by omega) ?_ (X + 1) X Y 0 T2 _ (by omega) G2 (zk3_u (zk3_u (zk3_refl v) (Or.inl rfl)) (Or.inr (Or.inl rfl))) (by rw [zj_out (by decide), zj_in]) zj_in hX hY (by simp) (by simp)⟩
  intro T3 w3 x y t G3 k3 a3 b3 px py ho fX fY ht
  have lx : x ≤ X := by rw [fX]; exact Nat.le_mul_of_pos_left _ (Nat.two_pow_pos t)
  have ly : y ≤ Y := by rw [fY]; exact Nat.le_mul_of_pos_left _ (Nat.two_pow_pos t)
  have eg : Nat.gcd X Y = 2 ^ t * Nat.gcd x y := by rw [fX, fY, Nat.gcd_mul_left]
  refine ⟨x + y + 1, zr_common_68 (v := v) (g := Nat.gcd x y) (s := x + y) (by omega) ?_ (x + y + 1) x y T3 w3 (by omega) G3 k3 a3 b3 px ho rfl (Nat.le_refl _)⟩
  intro T4 w4 G4 k4 a4
  have hgl : 2 ^ t * Nat.gcd x y ≤ X := by rw [← eg]; exact Nat.gcd_le_left _ hX
  refine ⟨_, zr_common_165 (v := v) (t := t) (g := Nat.gcd x y) (by omega) (by omega) ?_ t 0 T4 w4 (by omega) G4 k4 (by rw [a4]; simp)⟩
  intro T5 w5 G5 k5 a5
  exact k T5 w5 G5 k5 (by rw [a5, eg])
