/-! the class's panes -/
def zNs (N : zMem) (t : Int × Int × Int × Int × Int) : Prop := zL 8 (N 0) t.1 ∧ zL 8 (N 1) t.2.1 ∧ zL 8 (N 2) t.2.2.1 ∧ zL 8 (N 3) t.2.2.2.1 ∧ zL 8 (N 4) t.2.2.2.2
theorem zr_setNothing {N : zMem} {post : zMem → Prop} (k : ∀ N' : zMem, zNs N' (0, 1, 1, 0, 1) → N' 6 = N 6 → post N') : zw_X2_setNothing N post := by
  refine zr_set (by decide) (by decide) (by decide) (fun r1 g1 => ?_)
  refine zr_set (by decide) (by decide) (by decide) (fun r2 g2 => ?_)
  refine zr_set (by decide) (by decide) (by decide) (fun r3 g3 => ?_)
  refine zr_set (by decide) (by decide) (by decide) (fun r4 g4 => ?_)
  refine zr_set (by decide) (by decide) (by decide) (fun r5 g5 => ?_)
  exact k _ ⟨g1, g3, g4, g2, g5⟩ rfl
theorem zr_pass_wl {N : zMem} {a b d ev : Int64} {W L A B D E : Int} {post : zMem → Prop} (h2 : zL 8 (N 2) W) (h3 : zL 8 (N 3) L) (ha : a.toInt = A) (hb : b.toInt = B) (hd : d.toInt = D) (he : ev.toInt = E) (bA : A.natAbs ≤ 2147483647) (bB : B.natAbs ≤ 2147483647) (bD : D.natAbs ≤ 2147483647) (bE : E.natAbs ≤ 2147483647) (k : ∀ r6 r5 r3 : zRow, zL 8 r6 (W * A + L * B) → zL 8 r5 (L * E + W * D) → post (zset (zset (zset N 2 r6) 3 r5) 5 r3)) : zw_X2_passPair_wl N a b d ev post := by
  refine zr_put (by decide) (by decide) h2 (Or.inl (by decide)) (fun r1 g1 => ?_)
  refine zr_scale (by decide) g1 ha (by omega) (by omega) (fun r2 g2 => ?_)
  refine zr_gain (by decide) g2 h3 hb (by omega) (by omega) (fun r3 g3 => ?_)
  refine zr_scale (by decide) h3 he (by omega) (by omega) (fun r4 g4 => ?_)
  refine zr_gain (by decide) g4 h2 hd (by omega) (by omega) (fun r5 g5 => ?_)
  refine zr_put (by decide) (by decide) g3 (Or.inl (by decide)) (fun r6 g6 => ?_)
  exact k r6 r5 r3 g6 g5
theorem zr_pass_fi {N : zMem} {a b d ev : Int64} {W L A B D E : Int} {post : zMem → Prop} (h2 : zL 8 (N 0) W) (h3 : zL 8 (N 1) L) (ha : a.toInt = A) (hb : b.toInt = B) (hd : d.toInt = D) (he : ev.toInt = E) (bA : A.natAbs ≤ 2147483647) (bB : B.natAbs ≤ 2147483647) (bD : D.natAbs ≤ 2147483647) (bE : E.natAbs ≤ 2147483647) (k : ∀ r6 r5 r3 : zRow, zL 8 r6 (W * A + L * B) → zL 8 r5 (L * E + W * D) → post (zset (zset (zset N 0 r6) 1 r5) 5 r3)) : zw_X2_passPair_fi N a b d ev post := by
  refine zr_put (by decide) (by decide) h2 (Or.inl (by decide)) (fun r1 g1 => ?_)
  refine zr_scale (by decide) g1 ha (by omega) (by omega) (fun r2 g2 => ?_)
  refine zr_gain (by decide) g2 h3 hb (by omega) (by omega) (fun r3 g3 => ?_)
  refine zr_scale (by decide) h3 he (by omega) (by omega) (fun r4 g4 => ?_)
  refine zr_gain (by decide) g4 h2 hd (by omega) (by omega) (fun r5 g5 => ?_)
  refine zr_put (by decide) (by decide) g3 (Or.inl (by decide)) (fun r6 g6 => ?_)
  exact k r6 r5 r3 g6 g5
theorem zn_216 {i : Nat} {X : Int} (hi : i ≤ 8) (h : X.natAbs ≤ 2 ^ (27 * i)) : X.natAbs ≤ 2 ^ 216 := Nat.le_trans h (Nat.pow_le_pow_right (by decide) (by omega))
theorem zr_pappend {N : zMem} {n bu bl ou ol : Nat} {t : Int × Int × Int × Int × Int} {post : Int32 → zMem → Prop} (hn : n ≤ 8) (h6 : N 6 0 = nI n) (hN : zNs N t) (hI : zPi t) (hb : t.2.2.1.natAbs ≤ 2 ^ 216) (hs : zSh bu bl ou ol) (k1 : n < 8 → ∀ N' : zMem, zNs N' (zp2 bu bl ou ol t) → N' 6 0 = nI (n + 1) → post 1 N') (k0 : n = 8 → post 0 N) : zw_X2_append N (nI bu) (nI bl) (nI ou) (nI ol) post := by
  obtain ⟨s1, s2, s3, s4, s5, s6, s7⟩ := hs
  obtain ⟨g0, g1, g2, g3, g4⟩ := hN
  unfold zw_X2_append
  rw [h6]
  refine And.intro (fun c => ?_) (fun c => And.intro rfl (k0 ?_))
  · have c8 : n < 8 := (nI_ltI (b := 8) (by omega) (by omega)).mp c
    intro y2 e2 x5 e5 x7 e7 x9 e9
    have mm : bl * ol ≤ 100 * 100 := Nat.mul_le_mul s3 s6
    have mx : bu * ol ≤ 100 * 100 := Nat.mul_le_mul s1 s6
    have my : ou * bl ≤ 100 * 100 := Nat.mul_le_mul s4 s3
    obtain ⟨m, hm⟩ : ∃ m, bl * ol = m := ⟨_, rfl⟩
    obtain ⟨x, hx⟩ : ∃ x, bu * ol = x := ⟨_, rfl⟩
    obtain ⟨y, hy⟩ : ∃ y, ou * bl = y := ⟨_, rfl⟩
    rw [pk_mul, hm] at e5
    rw [pk_mul, hx] at e7
    rw [pk_mul, hy] at e9
    rw [hm] at mm
    rw [hx] at mx
    rw [hy] at my
    have h5 : x5.toInt = (m : Int) := by rw [e5]; exact zn_wide (nI_toInt (by omega))
    have h7 : x7.toInt = (x : Int) := by rw [e7]; exact zn_wide (nI_toInt (by omega))
    have h9 : x9.toInt = (y : Int) := by rw [e9]; exact zn_wide (nI_toInt (by omega))
    have h7n : (-x7).toInt = -(x : Int) := zn_negL h7 (by omega) (by omega)
    rw [nI_1] at e2
    have bm : ((m : Int)).natAbs ≤ 10000 := by omega
    have bx : ((x : Int)).natAbs ≤ 10000 := by omega
    have by' : ((y : Int)).natAbs ≤ 10000 := by omega
    have bxn : (-(x : Int)).natAbs ≤ 10000 := by omega
    refine zr_put (by decide) (by decide) g2 (Or.inl (by decide)) (fun r6 q6 => ?_)
    refine zr_scale (by decide) q6 h5 (by omega) (by omega) (fun r7 q7 => ?_)
    refine zr_gain (by decide) q7 g3 h7n (by omega) (by omega) (fun r8 q8 => ?_)
    have hL : t.2.2.2.1.natAbs ≤ 2 ^ 216 := by have := hI.1; have := hI.2.2.1; have := hI.2.2.2.1; have := hI.2.2.2.2.2.1; omega
    have hr : (t.2.2.1 * (m : Int) + t.2.2.2.1 * (-(x : Int))).natAbs ≤ 2 ^ 231 := by
      have a1 := zn_mab hb bm
      have a2 := zn_mab hL bxn
      have a3 := Int.natAbs_add_le (t.2.2.1 * (m : Int)) (t.2.2.2.1 * (-(x : Int)))
      have a4 : (2 : Nat) ^ 216 * 10000 + 2 ^ 216 * 10000 ≤ 2 ^ 231 := by decide
      omega
    refine zr_signOf (by decide) q8 (zn_239 hr (by decide)) ?_
    have k1 := k1 c8
    unfold zp2 at k1
    rw [hm, hx, hy] at k1
    refine And.intro (fun q => And.intro rfl ?_) (fun q => ?_)
    · have q0 := zsg_0.mp q
      rw [if_pos q0] at k1
      exact k1 _ ⟨g0, g1, g2, g3, g4⟩ (by rw [zs_in]; exact e2)
    · have q0 : ¬ t.2.2.1 * (m : Int) + t.2.2.2.1 * (-(x : Int)) = 0 := fun w => q (zsg_0.mpr w)
      rw [if_neg q0] at k1
      have b2 : ∀ {a b : Int}, a.natAbs ≤ 10000 → b.natAbs ≤ 10000 → (a * b).natAbs ≤ 100000000 := fun {a b} ha hb => zn_mab (A := 10000) (B := 10000) ha hb
      have v1 : (x5 * x5).toInt = (m : Int) * m := zn_mulA h5 h5 bm bm (by decide)
      have v2 : ((-x7) * x5).toInt = -(x : Int) * m := zn_mulA h7n h5 bxn bm (by decide)
      have v3 : (x7 * x5).toInt = (x : Int) * m := zn_mulA h7 h5 bx bm (by decide)
      have b4 := b2 by' by'
      have b5 := b2 bx bx
      have v4 : ((x9 * x9) - (x7 * x7)).toInt = (y : Int) * y - x * x := zn_subL (zn_mulA h9 h9 by' by' (by decide)) (zn_mulA h7 h7 bx bx (by decide)) (by omega) (by omega)
      have v5 : (x9 * x5).toInt = (y : Int) * m := zn_mulA h9 h5 by' bm (by decide)
      have c1 := b2 bm bm
      have c2 := b2 bxn bm
      have c3 := b2 bx bm
      have c5 := b2 by' bm
      refine zr_pass_wl (W := t.2.2.1) (L := t.2.2.2.1) ?_ ?_ v1 v2 v3 v4 (by omega) (by omega) (by omega) (by omega) (fun w6 w5 w3 u6 u5 => ?_)
      · exact g2
      · exact g3
      refine zr_pass_fi (W := t.1) (L := t.2.1) ?_ ?_ v1 v3 v2 v4 (by omega) (by omega) (by omega) (by omega) (fun f6 f5 f3 p6 p5 => ?_)
      · exact g0
      · exact g1
      refine zr_scale (X := t.2.2.2.2) (by decide) ?_ v5 (by omega) (by omega) (fun r14 q14 => ?_)
      · exact g4
      refine And.intro rfl (k1 _ ⟨p6, p5, u6, u5, q14⟩ e2)
  · have : ¬ n < 8 := fun q => c ((nI_ltI (b := 8) (by omega) (by omega)).mpr q)
    omega
def zsel (t : Int × Int × Int × Int × Int) (w : Nat) : Int := if w = 0 then t.1 else if w = 1 then t.2.2.2.1 else if w = 2 then t.2.2.2.2 else t.2.2.1 - t.1 - t.2.2.2.2
theorem zsel_b {t : Int × Int × Int × Int × Int} (h : zPi t) (w : Nat) : 0 ≤ zsel t w ∧ zsel t w ≤ t.2.2.1 := by
  obtain ⟨h1, h2, h3, h4, h5, h6, h7⟩ := h
  unfold zsel
  split
  · omega
  · split
    · omega
    · split <;> omega
theorem zn_8 {X : Int} (h0 : 0 ≤ X) (h : X.natAbs ≤ 2 ^ 216) : zD X 8 = 0 := zD_of (e := 240) h0 (by
  have h2 : (2 : Nat) ^ 216 < 2 ^ 240 := by decide
  have h4 : ((X.natAbs : Nat) : Int) < ((2 ^ 240 : Nat) : Int) := by exact_mod_cast Nat.lt_of_le_of_lt h h2
  rw [Int.natAbs_of_nonneg h0] at h4
  exact_mod_cast h4) (by decide)
theorem zr_ptell {N F : zMem} {w : Nat} {t : Int × Int × Int × Int × Int} {post : zMem → zMem → Prop} (hw : w < 4) (hN : zNs N t) (hI : zPi t) (hb : t.2.2.1.natAbs ≤ 2 ^ 216) (k : ∀ (N' : zMem) (r r' : zRow), zNs N' t → N' 6 = N 6 → zL 16 r (zsel t w) → zL 16 r' t.2.2.1 → post N' (zset (zset F 0 r) 1 r')) : zw_X2_tell N F (nI w) post := by
  have hN' := hN
  obtain ⟨g0, g1, g2, g3, g4⟩ := hN
  have hI' := hI
  obtain ⟨h1, h2, h3, h4, h5, h6, h7⟩ := hI
  have z2 : zD t.2.2.1 8 = 0 := zn_8 (by omega) hb
  rcases Nat.lt_or_ge w 3 with q | q
  · refine And.intro (fun _ => ?_) (fun c => absurd ((nI_eq (b := 3) (by omega) (by omega)).mp c) (by omega))
    rcases Nat.lt_or_ge w 1 with q1 | q1
    · have e0 : w = 0 := by omega
      subst e0
      refine And.intro (fun c => absurd rfl c) (fun _ => ?_)
      refine zr_put (by decide) (by decide) g0 (Or.inr (zn_8 h2 (by omega))) (fun r2 q2 => ?_)
      refine zr_put (by decide) (by decide) g2 (Or.inr z2) (fun r3 q3 => ?_)
      exact k N r2 r3 hN' rfl q2 q3
    · rcases Nat.lt_or_ge w 2 with q2 | q2
      · have e0 : w = 1 := by omega
        subst e0
        refine And.intro (fun _ => And.intro (fun c => absurd rfl c) (fun _ => ?_)) (fun c => absurd c (by decide))
        refine zr_put (by decide) (by decide) g3 (Or.inr (zn_8 h3 (by omega))) (fun r2 q2 => ?_)
        refine zr_put (by decide) (by decide) g2 (Or.inr z2) (fun r3 q3 => ?_)
        exact k N r2 r3 hN' rfl q2 q3
      · have e0 : w = 2 := by omega
        subst e0
        refine And.intro (fun _ => And.intro (fun _ => ?_) (fun c => absurd c (by decide))) (fun c => absurd c (by decide))
        refine zr_put (by decide) (by decide) g4 (Or.inr (zn_8 h4 (by omega))) (fun r2 q2 => ?_)
        refine zr_put (by decide) (by decide) g2 (Or.inr z2) (fun r3 q3 => ?_)
        exact k N r2 r3 hN' rfl q2 q3
  · have e0 : w = 3 := by omega
    subst e0
    refine And.intro (fun c => absurd rfl c) (fun _ => ?_)
    refine zr_put (by decide) (by decide) g2 (Or.inl (by decide)) (fun r8 q8 => ?_)
    refine zr_gain (by decide) q8 g0 (F := -1) (by decide) (by decide) (by decide) (fun r9 q9 => ?_)
    refine zr_gain (by decide) q9 g4 (F := -1) (by decide) (by decide) (by decide) (fun r10 q10 => ?_)
    rw [show t.2.2.1 + t.1 * -1 + t.2.2.2.2 * -1 = t.2.2.1 - t.1 - t.2.2.2.2 from by omega] at q10
    refine zr_put (by decide) (by decide) q10 (Or.inr (zn_8 (by omega) (by omega))) (fun r11 q11 => ?_)
    refine zr_put (by decide) (by decide) g2 (Or.inr z2) (fun r12 q12 => ?_)
    exact k _ r11 r12 ⟨g0, g1, g2, g3, g4⟩ rfl q11 q12
