/-! what the methods of Limbs do, in whole numbers (first half) -/
theorem zr_set {nr : Nat} (hn : nr < 2147483648) {r : zRow} {v : Int32} {post : zRow → Prop} (hv : 0 ≤ v.toInt) (hv2 : v.toInt < 1073741824) (k : ∀ r' : zRow, zL nr r' v.toInt → post r') : zw_X1_set nr r v post := by
  have hz : ∀ j : Nat, 1 ≤ j → zD v.toInt j = 0 := zD_up (by rw [zD_succ, zD_0]; omega)
  have L : ∀ (d i : Nat) (r : zRow), i + d = nr → (∀ j : Nat, j < i → (r j).toInt = zD v.toInt j % 1073741824) → zw_X1_set_2 nr v (fun r => post r) (d + 1) (nI i) r := by
    intro d
    induction d with
    | zero => intro i r e h; exact And.intro (fun _ => k r (fun j hj => h j (by omega))) (fun c => absurd (nI_le (by omega) (by omega)) c)
    | succ d ih =>
      intro i r e h
      refine And.intro (fun c => absurd c (nI_ge (by omega) (by omega))) (fun _ => And.intro (fun c => And.intro (vp_in_nI (by omega) (by omega)) ?_) (fun c => And.intro (vp_in_nI (by omega) (by omega)) ?_))
      · intro r4 e4 x e5
        rw [e5, nI_1]
        refine ih (i + 1) r4 (by omega) (fun j hj => ?_)
        rw [e4, nI_clamp (by omega)]
        by_cases q : j = i
        · subst q
          have : j ≠ 0 := fun h0 => c (by rw [h0, nI_0])
          rw [pk_us, hz j (by omega), zn_0]; rfl
        · rw [pk_un q]; exact h j (by omega)
      · intro r4 e4 x e5
        rw [e5, nI_1]
        refine ih (i + 1) r4 (by omega) (fun j hj => ?_)
        rw [e4, nI_clamp (by omega)]
        have h0 : i = 0 := by
          have := congrArg Int32.toInt c
          rw [nI_toInt (by omega), zn_0] at this
          omega
        have : j = i := by omega
        subst this
        rw [pk_us, h0, zD_0]; omega
  exact ⟨_, L nr 0 r (by omega) (fun j hj => by omega)⟩
theorem zr_put {nr nf : Nat} (hn : nr < 2147483648) (hn2 : nf < 2147483648) {r f : zRow} {X : Int} {post : zRow → Prop} (hf : zL nf f X) (hX : nr ≤ nf ∨ zD X nf = 0) (k : ∀ r' : zRow, zL nr r' X → post r') : zw_X1_put nr nf r f post := by
  have L : ∀ (d i : Nat) (r : zRow), i + d = nr → (∀ j : Nat, j < i → (r j).toInt = zD X j % 1073741824) → zw_X1_put_2 nr nf f (fun r => post r) (d + 1) (nI i) r := by
    intro d
    induction d with
    | zero => intro i r e h; exact And.intro (fun _ => k r (fun j hj => h j (by omega))) (fun c => absurd (nI_le (by omega) (by omega)) c)
    | succ d ih =>
      intro i r e h
      refine And.intro (fun c => absurd c (nI_ge (by omega) (by omega))) (fun _ => And.intro (fun c => And.intro (vp_in_nI (by omega) (by omega)) ?_) (fun c => ?_))
      · intro r4 e4 x e5
        have c2 : nf ≤ i := (nI_leI (by omega) (by omega)).mp c
        rw [e5, nI_1]
        refine ih (i + 1) r4 (by omega) (fun j hj => ?_)
        rw [e4, nI_clamp (by omega)]
        by_cases q : j = i
        · subst q
          rcases hX with hX | hX
          · omega
          · rw [pk_us, zD_up hX j c2, zn_0]; rfl
        · rw [pk_un q]; exact h j (by omega)
      · have c2 : ¬ nf ≤ i := fun q => c ((nI_leI (by omega) (by omega)).mpr q)
        refine And.intro (vp_in_nI (by omega) (by omega)) (And.intro (vp_in_nI (by omega) (by omega)) ?_)
        intro r4 e4 x e5
        rw [e5, nI_1]
        refine ih (i + 1) r4 (by omega) (fun j hj => ?_)
        rw [e4, nI_clamp (by omega)]
        by_cases q : j = i
        · subst q
          rw [pk_us]; exact hf j (by omega)
        · rw [pk_un q]; exact h j (by omega)
  exact ⟨_, L nr 0 r (by omega) (fun j hj => by omega)⟩
/-- n limbs are enough for X with its sign -/
def zR (n : Nat) (X : Int) : Prop := 0 < n ∧ -536870912 ≤ zD X (n - 1) ∧ zD X (n - 1) < 536870912
/-- -1, 0 or 1 -/
def zsg (X : Int) : Int32 := if X < 0 then -1 else if X = 0 then 0 else 1
theorem zsg_neg {X : Int} (h : X < 0) : zsg X = -1 := if_pos h
theorem zsg_zero {X : Int} (h : X = 0) : zsg X = 0 := by unfold zsg; rw [if_neg (by omega), if_pos h]
theorem zsg_pos {X : Int} (h : 0 < X) : zsg X = 1 := by unfold zsg; rw [if_neg (by omega), if_neg (by omega)]
theorem zsg_toInt (X : Int) : (zsg X).toInt = X.sign := by
  rcases Int.lt_trichotomy X 0 with h | h | h
  · rw [zsg_neg h, Int.sign_eq_neg_one_of_neg h]; decide
  · rw [zsg_zero h, h]; decide
  · rw [zsg_pos h, Int.sign_eq_one_of_pos h]; decide
theorem zD_negi {X : Int} {i : Nat} (h : zD X i < 0) : X < 0 := by
  rcases Int.lt_or_le X 0 with q | q
  · exact q
  · have := zD_nonneg i q
    omega
theorem zn_ofI {x : Int32} {n : Nat} (h : x.toInt = n) : x = nI n := by
  have := zn_rng x
  exact zn_eq.mpr (by rw [nI_toInt (by omega), h])
theorem zr_signOf {nr : Nat} (hn : nr < 2147483648) {r : zRow} {X : Int} {post : Int32 → Prop} (hr : zL nr r X) (hX : zR nr X) (k : post (zsg X)) : zw_X1_signOf nr r post := by
  obtain ⟨h0, h1, h2⟩ := hX
  intro x e
  have e1 : (nI nr - (1 : Int32)).toInt = nr - 1 := zn_sub (nI_toInt (by omega)) zn_1 (by omega) (by omega)
  have hx : x.toInt = (nr : Int) - 1 := by rw [e, e1]
  have L : 0 ≤ X → ∀ (i : Nat) (p : Int32), p.toInt = (i : Int) - 1 → i ≤ nr → zD X i = 0 → zw_X1_signOf_5 nr r (post (-1)) (post 1) (post 0) (i + 1) p := by
    intro hX i
    induction i with
    | zero =>
      intro p hp hi hz
      refine And.intro (fun _ => ?_) (fun c => absurd (zn_lt.mpr (by rw [hp, zn_0]; omega)) c)
      rw [← zsg_zero (X := X) (by rw [zD_0] at hz; exact hz)]; exact k
    | succ i ih =>
      intro p hp hi hz
      have ep : p = nI i := zn_ofI (by omega)
      subst ep
      have hd := hr i (by omega)
      have hz2 : zD X i % 1073741824 = zD X i := by rw [zD_succ] at hz; omega
      have stop : ¬ r (nI i).toNatClampNeg = 0 → post 1 := fun c => by
        have : X ≠ 0 := fun h => c (zn_eq.mpr (by rw [nI_clamp (by omega), hd, h, zD_of0, zn_0]; rfl))
        rw [← zsg_pos (X := X) (by omega)]; exact k
      have go : r (nI i).toNatClampNeg = 0 → ∀ x1_6 : Int32, x1_6 = nI i + (-1 : Int32) → zw_X1_signOf_5 nr r (post (-1)) (post 1) (post 0) (i + 1) x1_6 := fun c x e => by
        rw [nI_clamp (by omega)] at c
        refine ih x ?_ (by omega) ?_
        · rw [e]; exact zn_add (nI_toInt (by omega)) zn_m1 (by omega) (by omega)
        · rw [← hz2, ← hd, c]; decide
      refine And.intro (fun c => absurd c (nI_pos (by omega))) (fun _ => And.intro (fun c => And.intro (vp_in_nI (by omega) (by omega)) (And.intro go stop)) (fun c => And.intro (vp_in_nI (by omega) (by omega)) (And.intro (fun _ => And.intro (vp_in_nI (by omega) (by omega)) (And.intro go stop)) (fun q => absurd ?_ q))))
      have e2 : (i : Int) = nr - 1 := by
        have := congrArg Int32.toInt c
        rw [e1, nI_toInt (by omega)] at this
        omega
      have e3 : i = nr - 1 := by omega
      rw [zn_eq, zn_sr29 (a := zD X i) (by rw [nI_clamp (by omega), hd, hz2]), zn_0]
      rw [← e3] at h2
      have := zD_nonneg i hX
      omega
  rcases Int.lt_or_le X 0 with q | q
  · refine ⟨1, And.intro (fun c => ?_) (fun _ => And.intro (fun c => absurd e c) (fun _ => And.intro ?_ (And.intro (fun c => ?_) (fun _ => ?_))))⟩
    · have := zn_lt.mp c
      rw [hx, zn_0] at this
      omega
    · rw [vp_in_iff, hx]; omega
    · exfalso
      have ex : x = nI (nr - 1) := zn_ofI (by omega)
      have c2 := congrArg Int32.toInt c
      rw [ex, nI_clamp (by omega), zn_sr29 (hr (nr - 1) (by omega)), zn_0] at c2
      have a : zD X (nr - 1) ≤ zD (-1) (nr - 1) := zD_mono _ (by omega)
      have b : zD (-1) (nr - 1) < 0 := Int.ediv_neg_of_neg_of_pos (by decide) (zn_ppos _)
      omega
    · rw [← zsg_neg q]; exact k
  · refine ⟨nr + 1, L q nr x hx (by omega) ?_⟩
    obtain ⟨j, rfl⟩ : ∃ j, nr = j + 1 := ⟨nr - 1, by omega⟩
    rw [Nat.add_sub_cancel] at h2
    have := zD_nonneg j q
    rw [zD_succ]; omega
theorem zR_abs {n : Nat} {X : Int} (h : zR n X) : zD (if X < 0 then -X else X) n = 0 := by
  obtain ⟨h0, h1, h2⟩ := h
  obtain ⟨j, rfl⟩ : ∃ j, n = j + 1 := ⟨n - 1, by omega⟩
  rw [Nat.add_sub_cancel] at h1 h2
  split
  · rename_i q
    have a := zD_nonneg j (X := -X) (by omega)
    have b : zD (-X) j ≤ 536870912 := by
      have p := zn_ppos (30 * j)
      have c : -X ≤ 536870912 * 2 ^ (30 * j) := by
        have d := Int.ediv_mul_le X (Int.ne_of_gt p)
        unfold zD at h1
        have e := Int.mul_le_mul_of_nonneg_right h1 (Int.le_of_lt p)
        omega
      have d := zD_mono j c
      have e : zD (536870912 * 2 ^ (30 * j)) j = 536870912 := Int.mul_ediv_cancel _ (Int.ne_of_gt p)
      omega
    rw [zD_succ]; omega
  · have := zD_nonneg j (X := X) (by omega)
    rw [zD_succ]; omega
theorem zR_of {n : Nat} {X : Int} (h0 : 0 < n) (h1 : -(536870912 * 2 ^ (30 * (n - 1))) ≤ X) (h2 : X < 536870912 * 2 ^ (30 * (n - 1))) : zR n X := by
  have p := zn_ppos (30 * (n - 1))
  refine ⟨h0, ?_, ?_⟩
  · have := zD_mono (n - 1) h1
    rw [← Int.neg_mul] at this
    have e : zD (-536870912 * 2 ^ (30 * (n - 1))) (n - 1) = -536870912 := Int.mul_ediv_cancel _ (Int.ne_of_gt p)
    omega
  · exact Int.ediv_lt_of_lt_mul p h2
theorem zr_putSize {nr nf : Nat} (hn : nr < 2147483648) (hn2 : nf < 2147483648) {r f : zRow} {X : Int} {post : zRow → Prop} (hf : zL nf f X) (hX : zR nf X) (k : ∀ r' : zRow, zL nr r' (if X < 0 then -X else X) → post r') : zw_X1_putSize nr nf r f post := by
  refine zr_signOf hn2 hf hX ?_
  have ha := zR_abs hX
  rcases Int.lt_or_le X 0 with q | q
  · rw [if_pos q] at k ha
    rw [zsg_neg q]
    refine And.intro (fun _ => ?_) (fun c => absurd (by decide) c)
    have L : ∀ (d i : Nat) (c : Int32) (r : zRow), i + d = nr → (∀ j : Nat, j < i → (r j).toInt = zD (-X) j % 1073741824) → (i ≤ nf → zD (-X) i = c.toInt - zD X i ∧ -1 ≤ c.toInt ∧ c.toInt ≤ 0) → zw_X1_putSize_17 nr nf f (fun r => post r) (d + 1) c (nI i) r := by
      intro d
      induction d with
      | zero => intro i c r e h _; exact And.intro (fun _ => k r (fun j hj => h j (by omega))) (fun c => absurd (nI_le (by omega) (by omega)) c)
      | succ d ih =>
        intro i c r e h hz
        refine And.intro (fun c => absurd c (nI_ge (by omega) (by omega))) (fun _ => And.intro (fun c2 => And.intro (vp_in_nI (by omega) (by omega)) ?_) (fun c2 => ?_))
        · have c3 := (nI_leI (by omega) (by omega)).mp c2
          intro r4 e4 x6 e6
          rw [e6, nI_1]
          rw [nI_clamp (by omega)] at e4
          refine ih (i + 1) c r4 (by omega) (fun j hj => ?_) (fun _ => by omega)
          rw [e4]
          by_cases q : j = i
          · subst q
            rw [pk_us, zD_up ha j c3, zn_0]; rfl
          · rw [pk_un q]; exact h j (by omega)
        · have c3 : ¬ nf ≤ i := fun q => c2 ((nI_leI (by omega) (by omega)).mpr q)
          obtain ⟨hz, hc1, hc2⟩ := hz (by omega)
          refine And.intro (vp_in_nI (by omega) (by omega)) ?_
          intro x2 e2
          rw [nI_clamp (by omega)] at e2
          have hd := hf i (by omega)
          have ex : x2.toInt = c.toInt - zD X i % 1073741824 := by rw [e2]; exact zn_sub rfl hd (by omega) (by omega)
          refine And.intro (vp_in_nI (by omega) (by omega)) ?_
          intro r4 e4 x5 e5 x6 e6
          rw [e6, nI_1]
          rw [nI_clamp (by omega)] at e4
          have e7 : x5.toInt = (c.toInt - zD X i % 1073741824) / 1073741824 := by rw [e5]; exact zn_sr30 ex
          refine ih (i + 1) x5 r4 (by omega) (fun j hj => ?_) (fun _ => ⟨?_, ?_, ?_⟩)
          · rw [e4]
            by_cases q : j = i
            · subst q
              rw [pk_us, zn_mk30 ex, hz]; omega
            · rw [pk_un q]; exact h j (by omega)
          · rw [zD_succ, zD_succ, hz, e7]; omega
          · rw [e7]; omega
          · rw [e7]; omega
    exact ⟨_, L nr 0 0 r (by omega) (fun j hj => by omega) (fun _ => ⟨by rw [zD_0, zD_0, zn_0]; omega, by decide, by decide⟩)⟩
  · rw [if_neg (by omega)] at k ha
    refine And.intro (fun c => ?_) (fun _ => zr_put hn hn2 hf (Or.inr ha) k)
    exfalso
    rcases Int.lt_or_le 0 X with q2 | q2
    · rw [zsg_pos q2] at c; exact absurd c (by decide)
    · rw [zsg_zero (by omega)] at c; exact absurd c (by decide)
theorem zr_scale {nr : Nat} (hn : nr < 2147483648) {r : zRow} {f : Int64} {X F : Int} {post : zRow → Prop} (hr : zL nr r X) (hf : f.toInt = F) (hf1 : -2147483648 ≤ F) (hf2 : F ≤ 2147483648) (k : ∀ r' : zRow, zL nr r' (X * F) → post r') : zw_X1_scale nr r f post := by
  have L : ∀ (d i : Nat) (c : Int64) (r : zRow), i + d = nr → zH nr i r (X * F) X → zD (X * F) i = c.toInt + zD X i * F → -8589934592 ≤ c.toInt → c.toInt ≤ 8589934592 → zw_X1_scale_5 nr f (fun r => post r) (d + 1) c (nI i) r := by
    intro d
    induction d with
    | zero => intro i c r e h _ _ _; exact And.intro (fun _ => k r (zH_out h (by omega))) (fun c => absurd (nI_le (by omega) (by omega)) c)
    | succ d ih =>
      intro i c r e h hz hc1 hc2
      refine And.intro (fun c => absurd c (nI_ge (by omega) (by omega))) (fun _ => And.intro (vp_in_nI (by omega) (by omega)) ?_)
      intro x3 e3
      rw [nI_clamp (by omega)] at e3
      have hd := zH_at h (show i < nr by omega)
      have hb := zn_xf (x := zD X i % 1073741824) (f := F) (by omega) (by omega) hf1 hf2
      have em : (Int32.toInt64 (r i) * f).toInt = zD X i % 1073741824 * F := zn_mulL (zn_wide hd) hf (by omega) (by omega)
      have ex : x3.toInt = c.toInt + zD X i % 1073741824 * F := by rw [e3]; exact zn_addL rfl em (by omega) (by omega)
      obtain ⟨s1, s2⟩ := zn_stepf hz
      refine And.intro (vp_in_nI (by omega) (by omega)) ?_
      intro r4 e4 x5 e5 x6 e6
      rw [e6, nI_1]
      rw [nI_clamp (by omega)] at e4
      have e7 : x5.toInt = (c.toInt + zD X i % 1073741824 * F) / 1073741824 := by rw [e5]; exact zn_sr30L ex
      refine ih (i + 1) x5 r4 (by omega) ?_ ?_ ?_ ?_
      · rw [e4]; exact zH_step h (by rw [← s1]; exact zn_nar (zn_mk30L ex) (by omega) (by omega))
      · rw [zD_succ, zD_succ, e7]; exact s2
      · rw [e7]; omega
      · rw [e7]; omega
  exact ⟨_, L nr 0 0 r (by omega) (zH_in _ hr) (by rw [zD_0, zD_0, zn_0L]; omega) (by decide) (by decide)⟩
theorem zr_gain {nr : Nat} (hn : nr < 2147483648) {r o : zRow} {f : Int64} {X Y F : Int} {post : zRow → Prop} (hr : zL nr r X) (ho : zL nr o Y) (hf : f.toInt = F) (hf1 : -2147483648 ≤ F) (hf2 : F ≤ 2147483648) (k : ∀ r' : zRow, zL nr r' (X + Y * F) → post r') : zw_X1_gain nr nr r o f post := by
  have L : ∀ (d i : Nat) (c : Int64) (r : zRow), i + d = nr → zH nr i r (X + Y * F) X → zD (X + Y * F) i = c.toInt + (zD X i + zD Y i * F) → -8589934592 ≤ c.toInt → c.toInt ≤ 8589934592 → zw_X1_gain_6 nr nr o f (fun r => post r) (d + 1) c (nI i) r := by
    intro d
    induction d with
    | zero => intro i c r e h _ _ _; exact And.intro (fun _ => k r (zH_out h (by omega))) (fun c => absurd (nI_le (by omega) (by omega)) c)
    | succ d ih =>
      intro i c r e h hz hc1 hc2
      refine And.intro (fun c => absurd c (nI_ge (by omega) (by omega))) (fun _ => And.intro (fun c => absurd c (nI_ge (by omega) (by omega))) (fun _ => And.intro (vp_in_nI (by omega) (by omega)) (And.intro (vp_in_nI (by omega) (by omega)) ?_)))
      intro x3 e3
      rw [nI_clamp (by omega)] at e3
      have hd := zH_at h (show i < nr by omega)
      have hy := ho i (show i < nr by omega)
      have hb := zn_xf (x := zD Y i % 1073741824) (f := F) (by omega) (by omega) hf1 hf2
      have em : (Int32.toInt64 (o i) * f).toInt = zD Y i % 1073741824 * F := zn_mulL (zn_wide hy) hf (by omega) (by omega)
      have em2 : (Int32.toInt64 (r i) + (Int32.toInt64 (o i) * f)).toInt = zD X i % 1073741824 + zD Y i % 1073741824 * F := zn_addL (zn_wide hd) em (by omega) (by omega)
      have ex : x3.toInt = c.toInt + (zD X i % 1073741824 + zD Y i % 1073741824 * F) := by rw [e3]; exact zn_addL rfl em2 (by omega) (by omega)
      obtain ⟨s1, s2⟩ := zn_stepg hz
      refine And.intro (vp_in_nI (by omega) (by omega)) ?_
      intro r4 e4 x5 e5 x6 e6
      rw [e6, nI_1]
      rw [nI_clamp (by omega)] at e4
      have e7 : x5.toInt = (c.toInt + (zD X i % 1073741824 + zD Y i % 1073741824 * F)) / 1073741824 := by rw [e5]; exact zn_sr30L ex
      refine ih (i + 1) x5 r4 (by omega) ?_ ?_ ?_ ?_
      · rw [e4]; exact zH_step h (by rw [← s1]; exact zn_nar (zn_mk30L ex) (by omega) (by omega))
      · rw [zD_succ, zD_succ, zD_succ, e7]; exact s2
      · rw [e7]; omega
      · rw [e7]; omega
  exact ⟨_, L nr 0 0 r (by omega) (zH_in _ hr) (by rw [zD_0, zD_0, zD_0, zn_0L]; omega) (by decide) (by decide)⟩
theorem zT_step {n p : Nat} {r : zRow} {E : Int} (h : zT n p r E) : zT n (p + 1) r (E / 1073741824) := fun k hk hn => by
  rw [h k (by omega) hn, show k - p = 1 + (k - (p + 1)) from by omega, zD_add, zD_succ, zD_0]
theorem zT_at {n p : Nat} {r : zRow} {E : Int} (h : zT n p r E) (hp : p < n) : (r p).toInt = E % 1073741824 := by
  rw [h p (by omega) hp, Nat.sub_self, zD_0]
theorem zr_gainRaised {nr no p : Nat} (hn : nr < 2147483648) (hn2 : no < 1073741824) (hp : p < 1073741824) {r o : zRow} {f : Int64} {E Y F : Int} {post : zRow → Prop} (hr : zT nr p r E) (ho : zL no o Y) (hY : zD Y no = 0) (hf : f.toInt = F) (hf1 : -2147483648 ≤ F) (hf2 : F ≤ 2147483648) (k : ∀ r' : zRow, (∀ j : Nat, j < p → r' j = r j) → zT nr p r' (E + Y * F) → post r') : zw_X1_gainRaised nr no r o f (nI p) post := by
  refine And.intro (fun _ => ?_) (fun c => absurd (nI_pos' (by omega)) c)
  have L : ∀ (d j : Nat) (c : Int64) (r1 : zRow), p + j + d = (if nr ≤ p then p else nr) → (∀ q : Nat, q < p → r1 q = r q) → (∀ q : Nat, p ≤ q → q < nr → (r1 q).toInt = zD (if q < p + j then E + Y * F else E) (q - p) % 1073741824) → zD (E + Y * F) j = c.toInt + (zD E j + zD Y j * F) → -8589934592 ≤ c.toInt → c.toInt ≤ 8589934592 → zw_X1_gainRaised_16 nr no o f (fun r => post r) (d + 1) c (nI (p + j)) (nI j) r1 := by
    intro d
    induction d with
    | zero =>
      intro j c r1 e h1 h2 _ _ _
      have e' : nr ≤ p + j := by split at e <;> omega
      have e2 : p + j < 2147483648 := by split at e <;> omega
      refine And.intro (fun _ => k r1 h1 (fun q hq hq2 => ?_)) (fun c => absurd (nI_le e' (by omega)) c)
      rw [h2 q hq hq2, if_pos (by omega)]
    | succ d ih =>
      intro j c r1 e h1 h2 hz hc1 hc2
      have e' : p + j < nr := by split at e <;> omega
      have e3 : p + (j + 1) + d = (if nr ≤ p then p else nr) := by omega
      refine And.intro (fun c => absurd c (nI_ge e' (by omega))) (fun _ => ?_)
      refine ⟨True ∧ (j < no ∨ c.toInt ≠ 0), fun hg => And.intro (vp_in_nI (by omega) (by omega)) ?_, ?_⟩
      · have hd : (r1 (p + j)).toInt = zD E j % 1073741824 := by
          rw [h2 (p + j) (by omega) e', if_neg (by omega), Nat.add_sub_cancel_left]
        have hb := zn_xf (x := zD Y j % 1073741824) (f := F) (by omega) (by omega) hf1 hf2
        refine ⟨fun v => v.toInt = zD Y j % 1073741824 * F, ?_, ?_⟩
        · intro v hv x3 e4
          rw [nI_clamp (by omega)] at e4
          have em2 : (Int32.toInt64 (r1 (p + j)) + v).toInt = zD E j % 1073741824 + zD Y j % 1073741824 * F := zn_addL (zn_wide hd) hv (by omega) (by omega)
          have ex : x3.toInt = c.toInt + (zD E j % 1073741824 + zD Y j % 1073741824 * F) := by rw [e4]; exact zn_addL rfl em2 (by omega) (by omega)
          obtain ⟨s1, s2⟩ := zn_stepg hz
          refine And.intro (vp_in_nI (by omega) (by omega)) ?_
          intro r4 e4 x5 e5 x6 e6 x7 e7
          rw [e6, e7, nI_1, nI_1]
          rw [nI_clamp (by omega)] at e4
          have e8 : x5.toInt = (c.toInt + (zD E j % 1073741824 + zD Y j % 1073741824 * F)) / 1073741824 := by rw [e5]; exact zn_sr30L ex
          refine ih (j + 1) x5 r4 e3 (fun q hq => ?_) (fun q hq hq2 => ?_) ?_ ?_ ?_
          · rw [e4, pk_un (by omega)]; exact h1 q hq
          · rw [e4]
            by_cases w : q = p + j
            · subst w
              rw [pk_us, if_pos (by omega), Nat.add_sub_cancel_left, ← s1]
              exact zn_nar (zn_mk30L ex) (by omega) (by omega)
            · rw [pk_un w, h2 q hq hq2]
              by_cases w2 : q < p + j
              · rw [if_pos w2, if_pos (by omega)]
              · rw [if_neg w2, if_neg (by omega)]
          · rw [zD_succ, zD_succ, zD_succ, e8]; exact s2
          · rw [e8]; omega
          · rw [e8]; omega
        · refine And.intro (fun c => ?_) (fun c => And.intro ?_ ?_)
          · have c2 : no ≤ j := (nI_leI (by omega) (by omega)).mp c
            show (0 : Int64).toInt = _
            rw [zD_up hY j c2, zn_0L]; simp
          · have c2 : ¬ no ≤ j := fun q => c ((nI_leI (by omega) (by omega)).mpr q)
            exact vp_in_nI (by omega) (by omega)
          · have c2 : ¬ no ≤ j := fun q => c ((nI_leI (by omega) (by omega)).mpr q)
            show (Int32.toInt64 (o (nI j).toNatClampNeg) * f).toInt = _
            rw [nI_clamp (by omega)]
            exact zn_mulL (zn_wide (ho j (by omega))) hf (by omega) (by omega)
      · refine And.intro (fun c => ⟨trivial, Or.inl ((nI_ltI (by omega) (by omega)).mp c)⟩) (fun c => And.intro (fun c2 => ?_) (fun c2 => ⟨trivial, Or.inr (fun w => c2 ((lg_cmp_eq _ _).mpr (zn_eqL.mpr (by rw [w, zn_0L]))))⟩))
        have c3 : ¬ j < no := fun q => c ((nI_ltI (by omega) (by omega)).mpr q)
        have c4 := zn_eqL.mp ((lg_cmp_eq _ _).mp c2)
        rw [zn_0L] at c4
        rw [zD_up hY j (by omega), c4] at hz
        refine k r1 h1 (fun q hq hq2 => ?_)
        rw [h2 q hq hq2]
        by_cases w2 : q < p + j
        · rw [if_pos w2]
        · rw [if_neg w2, show q - p = j + (q - p - j) from by omega, zD_add, zD_add]
          rw [show zD (E + Y * F) j = zD E j from by rw [hz]; simp]
  refine ⟨(if nr ≤ p then p else nr) - p + 1, L _ 0 0 r ?_ (fun _ _ => rfl) (fun q hq hq2 => ?_) ?_ (by decide) (by decide)⟩
  · split <;> omega
  · rw [if_neg (by omega)]; exact hr q hq hq2
  · rw [zD_0, zD_0, zD_0, zn_0L]; omega
theorem zn_stepm {A B E Z : Int} (h : Z = E + A * B) : (E + B * (A % 1073741824)) % 1073741824 = Z % 1073741824 ∧ Z / 1073741824 = (E + B * (A % 1073741824)) / 1073741824 + A / 1073741824 * B := by
  have h1 : A = 1073741824 * (A / 1073741824) + A % 1073741824 := by omega
  have h2 : A * B = 1073741824 * (A / 1073741824 * B) + B * (A % 1073741824) := by
    conv => lhs; rw [h1]
    rw [Int.add_mul, Int.mul_assoc, Int.mul_comm (A % 1073741824) B]
  rw [h2] at h
  generalize A / 1073741824 * B = p at *
  generalize B * (A % 1073741824) = q at *
  omega
theorem zr_multiply {nr na nb : Nat} (hn : nr < 2147483648) (hn2 : na < 1073741824) (hn3 : nb < 1073741824) {r a b : zRow} {A B : Int} {post : zRow → Prop} (ha : zL na a A) (hb : zL nb b B) (hA : zD A na = 0) (hB : zD B nb = 0) (hl : na ≤ nr) (k : ∀ r' : zRow, zL nr r' (A * B) → post r') : zw_X1_multiply nr na nb r a b post := by
  refine zr_set hn (by decide) (by decide) (fun r1 h1 => ?_)
  rw [zn_0] at h1
  have L : ∀ (d i : Nat) (r : zRow) (E : Int), i + d = na → (∀ j : Nat, j < i → (r j).toInt = zD (A * B) j % 1073741824) → zT nr i r E → zD (A * B) i = E + zD A i * B → zw_X1_multiply_7 nr na nb a b (fun r => post r) (d + 1) (nI i) r := by
    intro d
    induction d with
    | zero =>
      intro i r E e h hT hz
      refine And.intro (fun _ => k r (fun j hj => ?_)) (fun c => absurd (nI_le (by omega) (by omega)) c)
      by_cases q : j < i
      · exact h j q
      · have e2 : i = na := by omega
        subst e2
        rw [hA] at hz
        rw [hT j (by omega) hj, show j = i + (j - i) from by omega, zD_add, hz]
        simp
    | succ d ih =>
      intro i r E e h hT hz
      have hd := ha i (by omega)
      obtain ⟨s1, s2⟩ := zn_stepm hz
      refine And.intro (fun c => absurd c (nI_ge (by omega) (by omega))) (fun _ => And.intro (vp_in_nI (by omega) (by omega)) (And.intro (fun c => ?_) (fun c => And.intro (vp_in_nI (by omega) (by omega)) ?_)))
      · intro x e5
        rw [e5, nI_1]
        rw [nI_clamp (by omega)] at c
        have hd0 : zD A i % 1073741824 = 0 := by rw [← hd, c]; decide
        rw [hd0] at s1 s2
        simp only [Int.mul_zero, Int.add_zero] at s1 s2
        refine ih (i + 1) r (E / 1073741824) (by omega) (fun j hj => ?_) (zT_step hT) (by rw [zD_succ, zD_succ]; exact s2)
        by_cases q : j = i
        · subst q
          rw [zT_at hT (by omega)]; exact s1
        · exact h j (by omega)
      · rw [nI_clamp (by omega)]
        refine zr_gainRaised hn hn3 (by omega) hT hb hB (zn_wide hd) (by omega) (by omega) (fun r' hs hT' => ?_)
        intro x e5
        rw [e5, nI_1]
        refine ih (i + 1) r' ((E + B * (zD A i % 1073741824)) / 1073741824) (by omega) (fun j hj => ?_) (zT_step hT') (by rw [zD_succ, zD_succ]; exact s2)
        by_cases q : j = i
        · subst q
          rw [zT_at hT' (by omega)]; exact s1
        · rw [hs j (by omega)]; exact h j (by omega)
  refine ⟨_, L na 0 r1 0 (by omega) (fun j hj => by omega) (fun j _ hj => ?_) ?_⟩
  · rw [h1 j hj, Nat.sub_zero]
  · rw [zD_0, zD_0]; omega
theorem zr_multiply_sq_7 {nr na : Nat} {a : zRow} {K : zRow → Prop} : ∀ (k : Nat) (i : Int32) (r : zRow), zw_X1_multiply_sq_7 nr na a K k i r = zw_X1_multiply_7 nr na na a a K k i r := by
  intro k
  induction k with
  | zero => intro i r; rfl
  | succ k ih => intro i r; simp only [zw_X1_multiply_sq_7, zw_X1_multiply_7, ih]
theorem zr_multiply_sq {nr na : Nat} (hn : nr < 2147483648) (hn2 : na < 1073741824) {r a : zRow} {A : Int} {post : zRow → Prop} (ha : zL na a A) (hA : zD A na = 0) (hl : na ≤ nr) (k : ∀ r' : zRow, zL nr r' (A * A) → post r') : zw_X1_multiply_sq nr na r a post := by
  have h := zr_multiply (r := r) hn hn2 hn2 ha ha hA hA hl k
  unfold zw_X1_multiply at h
  unfold zw_X1_multiply_sq
  simp only [zr_multiply_sq_7]
  exact h
theorem zr_compare {na nb t : Nat} (hn : na < 1073741824) (hn2 : nb < 1073741824) (ht : t ≤ na) (ht2 : t ≤ nb) {a b : zRow} {A B : Int} {post : Int32 → Prop} (ha : zL t a A) (hb : zL t b B) (hA : zD A t = 0) (hB : zD B t = 0) (k : post (zsg (A - B))) : zw_X1_compare na nb a b (nI t) post := by
  intro x e
  have e1 : (if (if nI nb < nI na then nI nb else nI na) < nI t then (if nI nb < nI na then nI nb else nI na) else nI t) = nI t := by
    rw [if_neg]
    split
    · exact nI_nlt ht2 (by omega)
    · exact nI_nlt ht (by omega)
  have hx : x.toInt = (t : Int) - 1 := by rw [e, e1]; exact zn_sub (nI_toInt (by omega)) zn_1 (by omega) (by omega)
  have L : ∀ (i : Nat) (p : Int32), p.toInt = (i : Int) - 1 → i ≤ t → zD A i = zD B i → zw_X1_compare_14 na nb a b (fun (x3_7 : Int32) => (vp_in x3_7 na ∧ (vp_in x3_7 nb ∧ (((b (Int32.toNatClampNeg x3_7)) ≤ (a (Int32.toNatClampNeg x3_7)) → post (1 : Int32) ) ∧ (¬ (b (Int32.toNatClampNeg x3_7)) ≤ (a (Int32.toNatClampNeg x3_7)) → post (-1 : Int32) ))))) (post (0 : Int32) ) (i + 1) p := by
    intro i
    induction i with
    | zero =>
      intro p hp hi hz
      refine And.intro (fun _ => ?_) (fun c => absurd (zn_lt.mpr (by rw [hp, zn_0]; omega)) c)
      rw [zD_0, zD_0] at hz
      rw [← zsg_zero (X := A - B) (by omega)]; exact k
    | succ i ih =>
      intro p hp hi hz
      have ep : p = nI i := zn_ofI (by omega)
      subst ep
      have hda := ha i (by omega)
      have hdb := hb i (by omega)
      rw [zD_succ, zD_succ] at hz
      refine And.intro (fun c => absurd c (nI_pos (by omega))) (fun _ => And.intro (vp_in_nI (by omega) (by omega)) (And.intro (vp_in_nI (by omega) (by omega)) (And.intro (fun c => ?_) (fun c => ?_))))
      · intro x e
        rw [nI_clamp (by omega)] at c
        refine ih x ?_ (by omega) ?_
        · rw [e]; exact zn_add (nI_toInt (by omega)) zn_m1 (by omega) (by omega)
        · rw [c, hdb] at hda; omega
      · rw [nI_clamp (by omega)] at c
        have c2 : zD A i % 1073741824 ≠ zD B i % 1073741824 := fun q => c (zn_eq.mpr (by rw [hda, hdb, q]))
        have key : ∀ {U V : Int}, zD U i < zD V i → U < V := fun {U V} h => by
          rcases Int.lt_or_le U V with q | q
          · exact q
          · have := zD_mono i q
            omega
        refine And.intro (vp_in_nI (by omega) (by omega)) (And.intro (vp_in_nI (by omega) (by omega)) (And.intro (fun w => ?_) (fun w => ?_)))
        · rw [nI_clamp (by omega)] at w
          have w2 := zn_le.mp w
          rw [hda, hdb] at w2
          have := key (U := B) (V := A) (by omega)
          rw [← zsg_pos (X := A - B) (by omega)]; exact k
        · rw [nI_clamp (by omega)] at w
          have w2 : ¬ zD B i % 1073741824 ≤ zD A i % 1073741824 := fun q => w (zn_le.mpr (by rw [hda, hdb]; exact q))
          have := key (U := A) (V := B) (by omega)
          rw [← zsg_neg (X := A - B) (by omega)]; exact k
  exact ⟨_, L t x hx (by omega) (by rw [hA, hB])⟩
