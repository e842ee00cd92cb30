/-! light -/
def zokI (u v : Int32) : Prop := (1 ≤ v.toInt ∧ v.toInt ≤ 25) ∧ (-v.toInt ≤ u.toInt ∧ u.toInt ≤ v.toInt)
noncomputable def zoI (a : zAb) (u v : Int32) : Int32 × zAb := zif (zokI u v) (0, (a.1, a.2.1, (u, zNt v), a.2.2.2)) (1, a)
theorem zoI_1 {a : zAb} {u v : Int32} (h : ¬ zokI u v) : zoI a u v = (1, a) := zif_f h
theorem zoI_0 {a : zAb} {u v : Int32} (h : zokI u v) : zoI a u v = (0, (a.1, a.2.1, (u, zNt v), a.2.2.2)) := zif_t h
theorem zoI_W {a : zAb} {u v : Int32} (h : zWA a) : zWA (zoI a u v).2 := by
  by_cases h1 : zokI u v
  · rw [zoI_0 h1]
    obtain ⟨h2, h3, h4, h5, h6⟩ := h
    refine ⟨h2, h3, ⟨?_, ?_, ?_⟩, h5, h6⟩
    · show 1 ≤ zNt v
      unfold zNt; have := h1.1; omega
    · show zNt v ≤ 25
      unfold zNt; have := h1.1; omega
    · show u.toInt.natAbs ≤ zNt v
      unfold zNt; have := h1.1; have := h1.2; omega
  · rw [zoI_1 h1]; exact h
theorem zk_light {O P0 P1 N : zMem} {a : zAb} {u v : Int32} {post : Int32 → zMem → Prop} (hC : zCA O P0 P1 N a) (k : ∀ O' : zMem, zCA O' P0 P1 N (zoI a u v).2 → (∀ i : Nat, i ≠ 12 → i ≠ 13 → O' i = O i) → post (zoI a u v).1 O') : zw_L_light O u v post := by
  have fail : ¬ zokI u v → post 1 O := fun h1 => by
    rw [zoI_1 h1] at k; exact k O hC (fun _ _ _ => rfl)
  refine zr_needLB (fun hv => ?_) (fun hv => fail (fun q => hv q.1))
  have nv : (-v).toInt = -v.toInt := zn_neg rfl (by have := hv.1; omega)
  refine And.intro (fun d => fail (fun q => by have := zi_lt nv d; have := q.2; omega)) (fun d1 => And.intro (fun d2 => ?_) (fun d => fail (fun q => by have := zi_nle rfl d; have := q.2; omega)))
  have hok : zokI u v := ⟨hv, zi_nlt nv d1, zi_le rfl d2⟩
  rw [zoI_0 hok] at k
  obtain ⟨h1, h2, ⟨h3, h4⟩, ⟨h5, h6⟩, h7, h8⟩ := hC
  have ev : v = nI (zNt v) := (zt_n (n := 25) (by have := hv.1; omega) hv.2).1
  refine k _ ⟨h1, h2, ⟨rfl, ev⟩, ⟨h5, h6⟩, h7, h8⟩ (fun i a b => ?_)
  rw [zs_out (zn_beq b), zs_out (zn_beq a)]
theorem zRA_li {T : zMem} {a : zAb} {u v : Int32} (h : zRA T a) (hv : zokI u v) : zRA (zset (zset T 9 (fun _ => u)) 10 (fun _ => v)) (a.1, a.2.1, (u, zNt v), a.2.2.2) := by
  obtain ⟨h1, h2, ⟨⟨g1, g2⟩, ⟨g3, g4⟩, ⟨g5, g6⟩, w, g7⟩⟩ := h
  have ev : v = nI (zNt v) := (zt_n (n := 25) (by have := hv.1; omega) hv.1.2).1
  refine ⟨h1, h2, ⟨⟨rfl, ev⟩, ⟨g3, g4⟩, ⟨g5, g6⟩, w, g7⟩⟩
theorem zf_light {M : zMem} {a : zAb} {u v : Int32} {post : zMem → Prop} (h : zRA M a) (k : ∀ M' : zMem, M' 0 0 = (zoI a u v).1 → zRA M' (zoI a u v).2 → post M') : zw_X6_light M u v post := by
  have h1 : zRA (zset M 0 (fun _ => 0)) a := zRA_0 h
  have bad : ¬ zokI u v → post (zset (zset M 0 (fun _ => 0)) 0 (fun _ => 1)) := fun q => by
    rw [zoI_1 q] at k
    exact k _ rfl (zRA_0 h1)
  refine And.intro (fun d => ?_) (fun d1 => And.intro (fun d => ?_) (fun d2 => And.intro (fun d => ?_) (fun d3 => ?_)))
  · exact zr_right0 rfl (by decide) (And.intro (fun q => absurd rfl q) (fun _ => bad (fun q => by have := zi_lt zc_1 d; have := q.1; omega)))
  · exact zr_right0 rfl (by decide) (And.intro (fun q => absurd rfl q) (fun _ => bad (fun q => by have := zi_gt zc_25 d; have := q.1; omega)))
  · have nv : (-v).toInt = -v.toInt := zn_neg rfl (by have := zi_nlt zc_1 d1; omega)
    exact zr_right0 rfl (by decide) (And.intro (fun q => absurd rfl q) (fun _ => bad (fun q => by have := zi_lt nv d; have := q.2; omega)))
  · have nv : (-v).toInt = -v.toInt := zn_neg rfl (by have := zi_nlt zc_1 d1; omega)
    by_cases hlt : v < u
    · refine ⟨fun z => z = 0, ?_, And.intro (fun _ => rfl) (fun q => absurd hlt q)⟩
      rintro z rfl
      exact zr_right0 rfl (by decide) (And.intro (fun q => absurd rfl q) (fun _ => bad (fun q => by have := zi_gt rfl hlt; have := q.2; omega)))
    · refine ⟨fun z => z = 1, ?_, And.intro (fun q => absurd q hlt) (fun _ => rfl)⟩
      rintro z rfl
      have hok : zokI u v := ⟨⟨zi_nlt zc_1 d1, zi_ngt zc_25 d2⟩, zi_nlt nv d3, zi_ngt rfl hlt⟩
      rw [zoI_0 hok] at k
      exact zr_right1 rfl (by decide) (And.intro (fun _ => k _ rfl (zRA_li h1 hok)) (fun q => absurd q (by decide)))
/-! list, unlist -/
def zhas (b : zAr) (p q : Nat) : Prop := ∃ j : Nat, j < b.2.1.1 ∧ b.2.1.2.1 j = p ∧ b.2.1.2.2 j = q
def zadd (b : zAr) (p q : Nat) : zAr := (b.1, (b.2.1.1 + 1, (fun j => if j = b.2.1.1 then p else b.2.1.2.1 j), (fun j => if j = b.2.1.1 then q else b.2.1.2.2 j)), b.2.2)
noncomputable def zoS (a : zAb) (x y : Int32) : Int32 × Int32 × zAb := zif (zIx x y) (zif (a.2.2.2.1.1 = 6 ∨ zhas a.2.2 (zlu x y) (zll x y)) (0, -1, a) (0, nI (a.2.2.2.1.1 + 1), (a.1, a.2.1, zadd a.2.2 (zlu x y) (zll x y)))) (1, 0, a)
theorem zoS_1 {a : zAb} {x y : Int32} (h : ¬ zIx x y) : zoS a x y = (1, 0, a) := zif_f h
theorem zoS_6 {a : zAb} {x y : Int32} (h : zIx x y) (g : a.2.2.2.1.1 = 6 ∨ zhas a.2.2 (zlu x y) (zll x y)) : zoS a x y = (0, -1, a) := (zif_t h).trans (zif_t g)
theorem zoS_0 {a : zAb} {x y : Int32} (h : zIx x y) (g : ¬ (a.2.2.2.1.1 = 6 ∨ zhas a.2.2 (zlu x y) (zll x y))) : zoS a x y = (0, nI (a.2.2.2.1.1 + 1), (a.1, a.2.1, zadd a.2.2 (zlu x y) (zll x y))) := (zif_t h).trans (zif_f g)
theorem zl_cop {x y : Int32} (h : zIx x y) : Nat.gcd (zlu x y) (zll x y) = 1 := by
  obtain ⟨-, -, h1, h2, h3, h4⟩ := zIx_t h
  unfold zlu zll
  obtain ⟨g, hg⟩ : ∃ g, Nat.gcd (zNt x) (zNt y) = g := ⟨_, rfl⟩
  have g0 : 0 < g := by rw [← hg]; exact Nat.gcd_pos_of_pos_left _ h1
  obtain ⟨p, hp⟩ : ∃ p, zNt x = g * p := by rw [← hg]; exact Nat.gcd_dvd_left _ _
  obtain ⟨q, hq⟩ : ∃ q, zNt y = g * q := by rw [← hg]; exact Nat.gcd_dvd_right _ _
  rw [hg, hp, hq, Nat.mul_div_cancel_left _ g0, Nat.mul_div_cancel_left _ g0]
  rw [hp, hq, Nat.gcd_mul_left] at hg
  exact Nat.eq_of_mul_eq_mul_left g0 (by rw [hg, Nat.mul_one])
theorem zoS_W {a : zAb} {x y : Int32} (h : zWA a) : zWA (zoS a x y).2.2 := by
  by_cases h1 : zIx x y
  · by_cases h2 : a.2.2.2.1.1 = 6 ∨ zhas a.2.2 (zlu x y) (zll x y)
    · rw [zoS_6 h1 h2]; exact h
    · rw [zoS_0 h1 h2]
      obtain ⟨b1, b2, b3, b4⟩ := zl_b h1
      obtain ⟨h3, h4, h5, ⟨h6, h7⟩, h8⟩ := h
      refine ⟨h3, h4, h5, ⟨?_, fun j hj => ?_⟩, h8⟩
      · show a.2.2.2.1.1 + 1 ≤ 6
        have : ¬ a.2.2.2.1.1 = 6 := fun q => h2 (Or.inl q)
        have h6 : a.2.2.2.1.1 ≤ 6 := h6
        omega
      · have hj : j < a.2.2.2.1.1 + 1 := hj
        show 1 ≤ (if j = a.2.2.2.1.1 then zlu x y else a.2.2.2.1.2.1 j) ∧ (if j = a.2.2.2.1.1 then zlu x y else a.2.2.2.1.2.1 j) ≤ 9 ∧ 1 ≤ (if j = a.2.2.2.1.1 then zll x y else a.2.2.2.1.2.2 j) ∧ (if j = a.2.2.2.1.1 then zll x y else a.2.2.2.1.2.2 j) ≤ 9 ∧ Nat.gcd (if j = a.2.2.2.1.1 then zlu x y else a.2.2.2.1.2.1 j) (if j = a.2.2.2.1.1 then zll x y else a.2.2.2.1.2.2 j) = 1
        by_cases q : j = a.2.2.2.1.1
        · rw [if_pos q, if_pos q]; exact ⟨b1, b2, b3, b4, zl_cop h1⟩
        · rw [if_neg q, if_neg q]; exact h7 j (show j < a.2.2.2.1.1 by omega)
  · rw [zoS_1 h1]; exact h
theorem zr_isListed {O N : zMem} {b : zAr} {p q : Nat} {post : Int32 → Prop} (hC : zCR O N b) (hL : zLsW b) (hp : p ≤ 9) (hq : q ≤ 9) (k1 : zhas b p q → post 1) (k0 : ¬ zhas b p q → post 0) : zw_X5_isListed O (nI p) (nI q) post := by
  obtain ⟨-, ⟨h5, h6⟩, -⟩ := hC
  have hk6 := hL.1
  have L : ∀ (d i : Nat), i + d = b.2.1.1 → (∀ j : Nat, j < i → ¬ (b.2.1.2.1 j = p ∧ b.2.1.2.2 j = q)) → zw_X5_isListed_2 O (nI p) (nI q) ((narrow .boolean (.int (1 : Int32)) = .int (1 : Int32) ∧ post (1 : Int32) )) ((narrow .boolean (.int (0 : Int32)) = .int (0 : Int32) ∧ post (0 : Int32) )) (d + 1) (nI i) := by
    intro d
    induction d with
    | zero =>
      intro i hi hno
      have e : i = b.2.1.1 := by omega
      subst e
      unfold zw_X5_isListed_2
      rw [h5]
      refine And.intro (fun _ => And.intro rfl (k0 (fun z => ?_))) (fun c => absurd (nI_le (Nat.le_refl _) (by omega)) c)
      obtain ⟨j, z1, z2⟩ := z
      exact hno j z1 z2
    | succ d ih =>
      intro i hi hno
      unfold zw_X5_isListed_2
      rw [h5]
      obtain ⟨b1, b2, b3, b4, -⟩ := hL.2 i (by omega)
      obtain ⟨e1, e2⟩ := h6 i (by omega)
      have iv : vp_in (nI i) 6 := vp_in_nI (by omega) (by decide)
      have nx : ¬ (b.2.1.2.1 i = p ∧ b.2.1.2.2 i = q) → ∀ x3_5 : Int32, x3_5 = nI i + (1 : Int32) → zw_X5_isListed_2 O (nI p) (nI q) ((narrow .boolean (.int (1 : Int32)) = .int (1 : Int32) ∧ post (1 : Int32) )) ((narrow .boolean (.int (0 : Int32)) = .int (0 : Int32) ∧ post (0 : Int32) )) (d + 1) x3_5 := fun hne z ez => by
        rw [ez, nI_1]
        refine ih (i + 1) (by omega) (fun j hj => ?_)
        by_cases w : j = i
        · rw [w]; exact hne
        · exact hno j (by omega)
      refine And.intro (fun c => absurd c (nI_ge (by omega) (by omega))) (fun _ => And.intro (fun c => absurd c (nI_ge (b := 6) (by omega) (by omega))) (fun _ => And.intro iv ?_))
      rw [nI_clamp (by omega), e1, e2]
      refine And.intro (fun c => nx (fun w => c (by rw [w.1]))) (fun c => And.intro iv (And.intro (fun c2 => nx (fun w => c2 (by rw [w.2]))) (fun c2 => And.intro rfl (k1 ⟨i, by omega, ?_, ?_⟩))))
      · exact (nI_eq (by omega) (by omega)).mp c
      · exact (nI_eq (by omega) (by omega)).mp c2
  exact ⟨_, L b.2.1.1 0 (by omega) (fun j hj => by omega)⟩
theorem zk_list {O P0 P1 N : zMem} {out : zRowL} {a : zAb} {x y : Int32} {post : Int32 → zMem → zRowL → Prop} (hW : zWA a) (hC : zCA O P0 P1 N a) (k : ∀ (O' : zMem) (out' : zRowL), ((zoS a x y).1 = 0 → out' 0 = Int32.toInt64 (zoS a x y).2.1) → zCA O' P0 P1 N (zoS a x y).2.2 → (∀ i : Nat, i ≠ 3 → i ≠ 4 → i ≠ 14 → O' i = O i) → post (zoS a x y).1 O' out') : zw_L_list O out x y post := by
  have hL := hW.2.2.2.1
  have hk6 : a.2.2.2.1.1 ≤ 6 := hL.1
  have hCR := hC.2.2
  obtain ⟨⟨h3, h4⟩, ⟨h5, h6⟩, h7, h8⟩ := hC.2.2
  have no : zIx x y → (a.2.2.2.1.1 = 6 ∨ zhas a.2.2 (zlu x y) (zll x y)) → ∀ r_3 : zRowL, r_3 = (vp_updL out (Int32.toNatClampNeg (0 : Int32)) (Int32.toInt64 (-1 : Int32))) → (post (0 : Int32) O r_3) := fun h1 h2 r er => by
    rw [zoS_6 h1 h2] at k
    refine k O r (fun _ => ?_) hC (fun _ _ _ _ => rfl)
    rw [er, show (0 : Int32).toNatClampNeg = 0 from rfl, pk_uLs]
  refine zr_needIndex (fun hi => ?_) (fun hi => ?_)
  · obtain ⟨e3, e4, n1, n2, m1, m2⟩ := zIx_t hi
    obtain ⟨b1, b2, b3, b4⟩ := zl_b hi
    have A1 := zr_low9 (a := zNt x) (b := zNt y) (post := fun v => v = nI (zlu x y)) n1 n2 m1 m2 rfl
    have step : zw_X3_lowest (nI (zNt x)) (nI (zNt y)) (fun (v_1 : Int32) => zw_X3_lowest (nI (zNt y)) (nI (zNt x)) (fun (v_2 : Int32) => (((6 : Int32) ≤ (O 14 0) → (fun (v_2 : Int32) (T_1 : zMem) => ∀ r_3 : zRowL, r_3 = (vp_updL out (Int32.toNatClampNeg (0 : Int32)) (Int32.toInt64 v_2)) → (post (0 : Int32) T_1 r_3)) (-1 : Int32) O) ∧ (¬ (6 : Int32) ≤ (O 14 0) → zw_X5_isListed O v_1 v_2 (fun (v_4 : Int32) => ((v_4 = 0 → (vp_in (O 14 0) 6 ∧ ∀ r_7 : zRow, r_7 = (upd (O 3) (Int32.toNatClampNeg (O 14 0)) v_1) → ((vp_in (O 14 0) 6 ∧ ∀ r_9 : zRow, r_9 = (upd (O 4) (Int32.toNatClampNeg (O 14 0)) v_2) → (∀ y_10 : Int32, y_10 = ((O 14 0) + (1 : Int32)) → ((fun (v_2 : Int32) (T_1 : zMem) => ∀ r_3 : zRowL, r_3 = (vp_updL out (Int32.toNatClampNeg (0 : Int32)) (Int32.toInt64 v_2)) → (post (0 : Int32) T_1 r_3)) y_10 (zset (zset (zset O 3 r_7) 4 r_9) 14 (fun _ => y_10)))))))) ∧ (¬ v_4 = 0 → (fun (v_2 : Int32) (T_1 : zMem) => ∀ r_3 : zRowL, r_3 = (vp_updL out (Int32.toNatClampNeg (0 : Int32)) (Int32.toInt64 v_2)) → (post (0 : Int32) T_1 r_3)) (-1 : Int32) O))))))) := by
      refine zr_low9 n1 n2 m1 m2 (zr_low9 m1 m2 n1 n2 ?_)
      rw [Nat.gcd_comm (zNt y) (zNt x), h5]
      refine And.intro (fun c => no hi (Or.inl ?_)) (fun c => ?_)
      · have := (nI_leI (a := 6) (by omega) (by omega)).mp c
        omega
      · have hk : ¬ a.2.2.2.1.1 = 6 := fun q => c (by rw [q]; decide)
        refine zr_isListed (p := zlu x y) (q := zll x y) hCR hL b2 b4 (fun hh => ?_) (fun hh => ?_)
        · exact And.intro (fun q => absurd q (by decide)) (fun _ => no hi (Or.inr hh))
        · refine And.intro (fun _ => ?_) (fun q => absurd rfl q)
          rw [nI_clamp (by omega)]
          refine And.intro (vp_in_nI (by omega) (by decide)) (fun r7 e7 => And.intro (vp_in_nI (by omega) (by decide)) (fun r9 e9 => ?_))
          intro z ez r er
          rw [nI_1] at ez
          have hno : ¬ (a.2.2.2.1.1 = 6 ∨ zhas a.2.2 (zlu x y) (zll x y)) := fun q => by
            rcases q with q | q
            · exact hk q
            · exact hh q
          rw [zoS_0 hi hno] at k
          refine k _ r (fun _ => ?_) ⟨hC.1, hC.2.1, ⟨h3, h4⟩, ⟨ez, fun j hj => ⟨?_, ?_⟩⟩, h7, h8⟩ (fun i a b d => ?_)
          · rw [er, show (0 : Int32).toNatClampNeg = 0 from rfl, pk_uLs, ez]
          · have hj : j < a.2.2.2.1.1 + 1 := hj
            show r7 j = nI (if j = a.2.2.2.1.1 then zlu x y else a.2.2.2.1.2.1 j)
            rw [e7]
            by_cases q : j = a.2.2.2.1.1
            · subst q; rw [pk_us, if_pos rfl]; rfl
            · rw [pk_un q, if_neg q]; exact (h6 j (show j < a.2.2.2.1.1 by omega)).1
          · have hj : j < a.2.2.2.1.1 + 1 := hj
            show r9 j = nI (if j = a.2.2.2.1.1 then zll x y else a.2.2.2.1.2.2 j)
            rw [e9]
            by_cases q : j = a.2.2.2.1.1
            · subst q; rw [pk_us, if_pos rfl]; rfl
            · rw [pk_un q, if_neg q]; exact (h6 j (show j < a.2.2.2.1.1 by omega)).2
          · rw [zs_out (zn_beq d), zs_out (zn_beq b), zs_out (zn_beq a)]
    rw [← e3, ← e4] at step
    exact step
  · rw [zoS_1 hi] at k
    exact k O out (fun q => absurd (show (1 : Int32) = 0 from q) (by decide)) hC (fun _ _ _ _ => rfl)
theorem zf_list {M : zMem} {a : zAb} {x y : Int32} {post : Int32 → zMem → Prop} (hW : zWA a) (h : zRA M a) (k : ∀ M' : zMem, M' 0 0 = (zoS a x y).1 → zRA M' (zoS a x y).2.2 → post (zoS a x y).2.1 M') : zw_X6_list M x y post := by
  have h1 : zRA (zset M 0 (fun _ => 0)) a := zRA_0 h
  have hL := hW.2.2.2.1
  have hk6 : a.2.2.2.1.1 ≤ 6 := hL.1
  have h1' := h1
  obtain ⟨s0, s1, ⟨⟨g1, g2⟩, ⟨g3, g4⟩, ⟨g5, g6⟩, w, g7⟩⟩ := h1
  refine zr_isIndex (fun hi => ?_) (fun hi => ?_)
  · refine zr_right1 rfl (by decide) (And.intro (fun _ => ?_) (fun q => absurd q (by decide)))
    obtain ⟨e3, e4, n1, n2, m1, m2⟩ := zIx_t hi
    obtain ⟨b1, b2, b3, b4⟩ := zl_b hi
    obtain ⟨d1, nz⟩ := zn_dv (b := zNt y) n1 n2
    have d2 := zn_dv' n1 n2 m2
    have dx : x / nI (Nat.gcd (zNt x) (zNt y)) = nI (zlu x y) := by
      conv => lhs; rw [e3]
      rw [zNt_n (by omega)]; exact d1
    have dy : y / nI (Nat.gcd (zNt x) (zNt y)) = nI (zll x y) := by
      conv => lhs; rw [e4]
      rw [zNt_n (by omega)]; exact d2
    have no : (a.2.2.2.1.1 = 6 ∨ zhas a.2.2 (zlu x y) (zll x y)) → post (-1) (zset M 0 (fun _ => 0)) := fun h2 => by
      rw [zoS_6 hi h2] at k
      exact k _ rfl h1'
    obtain ⟨c, hc⟩ : ∃ c, nI (Nat.gcd (zNt x) (zNt y)) = c := ⟨_, rfl⟩
    rw [hc] at dx dy nz
    have L : ∀ (B : Prop) (d i : Nat), i + d = a.2.2.2.1.1 → (∀ j : Nat, j < i → ¬ (a.2.2.2.1.2.1 j = zlu x y ∧ a.2.2.2.1.2.2 j = zll x y)) → (¬ zhas a.2.2 (zlu x y) (zll x y) → B) → zw_X6_list_29 (zset M 0 (fun _ => (0 : Int32))) x y c (post (-1 : Int32) (zset M 0 (fun _ => (0 : Int32)))) B (d + 1) (nI i) := by
      intro B d
      induction d with
      | zero =>
        intro i hi hno hB
        have e : i = a.2.2.2.1.1 := by omega
        subst e
        unfold zw_X6_list_29
        rw [g3]
        refine And.intro (fun _ => hB (fun z => ?_)) (fun c => absurd (nI_le (Nat.le_refl _) (by omega)) c)
        obtain ⟨j, z1, z2⟩ := z
        exact hno j z1 z2
      | succ d ih =>
        intro i hi hno hB
        unfold zw_X6_list_29
        rw [g3]
        have hil : i < a.2.2.2.1.1 := by omega
        obtain ⟨u1, u2, u3, u4, -⟩ := hL.2 i hil
        obtain ⟨f1, f2⟩ := g4 i hil
        have iv : vp_in (nI i) 6 := vp_in_nI (by omega) (by decide)
        have nx : ¬ (a.2.2.2.1.2.1 i = zlu x y ∧ a.2.2.2.1.2.2 i = zll x y) → ∀ x4 : Int32, x4 = nI i + (1 : Int32) → zw_X6_list_29 (zset M 0 (fun _ => (0 : Int32))) x y c (post (-1 : Int32) (zset M 0 (fun _ => (0 : Int32)))) B (d + 1) x4 := fun hne z ez => by
          rw [ez, nI_1]
          refine ih (i + 1) (by omega) (fun j hj => ?_) hB
          by_cases w : j = i
          · rw [w]; exact hne
          · exact hno j (by omega)
        refine And.intro (fun c => absurd c (nI_ge (by omega) (by omega))) (fun _ => And.intro iv (And.intro nz ?_))
        rw [nI_clamp (by omega), f1, f2, dx, dy]
        have u2' : a.2.2.2.1.2.1 i ≤ 9 := u2
        have u4' : a.2.2.2.1.2.2 i ≤ 9 := u4
        refine And.intro (fun c => nx (fun w => c (by rw [w.1]))) (fun c => And.intro iv (And.intro nz (And.intro (fun c2 => nx (fun w => c2 (by rw [w.2]))) (fun c2 => no (Or.inr ⟨i, hil, ?_, ?_⟩)))))
        · exact (nI_eq (by omega) (by omega)).mp c
        · exact (nI_eq (by omega) (by omega)).mp c2
    have S := zr_shared (a := zNt x) (b := zNt y) (post := (fun (v_5 : Int32) => (∃ kf, zw_X6_list_29 (zset M 0 (fun _ => (0 : Int32))) x y v_5 (post (-1 : Int32) (zset M 0 (fun _ => (0 : Int32)))) (((¬ ((zset M 0 (fun _ => (0 : Int32))) 11 0) = (6 : Int32) → (¬ v_5 = 0 ∧ (vp_in ((zset M 0 (fun _ => (0 : Int32))) 11 0) 6 ∧ ∀ r_18 : zRow, r_18 = (upd ((zset M 0 (fun _ => (0 : Int32))) 12) (Int32.toNatClampNeg ((zset M 0 (fun _ => (0 : Int32))) 11 0)) (x / v_5)) → ((¬ v_5 = 0 ∧ (vp_in ((zset M 0 (fun _ => (0 : Int32))) 11 0) 6 ∧ ∀ r_21 : zRow, r_21 = (upd ((zset M 0 (fun _ => (0 : Int32))) 13) (Int32.toNatClampNeg ((zset M 0 (fun _ => (0 : Int32))) 11 0)) (y / v_5)) → (∀ y_22 : Int32, y_22 = (((zset M 0 (fun _ => (0 : Int32))) 11 0) + (1 : Int32)) → (post y_22 (zset (zset (zset (zset M 0 (fun _ => (0 : Int32))) 11 (fun _ => y_22)) 12 r_18) 13 r_21))))))))) ∧ (((zset M 0 (fun _ => (0 : Int32))) 11 0) = (6 : Int32) → post (-1 : Int32) (zset M 0 (fun _ => (0 : Int32)))))) kf (0 : Int32)))) (by omega) (by omega) ?_
    · rw [← e3, ← e4] at S; exact S
    · rw [hc]
      refine ⟨_, L _ a.2.2.2.1.1 0 (by omega) (fun j hj => by omega) (fun hh => ?_)⟩
      rw [g3]
      refine And.intro (fun q => And.intro nz (And.intro (vp_in_nI ?_ (by decide)) (fun r1 f1 => And.intro nz (And.intro (vp_in_nI ?_ (by decide)) (fun r2 f2 => ?_))))) (fun q => no (Or.inl ?_))
      · have hk : ¬ a.2.2.2.1.1 = 6 := fun z => q (by rw [z]; rfl)
        show a.2.2.2.1.1 < 6
        omega
      · have hk : ¬ a.2.2.2.1.1 = 6 := fun z => q (by rw [z]; rfl)
        show a.2.2.2.1.1 < 6
        omega
      · have hk : ¬ a.2.2.2.1.1 = 6 := fun z => q (by rw [z]; rfl)
        intro z ez
        rw [nI_1] at ez
        rw [nI_clamp (show a.2.2.2.1.1 < 2 ^ 31 by omega), dx] at f1
        rw [nI_clamp (show a.2.2.2.1.1 < 2 ^ 31 by omega), dy] at f2
        have hno : ¬ (a.2.2.2.1.1 = 6 ∨ zhas a.2.2 (zlu x y) (zll x y)) := fun q => by
          rcases q with q | q
          · exact hk q
          · exact hh q
        rw [zoS_0 hi hno] at k
        have ez' : z = nI (a.2.2.2.1.1 + 1) := ez
        rw [ez']
        refine k _ rfl ⟨s0, s1, ⟨⟨g1, g2⟩, ⟨rfl, fun j hj => ⟨?_, ?_⟩⟩, ⟨g5, g6⟩, w, g7⟩⟩
        · have hj : j < a.2.2.2.1.1 + 1 := hj
          show r1 j = nI (if j = a.2.2.2.1.1 then zlu x y else a.2.2.2.1.2.1 j)
          rw [f1]
          by_cases q : j = a.2.2.2.1.1
          · subst q; rw [pk_us, if_pos rfl]
          · rw [pk_un q, if_neg q]; exact (g4 j (show j < a.2.2.2.1.1 by omega)).1
        · have hj : j < a.2.2.2.1.1 + 1 := hj
          show r2 j = nI (if j = a.2.2.2.1.1 then zll x y else a.2.2.2.1.2.2 j)
          rw [f2]
          by_cases q : j = a.2.2.2.1.1
          · subst q; rw [pk_us, if_pos rfl]
          · rw [pk_un q, if_neg q]; exact (g4 j (show j < a.2.2.2.1.1 by omega)).2
      · have := congrArg Int32.toInt q
        rw [nI_toInt (show a.2.2.2.1.1 < 2 ^ 31 by omega), zc_6] at this
        omega
  · rw [zoS_1 hi] at k
    exact zr_right0 rfl (by decide) (And.intro (fun q => absurd rfl q) (fun _ => k _ rfl (zRA_0 h1')))
def zoU (a : zAb) : zAb := (a.1, a.2.1, a.2.2.1, (0, a.2.2.2.1.2), a.2.2.2.2)
theorem zoU_W {a : zAb} (h : zWA a) : zWA (zoU a) := ⟨h.1, h.2.1, h.2.2.1, ⟨Nat.zero_le _, fun j hj => absurd hj (Nat.not_lt_zero j)⟩, h.2.2.2.2⟩
theorem zk_unlist {O P0 P1 N : zMem} {a : zAb} {post : zMem → Prop} (hC : zCA O P0 P1 N a) (k : ∀ O' : zMem, zCA O' P0 P1 N (zoU a) → (∀ i : Nat, i ≠ 14 → O' i = O i) → post O') : zw_X5_unlist O post :=
  k _ ⟨hC.1, hC.2.1, hC.2.2.1, ⟨rfl, fun j hj => absurd hj (Nat.not_lt_zero j)⟩, hC.2.2.2.2⟩ (fun i hi => zs_out (zn_beq hi))
theorem zf_unlist {M : zMem} {a : zAb} {post : zMem → Prop} (h : zRA M a) (k : ∀ M' : zMem, M' 0 0 = 0 → zRA M' (zoU a) → post M') : zw_X6_unlist M post := by
  obtain ⟨s0, s1, ⟨⟨g1, g2⟩, ⟨g3, g4⟩, ⟨g5, g6⟩, w, g7⟩⟩ := h
  exact k _ rfl ⟨s0, s1, ⟨⟨g1, g2⟩, ⟨rfl, fun j hj => absurd hj (Nat.not_lt_zero j)⟩, ⟨g5, g6⟩, w, g7⟩⟩
