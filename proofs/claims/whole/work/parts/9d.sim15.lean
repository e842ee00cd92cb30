/-! choose: the reference -/
theorem zup_up {a : zAb} {s : Nat} {x y : zStk} : zup (zup a s x) s y = zup a s y := by
  by_cases q : s = 0
  · subst q; rfl
  · simp only [zup, if_neg q]
theorem zup_r {a : zAb} {s : Nat} {x : zStk} : (zup a s x).2.2 = a.2.2 := by
  by_cases q : s = 0
  · subst q; rfl
  · simp only [zup, if_neg q]
theorem zgt_up {a : zAb} {s : Nat} {x : zStk} : zgt (zup a s x) s = x := by
  by_cases q : s = 0
  · subst q; rfl
  · simp only [zgt, zup, if_neg q]
theorem zup_gt {a : zAb} {s : Nat} : zup a s (zgt a s) = a := by
  by_cases q : s = 0
  · subst q; rfl
  · simp only [zgt, zup, if_neg q]
theorem zG_self {M0 M : zMem} {w : Nat → Int} (h : zG M0 M w) : zG M M w := ⟨fun _ _ _ _ => rfl, h.2⟩
theorem zG_rows {M T : zMem} {w : Nat → Int} (k : ∀ i : Nat, 9 ≤ i → T i = M i) (h : zG M M w) : zG T T w := ⟨fun _ _ _ _ => rfl, fun c hc => by
  have := h.2 c hc
  unfold zN at *
  rw [k 19 (by decide), k 20 (by decide), k 21 (by decide)]; exact this⟩
theorem zbc_le {s : zStk} {b : zAr} {n : Nat} : ∀ i : Nat, zbc s b n i ≤ i := by
  intro i
  induction i with
  | zero => exact Nat.le_refl _
  | succ i ih =>
    by_cases q : zcm (zcs s b n (i + 1)) b.1.1.toInt b.1.2 (zcs s b n (zbc s b n i)) b.1.1.toInt b.1.2 < 0
    · rw [zbc_go q]; omega
    · rw [zbc_st q]; omega
theorem zf_lay {M : zMem} {a : zAb} {s n m : Nat} {post : zMem → Prop} (hW : zWA a) (hR : zRA M a) (hs : s < 2) (hn : n ≤ 3) (hL : 1 ≤ a.2.2.2.1.1) (hm : m < 1000) (k : ∀ T : zMem, T 0 = M 0 → (∀ i : Nat, 9 ≤ i → T i = M i) → zRA T (zup a s (zcs (zgt a s) a.2.2 n m)) → post T) : zw_X6_lay M (nI s) (nI n) (nI m) post := by
  obtain ⟨g1, g2, g3, g4, g5, g6⟩ := zRA_s hs hR
  obtain ⟨m11, ml⟩ := hR.2.2.2.1
  have h6 : a.2.2.2.1.1 ≤ 6 := hW.2.2.2.1.1
  have cs : (nI s).toNatClampNeg = s := nI_clamp (by omega)
  refine And.intro (vp_in_nI hs (by decide)) ?_
  intro r er y ey
  rw [cs] at er
  have lp : ∀ (c q : Nat) (p : Int32) (M1 : zMem), c ≤ n → p.toInt = (c : Int) - 1 → q = m / a.2.2.2.1.1 ^ (n - c) → (∀ i : Nat, i ≠ 6 → i ≠ 7 → i ≠ 8 → M1 i = zset M 5 r i) → (∀ j : Nat, c ≤ j → j < n → M1 6 (6 * s + j) = nI (a.2.2.2.1.2.1 (zdg a.2.2.2.1.1 n m j)) ∧ M1 7 (6 * s + j) = nI (a.2.2.2.1.2.2 (zdg a.2.2.2.1.1 n m j)) ∧ M1 8 (6 * s + j) = nI 1) → (∀ i : Nat, 6 ≤ i → i ≤ 8 → ∀ j : Nat, ¬ (6 * s ≤ j ∧ j < 6 * s + 6) → M1 i j = M i j) → zw_X6_lay_15 (nI s) (fun T => post T) (c + 1) (nI q) p M1 := by
    intro c
    induction c with
    | zero =>
      intro q p M1 hc hp hq hk hv ho
      refine And.intro (fun _ => ?_) (fun z => absurd (zn_lt.mpr (by rw [hp, zn_0]; omega)) z)
      have e5 : M1 5 = r := by rw [hk 5 (by decide) (by decide) (by decide)]; exact zs_in
      refine k M1 (by rw [hk 0 (by decide) (by decide) (by decide)]; rfl) (fun i hi => by rw [hk i (by omega) (by omega) (by omega)]; exact zs_out (zn_beq (by omega))) (zRA_up hs hW hR ⟨?_, fun i hi => hv i (Nat.zero_le _) hi, ?_, ?_, ?_, ?_⟩ (fun i h1 h2 o ho' => ?_) ho (fun i h1 h2 => ?_))
      · show M1 5 s = nI n
        rw [e5, er, pk_us]
      · rw [hk 1 (by decide) (by decide) (by decide)]; exact g3
      · rw [hk 2 (by decide) (by decide) (by decide)]; exact g4
      · rw [hk 3 (by decide) (by decide) (by decide)]; exact g5
      · rw [hk 4 (by decide) (by decide) (by decide)]; exact g6
      · by_cases e : i = 5
        · subst e; rw [e5, er, pk_un ho']
        · rw [hk i (by omega) (by omega) (by omega)]
          exact congrFun (zs_out (zn_beq e)) o
      · rw [hk i (by omega) (by omega) (by omega)]; exact zs_out (zn_beq (by omega))
    | succ c ih =>
      intro q p M1 hc hp hq hk hv ho
      have ep : p = nI c := zn_ofI (by omega)
      have hq9 : q < 1000 := by rw [hq]; exact Nat.lt_of_le_of_lt (Nat.div_le_self _ _) hm
      have hl : q % a.2.2.2.1.1 < a.2.2.2.1.1 := Nat.mod_lt _ hL
      have edg : q % a.2.2.2.1.1 = zdg a.2.2.2.1.1 n m c := by
        rw [hq]; unfold zdg
        rw [show n - (c + 1) = n - 1 - c from by omega]
      have e11 : M1 11 0 = nI a.2.2.2.1.1 := by rw [hk 11 (by decide) (by decide) (by decide)]; exact m11
      obtain ⟨ml1, ml2⟩ := ml _ hl
      have e12 : M1 12 (q % a.2.2.2.1.1) = nI (a.2.2.2.1.2.1 (q % a.2.2.2.1.1)) := by rw [hk 12 (by decide) (by decide) (by decide)]; exact ml1
      have e13 : M1 13 (q % a.2.2.2.1.1) = nI (a.2.2.2.1.2.2 (q % a.2.2.2.1.1)) := by rw [hk 13 (by decide) (by decide) (by decide)]; exact ml2
      have nz : ¬ nI a.2.2.2.1.1 = 0 := nI_ne0 (by omega) (by omega)
      have v6 : vp_in (nI (q % a.2.2.2.1.1)) 6 := vp_in_nI (by omega) (by decide)
      have v12 : vp_in (nI (6 * s + c)) 12 := vp_in_nI (by omega) (by decide)
      unfold zw_X6_lay_15
      rw [ep, zn_ix6, e11, pk_rem (by omega) hL (by omega), nI_clamp (n := 6 * s + c) (by omega), nI_clamp (n := q % a.2.2.2.1.1) (by omega), e12, e13]
      refine And.intro (fun z => absurd (zn_lt.mp z) (by rw [zn_0, nI_toInt (by omega)]; omega)) (fun _ => ?_)
      refine And.intro nz (And.intro v6 (And.intro v12 (fun r1 e1 => And.intro nz (And.intro v6 (And.intro v12 (fun r2 e2 => And.intro v12 (fun r3 e3 => And.intro nz (fun x4 e4 x5 f5 => ?_))))))))
      rw [e4, pk_div (by omega) (by omega) (by omega)]
      refine ih _ x5 _ (by omega) ?_ ?_ (fun i n6 n7 n8 => ?_) (fun j h1 h2 => ?_) (fun i h1 h2 j hj => ?_)
      · rw [f5, zn_add (nI_toInt (by omega)) zn_m1 (by omega) (by omega)]; omega
      · rw [hq, Nat.div_div_eq_div_mul, ← Nat.pow_succ, show (n - (c + 1)).succ = n - c from by omega]
      · rw [zs_out (zn_beq n8), zs_out (zn_beq n7), zs_out (zn_beq n6)]; exact hk i n6 n7 n8
      · show r1 _ = _ ∧ r2 _ = _ ∧ r3 _ = _
        rw [e1, e2, e3]
        by_cases e : j = c
        · subst e
          rw [pk_us, pk_us, pk_us, edg]; exact ⟨rfl, rfl, rfl⟩
        · rw [pk_un (by omega), pk_un (by omega), pk_un (by omega)]; exact hv j (by omega) h2
      · have hz : ∀ (f : zRow) (v : Int32), upd f (6 * s + c) v j = f j := fun f v => pk_un (by omega)
        by_cases z8 : i = 8
        · subst z8; rw [zs_in, e3, hz]; exact ho 8 h1 h2 j hj
        · rw [zs_out (zn_beq z8)]
          by_cases z7 : i = 7
          · subst z7; rw [zs_in, e2, hz]; exact ho 7 h1 h2 j hj
          · have z6 : i = 6 := by omega
            subst z6
            rw [zs_out (zn_beq z7), zs_in, e1, hz]; exact ho 6 h1 h2 j hj
  refine ⟨n + 1, lp n m y (zset M 5 r) (Nat.le_refl _) ?_ ?_ (fun i _ _ _ => rfl) (fun j h1 h2 => absurd h1 (by omega)) (fun i h1 h2 j _ => ?_)⟩
  · rw [ey, zn_sub (nI_toInt (by omega)) zn_1 (by omega) (by omega)]
  · rw [Nat.sub_self, Nat.pow_zero, Nat.div_one]
  · exact congrFun (zs_out (zn_beq (by omega))) j
theorem zf_layU {M : zMem} {a : zAb} {st : Int32} {x : zStk} {n m : Nat} {post : zMem → Prop} (hW : zWA a) (hst : zSt st) (hx : zWs x) (hxe : x.2.2.2.2 = (zgt a (zNt st)).2.2.2.2) (hR : zRA M (zup a (zNt st) x)) (hn : n ≤ 3) (hL : 1 ≤ a.2.2.2.1.1) (hm : m < 1000) (k : ∀ T : zMem, T 0 = M 0 → (∀ i : Nat, 9 ≤ i → T i = M i) → zRA T (zup a (zNt st) (zcs (zgt a (zNt st)) a.2.2 n m)) → post T) : zw_X6_lay M st (nI n) (nI m) post := by
  obtain ⟨e1, hs⟩ := zSt_n hst
  have A := zf_lay (post := post) (n := n) (m := m) (zWA_up hW hx) hR hs hn (by rw [zup_r]; exact hL) hm (fun T t0 tk hT => k T t0 tk (by
    rw [zup_up, zup_r, zgt_up] at hT
    have e : zcs x a.2.2 n m = zcs (zgt a (zNt st)) a.2.2 n m := by unfold zcs; rw [hxe]
    rw [e] at hT; exact hT))
  rwa [← e1] at A
theorem zf_try {M : zMem} {a : zAb} {st : Int32} {x : zStk} {n m : Nat} {w : Nat → Int} {post : zMem → Prop} (hW : zWA a) (hst : zSt st) (hx : zWs x) (hxe : x.2.2.2.2 = (zgt a (zNt st)).2.2.2.2) (hR : zRA M (zup a (zNt st) x)) (hG : zG M M w) (hn : n ≤ 3) (hL : 1 ≤ a.2.2.2.1.1) (hm : m < 1000) (k : ∀ (T0 T : zMem) (w' : Nat → Int), T0 0 = M 0 → zRA T0 (zup a (zNt st) (zcs (zgt a (zNt st)) a.2.2 n m)) → zG T0 T w' → w' 14 = zBk (-1) (zcs (zgt a (zNt st)) a.2.2 n m) a.2.2.1.1.toInt a.2.2.1.2 → w' 15 = zBk 1 (zcs (zgt a (zNt st)) a.2.2 n m) a.2.2.1.1.toInt a.2.2.1.2 → zkp w w' → post T) : zw_X6_lay M st (nI n) (nI m) (fun (T_13 : zMem) => zw_X6_backOf T_13 st (T_13 9 0) (T_13 10 0) (fun (T_14 : zMem) => post T_14)) := by
  refine zf_layU hW hst hx hxe hR hn hL hm (fun T t0 tk hT => ?_)
  have G0 := zG_rows tk hG
  obtain ⟨m9, m10⟩ := zl_light hT G0
  rw [zup_r] at m9 m10
  rw [m9, m10]
  obtain ⟨l1, l2, l3⟩ := hW.2.2.1
  have l2' : a.2.2.1.2 ≤ 49 := by have l2 : a.2.2.1.2 ≤ 25 := l2; omega
  have wn := zcs_W (m := m) (zWA_s (s := zNt st) hW) hW.2.2.2.1 hn (fun _ => hL)
  refine zf_bo (zWA_up hW wn) hT G0 hst rfl (nI_toInt (by omega)) l3 l2' l1 (fun T1 w' G' e14 e15 kp => ?_)
  rw [zgt_up] at e14 e15
  exact k T T1 w' t0 hT G' e14 e15 kp
theorem zf_ch71 {a : zAb} {st : Int32} {n : Nat} {K : Int32 → zMem → Prop} (hW : zWA a) (hst : zSt st) (hn : n ≤ 3) (hL : 1 ≤ a.2.2.2.1.1) (hK : ∀ (M : zMem) (i : Nat), M 0 0 = 0 → zRA M (zup a (zNt st) (zcs (zgt a (zNt st)) a.2.2 n i)) → K (nI (zbc (zgt a (zNt st)) a.2.2 n (a.2.2.2.1.1 ^ n - 1))) M) : ∀ (d i : Nat) (M : zMem) (w : Nat → Int), i + 1 + d = a.2.2.2.1.1 ^ n → M 0 0 = 0 → zRA M (zup a (zNt st) (zcs (zgt a (zNt st)) a.2.2 n i)) → zG M M w → w 16 = zBk (-1) (zcs (zgt a (zNt st)) a.2.2 n (zbc (zgt a (zNt st)) a.2.2 n i)) a.2.2.1.1.toInt a.2.2.1.2 → w 17 = zBk 1 (zcs (zgt a (zNt st)) a.2.2 n (zbc (zgt a (zNt st)) a.2.2 n i)) a.2.2.1.1.toInt a.2.2.1.2 → zw_X6_choose_71 st (nI n) (nI (a.2.2.2.1.1 ^ n)) K (d + 1) (nI (zbc (zgt a (zNt st)) a.2.2 n i)) (nI (i + 1)) M := by
  have hw := zn_w (show a.2.2.2.1.1 ≤ 6 from hW.2.2.2.1.1) hn
  obtain ⟨l1, l2, l3⟩ := hW.2.2.1
  have l2' : a.2.2.1.2 ≤ 49 := by have l2 : a.2.2.1.2 ≤ 25 := l2; omega
  have wn : ∀ m : Nat, zWs (zcs (zgt a (zNt st)) a.2.2 n m) := fun m => zcs_W (zWA_s (s := zNt st) hW) hW.2.2.2.1 hn (fun _ => hL)
  have hb2 : ∀ (g : Int) (m : Nat), g.natAbs ≤ 1 → (zBk g (zcs (zgt a (zNt st)) a.2.2 n m) a.2.2.1.1.toInt a.2.2.1.2).natAbs < 2 ^ 450 := fun g m hg => zBk_l (wn m) l3 l2' l1 hg
  intro d
  induction d with
  | zero =>
    intro i M w hi h00 hR hG h16 h17
    refine And.intro (fun _ => ?_) (fun q => absurd (nI_le (by omega) (by omega)) q)
    have := hK M i h00 hR
    rw [show a.2.2.2.1.1 ^ n - 1 = i from by omega] at this
    exact this
  | succ d ih =>
    intro i M w hi h00 hR hG h16 h17
    refine And.intro (fun q => absurd q (nI_ge (by omega) (by omega))) (fun _ => ?_)
    refine zf_try hW hst (wn i) rfl hR hG hn hL (by omega) (fun T0 T w' t0 hT0 G' e14 e15 kp => ?_)
    have e16 := (kp 16 (by decide)).trans h16
    have e17 := (kp 17 (by decide)).trans h17
    obtain ⟨z1, z2, z3, z4⟩ := zsg_c (zcm (zcs (zgt a (zNt st)) a.2.2 n (i + 1)) a.2.2.1.1.toInt a.2.2.1.2 (zcs (zgt a (zNt st)) a.2.2 n (zbc (zgt a (zNt st)) a.2.2 n i)) a.2.2.1.1.toInt a.2.2.1.2)
    refine And.intro (fun q => absurd (zn_le.mp q) (by rw [zn_0, nI_toInt (by omega)]; omega)) (fun _ => ?_)
    refine zg_against 16 17 G' (by decide) (by decide) (by rw [e14]; exact hb2 _ _ (by decide)) (by rw [e15]; exact hb2 _ _ (by decide)) (by rw [e16]; exact hb2 _ _ (by decide)) (by rw [e17]; exact hb2 _ _ (by decide)) (fun T2 w2 G2 k2 => ?_)
    rw [e14, e15, e16, e17]
    have t00 : T0 0 0 = 0 := by rw [t0]; exact h00
    refine And.intro (fun c => ?_) (fun c y ey => ?_)
    · have e := zbc_go (s := zgt a (zNt st)) (b := a.2.2) (n := n) (i := i) (z4.mp c)
      refine zg_copy 16 14 G2 (by decide) (by decide) (fun T3 G3 => ?_)
      refine zg_copy 17 15 G3 (by decide) (by decide) (fun T4 G4 y ey => ?_)
      rw [ey, nI_1]
      have A := ih (i + 1) T4 _ (by omega) (by rw [G4.1 0 (by decide) (by decide) (by decide)]; exact t00) (zRA_G hT0 G4) (zG_self G4) (by rw [e]; exact (k2 14 (by decide)).trans e14) (by rw [e]; exact (k2 15 (by decide)).trans e15)
      rw [e] at A
      exact A
    · have e := zbc_st (s := zgt a (zNt st)) (b := a.2.2) (n := n) (i := i) (fun q => c (z4.mpr q))
      rw [ey, nI_1]
      have A := ih (i + 1) T2 w2 (by omega) (by rw [G2.1 0 (by decide) (by decide) (by decide)]; exact t00) (zRA_G hT0 G2) (zG_self G2) (by rw [e]; exact (k2 16 (by decide)).trans e16) (by rw [e]; exact (k2 17 (by decide)).trans e17)
      rw [e] at A
      exact A
theorem zf_choose {M : zMem} {a : zAb} {st x : Int32} {post : Int32 → zMem → Prop} (hW : zWA a) (h : zRA M a) (k : ∀ M' : zMem, M' 0 0 = (zoCh a st x).1 → zRA M' (zoCh a st x).2.2 → post (zoCh a st x).2.1 M') : zw_X6_choose M st x post := by
  refine zr_isStack (fun hst => ?_) (fun c1 c2 => ?_)
  · have h1 : zRA (zset M 0 (fun _ => 0)) a := zRA_0 h
    have hst : zSt st := hst
    refine And.intro (fun q => absurd q (by decide)) (fun _ => ?_)
    have bad : ¬ zokN x → post 0 (zset (zset M 0 (fun _ => 0)) 0 (fun _ => 2)) := fun q => by
      rw [zoCh_2 hst q] at k
      exact k _ rfl (zRA_0 h1)
    refine And.intro (fun d => zr_right0 rfl (by decide) (And.intro (fun q => absurd rfl q) (fun _ => bad (fun q => by have := zi_lt zn_0 d; have := q.1; omega)))) (fun d1 => ?_)
    by_cases hlt : (3 : Int32) < x
    · refine ⟨fun v => v = 0, ?_, And.intro (fun _ => rfl) (fun q => absurd hlt q)⟩
      rintro v rfl
      exact zr_right0 rfl (by decide) (And.intro (fun q => absurd rfl q) (fun _ => bad (fun q => by have := zi_gt zc_3 hlt; have := q.2; omega)))
    · refine ⟨fun v => v = 1, ?_, And.intro (fun q => absurd q hlt) (fun _ => rfl)⟩
      rintro v rfl
      have hok : zokN x := ⟨zi_nlt zn_0 d1, zi_ngt zc_3 hlt⟩
      obtain ⟨ex, hn⟩ := zt_n (n := 3) hok.1 hok.2
      obtain ⟨e1, hs⟩ := zSt_n hst
      have cs : st.toNatClampNeg = zNt st := by rw [e1, nI_clamp (by omega), zNt_n (by omega)]
      have sv : vp_in st 2 := by rw [e1]; exact vp_in_nI hs (by decide)
      have m11 : (zset M 0 (fun _ => (0 : Int32))) 11 0 = nI a.2.2.2.1.1 := h1.2.2.2.1.1
      have h6 : a.2.2.2.1.1 ≤ 6 := hW.2.2.2.1.1
      have hw := zn_w h6 hn
      refine zr_right1 rfl (by decide) (And.intro (fun _ => And.intro (fun hx => ?_) (fun hx => And.intro sv (fun r er => ?_))) (fun q => absurd q (by decide)))
      · have hx1 : 1 ≤ zNt x := by
          rcases Nat.eq_zero_or_pos (zNt x) with z | z
          · exact absurd (by rw [ex, z]; rfl) hx
          · exact z
        rw [m11]
        refine And.intro (fun hl => ?_) (fun hl => ?_)
        · have hL : 1 ≤ a.2.2.2.1.1 := by
            rcases Nat.eq_zero_or_pos a.2.2.2.1.1 with z | z
            · exact absurd (by rw [z]; rfl) hl
            · exact z
          rw [zoCh_0 hst hok (by omega)] at k
          have w1 : 1 ≤ a.2.2.2.1.1 ^ zNt x := Nat.pow_pos hL
          have P := zr_power (b := (a.2.2.2.1.1 : Int)) (k := zNt x) (a1 := Int32.toInt64 (nI a.2.2.2.1.1)) (post := (fun (v_39 : Int64) => ∀ x3_40 : Int32, x3_40 = (Int64.toInt32 v_39) → ((∃ kf, zw_X6_choose_71 st (nI (zNt x)) x3_40 (fun (x4_41 : Int32) (T_42 : zMem) => zw_X6_lay T_42 st (nI (zNt x)) x4_41 (fun (T_43 : zMem) => post x3_40 T_43)) kf (0 : Int32) (0 : Int32) (zset M 0 (fun _ => (0 : Int32))))))) (by omega) (by omega) (zn_wide (nI_toInt (by omega))) (fun z hz y ey => ?_)
          · rw [← ex] at P; exact P
          · have hc : ((a.2.2.2.1.1 ^ zNt x : Nat) : Int) = (a.2.2.2.1.1 : Int) ^ zNt x := Int.natCast_pow _ _
            have e3 : y = nI (a.2.2.2.1.1 ^ zNt x) := zn_ofI (by rw [ey, zn_nar (hz.trans hc.symm) (by omega) (by omega)])
            rw [e3]
            obtain ⟨w, hG⟩ := zRA_g h1
            refine ⟨a.2.2.2.1.1 ^ zNt x - 1 + 1 + 1, ?_⟩
            refine And.intro (fun q => absurd (zn_le.mp q) (by rw [zn_0, nI_toInt (by omega)]; omega)) (fun _ => ?_)
            refine zf_try (m := 0) (x := zgt a (zNt st)) hW hst (zWA_s hW) rfl (by rw [zup_gt]; exact h1) hG hn hL (by decide) (fun T0 T w' t0 hT0 G' e14 e15 kp => ?_)
            have t00 : T0 0 0 = 0 := by rw [t0]; rfl
            refine And.intro (fun _ => ?_) (fun q => absurd (zn_le.mpr (Int.le_refl _)) q)
            refine zg_copy 16 14 G' (by decide) (by decide) (fun T3 G3 => ?_)
            refine zg_copy 17 15 G3 (by decide) (by decide) (fun T4 G4 y ey => ?_)
            rw [ey]
            refine zf_ch71 (n := zNt x) (K := (fun (x4_41 : Int32) (T_42 : zMem) => zw_X6_lay T_42 st (nI (zNt x)) x4_41 (fun (T_43 : zMem) => post (nI (a.2.2.2.1.1 ^ zNt x)) T_43))) hW hst hn hL (fun M5 i5 h05 h5 => ?_) (a.2.2.2.1.1 ^ zNt x - 1) 0 T4 _ (by omega) (by rw [G4.1 0 (by decide) (by decide) (by decide)]; exact t00) (zRA_G hT0 G4) (zG_self G4) e14 e15
            have hbl := zbc_le (s := zgt a (zNt st)) (b := a.2.2) (n := zNt x) (a.2.2.2.1.1 ^ zNt x - 1)
            exact zf_layU hW hst (zcs_W (zWA_s hW) hW.2.2.2.1 hn (fun _ => hL)) rfl h5 hn hL (by omega) (fun T5 t5 _ hT5 => k T5 (by rw [t5]; exact h05) hT5)
        · have e' : a.2.2.2.1.1 = 0 := by
            have := congrArg Int32.toInt hl
            rw [nI_toInt (by omega), zn_0] at this
            omega
          rw [zoCh_n hst hok ⟨hx1, e'⟩] at k
          exact k _ rfl h1
      · have hx0 : zNt x = 0 := by rw [hx]; exact zNt_0
        rw [zoCh_0 hst hok (by omega), hx0] at k
        rw [cs] at er
        obtain ⟨g1, g2, g3, g4, g5, g6⟩ := zRA_s hs h1
        refine k _ rfl (zRA_up hs hW h1 ⟨?_, fun i hi => absurd (show i < 0 from hi) (by omega), g3, g4, g5, g6⟩ (fun i h1 h2 o ho => ?_) (fun i h1 h2 j _ => ?_) (fun i h1 h2 => ?_))
        · show r (zNt st) = nI 0
          rw [er, pk_us]; rfl
        · by_cases e : i = 5
          · subst e; rw [zs_in, er, pk_un ho]
          · exact congrFun (zs_out (zn_beq e)) o
        · exact congrFun (zs_out (zn_beq (by omega))) j
        · exact zs_out (zn_beq (by omega))
  · rw [zoCh_1 (zSt_no c1 c2)] at k
    exact And.intro (fun _ => k _ rfl (zRA_0 (zRA_0 h))) (fun q => absurd rfl q)
