/-! what is reckoned of a stack: back, on, entry, sign, stops, less -/
def zTS (s : zStk) (u : Int) (v : Nat) : Int × Int × Int × Int × Int := zTb u v s.2.1 s.2.2.1 s.2.2.2.1 s.1
def zBk (g : Int) (s : zStk) (u : Int) (v : Nat) : Int := zPQ g u v s.2.2.2.2.1 s.2.2.2.2.2.1 s.2.2.2.2.2.2.1 s.2.2.2.2.2.2.2 (zTS s u v)
theorem zBk_l {g : Int} {s : zStk} {u : Int} {v : Nat} (hs : zWs s) (hu : u.natAbs ≤ v) (hv : v ≤ 49) (hv1 : 1 ≤ v) (hg : g.natAbs ≤ 1) : (zBk g s u v).natAbs < 2 ^ 450 := by
  obtain ⟨b0, b1, b2, b3, b4, b5⟩ := zTB_6 hu hv hv1 hs.1
  obtain ⟨⟨e1, e2⟩, ⟨e3, e4⟩, ⟨e5, e6⟩, ⟨e7, e8⟩⟩ := hs.2
  have m2 : ∀ {p q : Nat}, p ≤ 9 → q ≤ 9 → ((p : Int) * q).natAbs ≤ 81 := fun {p q} hp hq => by
    have h := zn_mab (a := (p : Int)) (b := (q : Int)) (A := 9) (B := 9) (by omega) (by omega)
    omega
  have m3 : ∀ {p q : Nat}, p ≤ 9 → q ≤ 9 → (g * p * q).natAbs ≤ 81 := fun {p q} hp hq => by
    have h1 := zn_mab (a := g) (b := (p : Int)) (A := 1) (B := 9) hg (by omega)
    have h2 := zn_mab (a := g * p) (b := (q : Int)) (A := 9) (B := 9) (by omega) (by omega)
    omega
  have L1 := zn_line b0 b3 (m2 e2 e8) (m3 e6 e4)
  have L2 := zn_line b1 b2 (m2 e2 e6) (m3 e4 e8)
  have hz := (zn_z hu).2
  have hv2 : v * v ≤ 49 * 49 := Nat.mul_le_mul hv hv
  have q1 := zn_mab L1 L1
  have q2 := zn_mab (zn_mab L2 L2) (show ((v : Int) * v - u * u).natAbs ≤ 2401 by omega)
  unfold zBk zPQ zTS
  have q3 := Int.natAbs_add_le (((zTb u v s.2.1 s.2.2.1 s.2.2.2.1 s.1).1 * (s.2.2.2.2.1 * s.2.2.2.2.2.2.2) + (zTb u v s.2.1 s.2.2.1 s.2.2.2.1 s.1).2.2.2.1 * (g * s.2.2.2.2.2.2.1 * s.2.2.2.2.2.1)) * ((zTb u v s.2.1 s.2.2.1 s.2.2.2.1 s.1).1 * (s.2.2.2.2.1 * s.2.2.2.2.2.2.2) + (zTb u v s.2.1 s.2.2.1 s.2.2.2.1 s.1).2.2.2.1 * (g * s.2.2.2.2.2.2.1 * s.2.2.2.2.2.1))) (((zTb u v s.2.1 s.2.2.1 s.2.2.2.1 s.1).2.1 * (s.2.2.2.2.1 * s.2.2.2.2.2.2.1) + (zTb u v s.2.1 s.2.2.1 s.2.2.2.1 s.1).2.2.1 * (g * s.2.2.2.2.2.1 * s.2.2.2.2.2.2.2)) * ((zTb u v s.2.1 s.2.2.1 s.2.2.2.1 s.1).2.1 * (s.2.2.2.2.1 * s.2.2.2.2.2.2.1) + (zTb u v s.2.1 s.2.2.1 s.2.2.2.1 s.1).2.2.1 * (g * s.2.2.2.2.2.1 * s.2.2.2.2.2.2.2)) * ((v : Int) * v - u * u))
  have p1 : (2 : Nat) ^ 218 * 2 ^ 218 + 2 ^ 218 * 2 ^ 218 * 2401 < 2 ^ 450 := by decide
  exact Nat.lt_of_le_of_lt q3 (Nat.lt_of_le_of_lt (Nat.add_le_add q1 q2) p1)
theorem zBk_p {s : zStk} {u : Int} {v : Nat} (hs : zWs s) (hu : u.natAbs ≤ v) (hv : v ≤ 49) (hv1 : 1 ≤ v) : 0 ≤ zBk (-1) s u v ∧ zBk (-1) s u v < zBk 1 s u v := by
  refine ⟨zPQ_nonneg hu, ?_⟩
  have hd := zPQ_diff (u := u) (v := (v : Int)) (au := s.2.2.2.2.1) (al := s.2.2.2.2.2.1) (gu := s.2.2.2.2.2.2.1) (gl := s.2.2.2.2.2.2.2) (up := s.2.1) (lo := s.2.2.1) (wi := s.2.2.2.1) s.1
  obtain ⟨-, -, -, -, -, b5⟩ := zTB_6 hu hv hv1 hs.1
  obtain ⟨⟨e1, e2⟩, ⟨e3, e4⟩, ⟨e5, e6⟩, ⟨e7, e8⟩⟩ := hs.2
  have hp : 0 < 4 * ((s.2.2.2.2.1 : Int) * s.2.2.2.2.2.1 * s.2.2.2.2.2.2.1 * s.2.2.2.2.2.2.2) * ((zTb u v s.2.1 s.2.2.1 s.2.2.2.1 s.1).2.2.2.2 * (zTb u v s.2.1 s.2.2.1 s.2.2.2.1 s.1).2.2.2.2) := by
    refine Int.mul_pos (Int.mul_pos (by decide) (Int.mul_pos (Int.mul_pos (Int.mul_pos (by omega) (by omega)) (by omega)) (by omega))) (Int.mul_pos b5 b5)
  unfold zBk zTS
  omega
theorem zBk_neg {g : Int} {s : zStk} {u : Int} {v : Nat} : zBk g s (-u) v = zBk g s u v := zPQ_neg s.1
/-- a told part of U by V -/
def ztd (U V : Nat) (be : Int32) (k : Nat) : Int32 := if be = 0 then zpart (U / Nat.gcd U V) k else zpart (V / Nat.gcd U V) k
theorem zn_479 {X : Nat} (h : X < 2 ^ 450) : X < 2 ^ 479 ∧ X < 2 ^ 480 := ⟨Nat.lt_trans h (by decide), Nat.lt_trans h (by decide)⟩
theorem zk_told {F : zMem} {U V : Nat} {be : Int32} {kk : Int32} {post : Int32 → zMem → Prop} (h0 : zL 16 (F 0) U) (h1 : zL 16 (F 1) V) (hU : U < 2 ^ 450) (hV : V < 2 ^ 450) (hV0 : 0 < V) (hk : zPt kk) (k : ∀ F' : zMem, post (ztd U V be (zNt kk)) F') : zw_X0_toLowestTerms F (fun T => zw_X0_part T be kk (fun v => post v T)) := by
  refine zr_lowest h0 h1 (zn_479 hU).1 (zn_479 hV).1 hV0 (fun F' g0 g1 => ?_)
  have ek : kk = nI (zNt kk) := (zt_n (n := 40) hk.1 (by have := hk.2; omega)).1
  have hk40 : zNt kk < 40 := by unfold zNt; have := hk.1; have := hk.2; omega
  have := zr_part (F := F') (b := be) (k := zNt kk) (post := fun v => post v F') g0 g1 (Nat.lt_of_le_of_lt (Nat.div_le_self _ _) (zn_479 hU).2) (Nat.lt_of_le_of_lt (Nat.div_le_self _ _) (zn_479 hV).2) hk40 (k F')
  rwa [← ek] at this
/-- a number that is not below 0, as a Nat -/
theorem zL_nat {n : Nat} {r : zRow} {X : Int} (h : zL n r X) (h0 : 0 ≤ X) : zL n r ((X.natAbs : Nat) : Int) := by
  rw [Int.natAbs_of_nonneg h0]; exact h
noncomputable def zoBk (a : zAb) (st be kk : Int32) : Int32 × Int32 := zif (zSt st) (zif (zPt kk) (0, ztd (zBk (-1) (zgt a (zNt st)) a.2.2.1.1.toInt a.2.2.1.2).natAbs (zBk 1 (zgt a (zNt st)) a.2.2.1.1.toInt a.2.2.1.2).natAbs be (zNt kk)) (2, 0)) (1, 0)
theorem zoBk_1 {a : zAb} {st be kk : Int32} (h : ¬ zSt st) : zoBk a st be kk = (1, 0) := zif_f h
theorem zoBk_2 {a : zAb} {st be kk : Int32} (h : zSt st) (g : ¬ zPt kk) : zoBk a st be kk = (2, 0) := (zif_t h).trans (zif_f g)
theorem zoBk_0 {a : zAb} {st be kk : Int32} (h : zSt st) (g : zPt kk) : zoBk a st be kk = (0, ztd (zBk (-1) (zgt a (zNt st)) a.2.2.1.1.toInt a.2.2.1.2).natAbs (zBk 1 (zgt a (zNt st)) a.2.2.1.1.toInt a.2.2.1.2).natAbs be (zNt kk)) := (zif_t h).trans (zif_t g)
theorem zk_tb {O P N T F : zMem} {b : zAr} {s : zStk} {post : zMem → zMem → Prop} (hCR : zCR O N b) (hL : zLiW b) (hP : zCp P s) (hs : zWs s) (k : ∀ (T' : zMem) (r r' : zRow), zL 16 r (zBk (-1) s b.1.1.toInt b.1.2) → zL 16 r' (zBk 1 s b.1.1.toInt b.1.2) → post T' (zset (zset F 0 r) 1 r')) : zw_X4_tellBack T F P (O 12 0) (O 13 0) post := by
  obtain ⟨⟨c1, c2⟩, -⟩ := hCR
  obtain ⟨l1, l2, l3⟩ := hL
  rw [c1, c2]
  exact zr_tellBack l3 (by omega) l1 rfl hP hs.1 hs.2 k
theorem zk_backP {O P N T F : zMem} {a : zAb} {s : zStk} {be kk : Int32} {post : Int32 → zMem → zMem → Prop} (hW : zWA a) (hCR : zCR O N a.2.2) (hP : zCp P s) (hs : zWs s) (hk : zPt kk) (k : ∀ T' F' : zMem, post (ztd (zBk (-1) s a.2.2.1.1.toInt a.2.2.1.2).natAbs (zBk 1 s a.2.2.1.1.toInt a.2.2.1.2).natAbs be (zNt kk)) T' F') : zw_X4_tellBack T F P (O 12 0) (O 13 0) (fun (T_1 : zMem) (T_2 : zMem) => zw_X0_toLowestTerms T_2 (fun (T_3 : zMem) => zw_X0_part T_3 be kk (fun (v_4 : Int32) => post v_4 T_1 T_3))) := by
  have hLi := hW.2.2.1
  obtain ⟨l1, l2, l3⟩ := hW.2.2.1
  have l2' : a.2.2.1.2 ≤ 49 := by have l2 : a.2.2.1.2 ≤ 25 := l2; omega
  obtain ⟨q1, q2⟩ := zBk_p hs l3 l2' l1
  refine zk_tb hCR hLi hP hs (fun T' r r' g0 g1 => ?_)
  refine zk_told (post := fun v T3 => post v T' T3) (U := (zBk (-1) s a.2.2.1.1.toInt a.2.2.1.2).natAbs) (V := (zBk 1 s a.2.2.1.1.toInt a.2.2.1.2).natAbs) ?_ ?_ (zBk_l hs l3 l2' l1 (by decide)) (zBk_l hs l3 l2' l1 (by decide)) (by omega) hk (fun F' => k T' F')
  · exact zL_nat g0 q1
  · exact zL_nat g1 (by omega)
theorem zk_back {O P0 P1 N T F0 : zMem} {out : zRowL} {a : zAb} {st be kk : Int32} {post : Int32 → zMem → zMem → zRowL → Prop} (hW : zWA a) (hC : zCA O P0 P1 N a) (k : ∀ (T' F' : zMem) (out' : zRowL), ((zoBk a st be kk).1 = 0 → out' 0 = Int32.toInt64 (zoBk a st be kk).2) → post (zoBk a st be kk).1 T' F' out') : zw_L_back O P0 P1 T F0 out st be kk post := by
  have fail : zSt st → ¬ zPt kk → post 2 T F0 out := fun h1 h2 => by
    rw [zoBk_2 h1 h2] at k; exact k T F0 out (fun q => absurd q (by decide))
  have fin : zSt st → zPt kk → ∀ (T' F' : zMem) (r : zRowL), r = vp_updL out (Int32.toNatClampNeg (0 : Int32)) (Int32.toInt64 (ztd (zBk (-1) (zgt a (zNt st)) a.2.2.1.1.toInt a.2.2.1.2).natAbs (zBk 1 (zgt a (zNt st)) a.2.2.1.1.toInt a.2.2.1.2).natAbs be (zNt kk))) → post 0 T' F' r := fun h1 h2 T' F' r er => by
    rw [zoBk_0 h1 h2] at k
    refine k T' F' r (fun _ => ?_)
    rw [er, show (0 : Int32).toNatClampNeg = 0 from rfl, pk_uLs]
  refine zr_pileAt (O := O) (fun c => ?_) (fun c => ?_) (fun c1 c2 => ?_)
  · have e0 : zNt st = 0 := by rw [c]; exact zNt_0
    rw [e0] at fin
    exact zr_needPart (fun hk => zk_backP hW hC.2.2 hC.1 hW.1 hk (fun T' F' => fin (Or.inl c) hk T' F')) (fun hk => fail (Or.inl c) hk)
  · have e0 : zNt st = 1 := by rw [c]; exact zNt_1
    rw [e0] at fin
    exact zr_needPart (fun hk => zk_backP hW hC.2.2 hC.2.1 hW.2.1 hk (fun T' F' => fin (Or.inr c) hk T' F')) (fun hk => fail (Or.inr c) hk)
  · rw [zoBk_1 (zSt_no c1 c2)] at k; exact k T F0 out (fun q => absurd q (by decide))
/-- the reference's backOf, of a stack at the light -/
theorem zf_bo {M0 M : zMem} {w : Nat → Int} {a : zAb} {st : Int32} {U V : Int32} {u : Int} {v : Nat} {post : zMem → Prop} (hW : zWA a) (hR : zRA M0 a) (hG : zG M0 M w) (hst : zSt st) (hU : U.toInt = u) (hV : V.toInt = v) (hu : u.natAbs ≤ v) (hv : v ≤ 49) (hv1 : 1 ≤ v) (k : ∀ (T : zMem) (w' : Nat → Int), zG M0 T w' → w' 14 = zBk (-1) (zgt a (zNt st)) u v → w' 15 = zBk 1 (zgt a (zNt st)) u v → zkp w w' → post T) : zw_X6_backOf M st U V post := by
  obtain ⟨e1, hs⟩ := zSt_n hst
  have hWs := zWA_s (s := zNt st) hW
  have := zg_backOf (post := post) hG hs hu hv hv1 hU hV (zRA_s hs hR) hWs.1 hWs.2 k
  rwa [← e1] at this
theorem zn_2800 {X : Nat} (h : X < 2 ^ 450) : X < 2 ^ 2800 := Nat.lt_trans h (Nat.pow_lt_pow_right (by decide) (by decide))
theorem zl_light {M0 M : zMem} {w : Nat → Int} {a : zAb} (hR : zRA M0 a) (hG : zG M0 M w) : M 9 0 = a.2.2.1.1 ∧ M 10 0 = nI a.2.2.1.2 := by
  obtain ⟨-, -, ⟨⟨g1, g2⟩, -⟩⟩ := hR
  rw [hG.1 9 (by decide) (by decide) (by decide), hG.1 10 (by decide) (by decide) (by decide)]
  exact ⟨g1, g2⟩
theorem zf_back {M : zMem} {a : zAb} {st be kk : Int32} {post : Int32 → zMem → Prop} (hW : zWA a) (h : zRA M a) (k : ∀ M' : zMem, M' 0 0 = (zoBk a st be kk).1 → zRA M' a → post (zoBk a st be kk).2 M') : zw_X6_back M st be kk post := by
  refine zr_isStack (fun hst => ?_) (fun c1 c2 => ?_)
  · have h1 : zRA (zset M 0 (fun _ => 0)) a := zRA_0 h
    have hst : zSt st := hst
    refine And.intro (fun q => absurd q (by decide)) (fun _ => ?_)
    refine zr_isPart (fun hk => ?_) (fun hk => ?_)
    · refine zr_right1 rfl (by decide) (And.intro (fun _ => ?_) (fun q => absurd q (by decide)))
      rw [zoBk_0 hst hk] at k
      obtain ⟨w, hG⟩ := zRA_g h1
      obtain ⟨l1, l2, l3⟩ := hW.2.2.1
      have l2' : a.2.2.1.2 ≤ 49 := by have l2 : a.2.2.1.2 ≤ 25 := l2; omega
      obtain ⟨m9, m10⟩ := zl_light h1 hG
      rw [m9, m10]
      have hs := zWA_s (s := zNt st) hW
      obtain ⟨q1, q2⟩ := zBk_p hs l3 l2' l1
      have ek : kk = nI (zNt kk) := (zt_n (n := 40) hk.1 (by have := hk.2; omega)).1
      have hk40 : zNt kk < 40 := by unfold zNt; have := hk.1; have := hk.2; omega
      refine zf_bo hW h1 hG hst rfl (nI_toInt (by omega)) l3 l2' l1 (fun T w' G' e14 e15 _ => ?_)
      have A := zg_toldPart (f := be) (post := fun v T9 => post v T9) 14 15 (kk := zNt kk) (X := zBk (-1) (zgt a (zNt st)) a.2.2.1.1.toInt a.2.2.1.2) (Y := (zBk 1 (zgt a (zNt st)) a.2.2.1.1.toInt a.2.2.1.2).natAbs) G' (by decide) (by decide) (by decide) hk40 e14 (by rw [e15]; omega) (by omega) (zn_2800 (zBk_l hs l3 l2' l1 (by decide))) (zn_2800 (zBk_l hs l3 l2' l1 (by decide))) (fun M' w'' G'' => k M' (by rw [G''.1 0 (by decide) (by decide) (by decide)]; rfl) (zRA_G h1 G''))
      rwa [← ek] at A
    · rw [zoBk_2 hst hk] at k
      exact zr_right0 rfl (by decide) (And.intro (fun q => absurd rfl q) (fun _ => k _ rfl (zRA_0 h1)))
  · rw [zoBk_1 (zSt_no c1 c2)] at k
    exact And.intro (fun _ => k _ rfl (zRA_0 (zRA_0 h))) (fun q => absurd rfl q)
/-! on -/
noncomputable def zoOn (a : zAb) (st be kk : Int32) : Int32 × Int32 := zif (zSt st) (zif (zPt kk) (0, ztd (zBk 1 (zgt a (zNt st)) a.2.2.1.1.toInt a.2.2.1.2 - zBk (-1) (zgt a (zNt st)) a.2.2.1.1.toInt a.2.2.1.2).natAbs (zBk 1 (zgt a (zNt st)) a.2.2.1.1.toInt a.2.2.1.2).natAbs be (zNt kk)) (2, 0)) (1, 0)
theorem zoOn_1 {a : zAb} {st be kk : Int32} (h : ¬ zSt st) : zoOn a st be kk = (1, 0) := zif_f h
theorem zoOn_2 {a : zAb} {st be kk : Int32} (h : zSt st) (g : ¬ zPt kk) : zoOn a st be kk = (2, 0) := (zif_t h).trans (zif_f g)
theorem zoOn_0 {a : zAb} {st be kk : Int32} (h : zSt st) (g : zPt kk) : zoOn a st be kk = (0, ztd (zBk 1 (zgt a (zNt st)) a.2.2.1.1.toInt a.2.2.1.2 - zBk (-1) (zgt a (zNt st)) a.2.2.1.1.toInt a.2.2.1.2).natAbs (zBk 1 (zgt a (zNt st)) a.2.2.1.1.toInt a.2.2.1.2).natAbs be (zNt kk)) := (zif_t h).trans (zif_t g)
theorem zk_onP {O P N T F : zMem} {a : zAb} {s : zStk} {be kk : Int32} {post : Int32 → zMem → zMem → Prop} (hW : zWA a) (hCR : zCR O N a.2.2) (hP : zCp P s) (hs : zWs s) (hk : zPt kk) (k : ∀ T' F' : zMem, post (ztd (zBk 1 s a.2.2.1.1.toInt a.2.2.1.2 - zBk (-1) s a.2.2.1.1.toInt a.2.2.1.2).natAbs (zBk 1 s a.2.2.1.1.toInt a.2.2.1.2).natAbs be (zNt kk)) T' F') : zw_X4_tellBack T F P (O 12 0) (O 13 0) (fun (T_1 : zMem) (T_2 : zMem) => zw_X0_toRestOfOne T_2 (fun (T_3 : zMem) => zw_X0_toLowestTerms T_3 (fun (T_4 : zMem) => zw_X0_part T_4 be kk (fun (v_5 : Int32) => post v_5 T_1 T_4)))) := by
  have hLi := hW.2.2.1
  obtain ⟨l1, l2, l3⟩ := hW.2.2.1
  have l2' : a.2.2.1.2 ≤ 49 := by have l2 : a.2.2.1.2 ≤ 25 := l2; omega
  obtain ⟨q1, q2⟩ := zBk_p hs l3 l2' l1
  have b1 := zBk_l (g := 1) hs l3 l2' l1 (by decide)
  refine zk_tb hCR hLi hP hs (fun T' r r' g0 g1 => ?_)
  refine zr_restOfOne (U := zBk (-1) s a.2.2.1.1.toInt a.2.2.1.2) (V := zBk 1 s a.2.2.1.1.toInt a.2.2.1.2) ?_ ?_ (fun r2 g2 => ?_)
  · exact g0
  · exact g1
  refine zk_told (post := fun v T3 => post v T' T3) (U := (zBk 1 s a.2.2.1.1.toInt a.2.2.1.2 - zBk (-1) s a.2.2.1.1.toInt a.2.2.1.2).natAbs) (V := (zBk 1 s a.2.2.1.1.toInt a.2.2.1.2).natAbs) ?_ ?_ (by omega) b1 (by omega) hk (fun F' => k T' F')
  · exact zL_nat g2 (by omega)
  · exact zL_nat g1 (by omega)
theorem zk_on {O P0 P1 N T F0 : zMem} {out : zRowL} {a : zAb} {st be kk : Int32} {post : Int32 → zMem → zMem → zRowL → Prop} (hW : zWA a) (hC : zCA O P0 P1 N a) (k : ∀ (T' F' : zMem) (out' : zRowL), ((zoOn a st be kk).1 = 0 → out' 0 = Int32.toInt64 (zoOn a st be kk).2) → post (zoOn a st be kk).1 T' F' out') : zw_L_on O P0 P1 T F0 out st be kk post := by
  have fail : zSt st → ¬ zPt kk → post 2 T F0 out := fun h1 h2 => by
    rw [zoOn_2 h1 h2] at k; exact k T F0 out (fun q => absurd q (by decide))
  have fin : zSt st → zPt kk → ∀ (T' F' : zMem) (r : zRowL), r = vp_updL out (Int32.toNatClampNeg (0 : Int32)) (Int32.toInt64 (ztd (zBk 1 (zgt a (zNt st)) a.2.2.1.1.toInt a.2.2.1.2 - zBk (-1) (zgt a (zNt st)) a.2.2.1.1.toInt a.2.2.1.2).natAbs (zBk 1 (zgt a (zNt st)) a.2.2.1.1.toInt a.2.2.1.2).natAbs be (zNt kk))) → post 0 T' F' r := fun h1 h2 T' F' r er => by
    rw [zoOn_0 h1 h2] at k
    refine k T' F' r (fun _ => ?_)
    rw [er, show (0 : Int32).toNatClampNeg = 0 from rfl, pk_uLs]
  refine zr_pileAt (O := O) (fun c => ?_) (fun c => ?_) (fun c1 c2 => ?_)
  · have e0 : zNt st = 0 := by rw [c]; exact zNt_0
    rw [e0] at fin
    exact zr_needPart (fun hk => zk_onP hW hC.2.2 hC.1 hW.1 hk (fun T' F' => fin (Or.inl c) hk T' F')) (fun hk => fail (Or.inl c) hk)
  · have e0 : zNt st = 1 := by rw [c]; exact zNt_1
    rw [e0] at fin
    exact zr_needPart (fun hk => zk_onP hW hC.2.2 hC.2.1 hW.2.1 hk (fun T' F' => fin (Or.inr c) hk T' F')) (fun hk => fail (Or.inr c) hk)
  · rw [zoOn_1 (zSt_no c1 c2)] at k; exact k T F0 out (fun q => absurd q (by decide))
theorem zf_on {M : zMem} {a : zAb} {st be kk : Int32} {post : Int32 → zMem → Prop} (hW : zWA a) (h : zRA M a) (k : ∀ M' : zMem, M' 0 0 = (zoOn a st be kk).1 → zRA M' a → post (zoOn a st be kk).2 M') : zw_X6_on M st be kk post := by
  refine zr_isStack (fun hst => ?_) (fun c1 c2 => ?_)
  · have h1 : zRA (zset M 0 (fun _ => 0)) a := zRA_0 h
    have hst : zSt st := hst
    refine And.intro (fun q => absurd q (by decide)) (fun _ => ?_)
    refine zr_isPart (fun hk => ?_) (fun hk => ?_)
    · refine zr_right1 rfl (by decide) (And.intro (fun _ => ?_) (fun q => absurd q (by decide)))
      rw [zoOn_0 hst hk] at k
      obtain ⟨w, hG⟩ := zRA_g h1
      obtain ⟨l1, l2, l3⟩ := hW.2.2.1
      have l2' : a.2.2.1.2 ≤ 49 := by have l2 : a.2.2.1.2 ≤ 25 := l2; omega
      obtain ⟨m9, m10⟩ := zl_light h1 hG
      rw [m9, m10]
      have hs := zWA_s (s := zNt st) hW
      obtain ⟨q1, q2⟩ := zBk_p hs l3 l2' l1
      have b0 := zBk_l (g := -1) hs l3 l2' l1 (by decide)
      have b1 := zBk_l (g := 1) hs l3 l2' l1 (by decide)
      have ek : kk = nI (zNt kk) := (zt_n (n := 40) hk.1 (by have := hk.2; omega)).1
      have hk40 : zNt kk < 40 := by unfold zNt; have := hk.1; have := hk.2; omega
      refine zf_bo hW h1 hG hst rfl (nI_toInt (by omega)) l3 l2' l1 (fun T w' G' e14 e15 _ => ?_)
      refine zg_minus 14 15 14 (e := 450) (f := 450) G' (by decide) (by decide) (by decide) (by rw [e15]; exact b1) (by rw [e14]; exact b0) (by decide) (by decide) (fun T2 G2 => ?_)
      rw [e14, e15] at G2
      have A := zg_toldPart (f := be) (post := fun v T9 => post v T9) 14 15 (kk := zNt kk) (X := zBk 1 (zgt a (zNt st)) a.2.2.1.1.toInt a.2.2.1.2 - zBk (-1) (zgt a (zNt st)) a.2.2.1.1.toInt a.2.2.1.2) (Y := (zBk 1 (zgt a (zNt st)) a.2.2.1.1.toInt a.2.2.1.2).natAbs) G2 (by decide) (by decide) (by decide) hk40 zj_in (by rw [zj_out (by decide), e15]; omega) (by omega) (zn_2800 (by omega)) (zn_2800 b1) (fun M' w'' G'' => k M' (by rw [G''.1 0 (by decide) (by decide) (by decide)]; rfl) (zRA_G h1 G''))
      rwa [← ek] at A
    · rw [zoOn_2 hst hk] at k
      exact zr_right0 rfl (by decide) (And.intro (fun q => absurd rfl q) (fun _ => k _ rfl (zRA_0 h1)))
  · rw [zoOn_1 (zSt_no c1 c2)] at k
    exact And.intro (fun _ => k _ rfl (zRA_0 (zRA_0 h))) (fun q => absurd rfl q)
