/-! stops -/
noncomputable def zbS (t : Int × Int × Int × Int × Int) : Int32 := if 2 * t.2.2.2.2 < ((t.1 + t.2.2.2.1).natAbs : Int) then 1 else 0
noncomputable def zoSp (a : zAb) (st : Int32) : Int32 × Int32 := zif (zSt st) (0, zbS (zTS (zgt a (zNt st)) a.2.2.1.1.toInt a.2.2.1.2)) (1, 0)
theorem zoSp_1 {a : zAb} {st : Int32} (h : ¬ zSt st) : zoSp a st = (1, 0) := zif_f h
theorem zoSp_0 {a : zAb} {st : Int32} (h : zSt st) : zoSp a st = (0, zbS (zTS (zgt a (zNt st)) a.2.2.1.1.toInt a.2.2.1.2)) := zif_t h
theorem zbS_01 (t : Int × Int × Int × Int × Int) : zbS t = 0 ∨ zbS t = 1 := by
  unfold zbS; split
  · exact Or.inr rfl
  · exact Or.inl rfl
theorem zk_stopsP {O P N T : zMem} {a : zAb} {s : zStk} {post : Int32 → zMem → Prop} (hW : zWA a) (hCR : zCR O N a.2.2) (hP : zCp P s) (hs : zWs s) (k : ∀ T' : zMem, post (zbS (zTS s a.2.2.1.1.toInt a.2.2.1.2)) T') : zw_X4_reckon T P (O 12 0) (O 13 0) (fun (T_1 : zMem) => zw_X4_isStopping T_1 (fun (v_3 : Int32) (T_2 : zMem) => (narrow .boolean (.int v_3) = .int v_3 ∧ post v_3 T_2))) := by
  have hLi := hW.2.2.1
  obtain ⟨l1, l2, l3⟩ := hW.2.2.1
  have l2' : a.2.2.1.2 ≤ 49 := by have l2 : a.2.2.1.2 ≤ 25 := l2; omega
  refine zk_rk hCR hLi hP hs (fun T1 h1 => ?_)
  refine zr_isStopping l3 l2' l1 hs.1 h1 (fun T' => And.intro ?_ (k T'))
  rcases zbS_01 (zTS s a.2.2.1.1.toInt a.2.2.1.2) with q | q
  · have q' : (if 2 * (zTb a.2.2.1.1.toInt a.2.2.1.2 s.2.1 s.2.2.1 s.2.2.2.1 s.1).2.2.2.2 < (((zTb a.2.2.1.1.toInt a.2.2.1.2 s.2.1 s.2.2.1 s.2.2.2.1 s.1).1 + (zTb a.2.2.1.1.toInt a.2.2.1.2 s.2.1 s.2.2.1 s.2.2.2.1 s.1).2.2.2.1).natAbs : Int) then (1 : Int32) else 0) = 0 := q
    rw [q']; rfl
  · have q' : (if 2 * (zTb a.2.2.1.1.toInt a.2.2.1.2 s.2.1 s.2.2.1 s.2.2.2.1 s.1).2.2.2.2 < (((zTb a.2.2.1.1.toInt a.2.2.1.2 s.2.1 s.2.2.1 s.2.2.2.1 s.1).1 + (zTb a.2.2.1.1.toInt a.2.2.1.2 s.2.1 s.2.2.1 s.2.2.2.1 s.1).2.2.2.1).natAbs : Int) then (1 : Int32) else 0) = 1 := q
    rw [q']; rfl
theorem zk_stops {O P0 P1 N T : zMem} {out : zRowL} {a : zAb} {st : Int32} {post : Int32 → zMem → zRowL → Prop} (hW : zWA a) (hC : zCA O P0 P1 N a) (k : ∀ (T' : zMem) (out' : zRowL), ((zoSp a st).1 = 0 → out' 0 = Int32.toInt64 (zoSp a st).2) → post (zoSp a st).1 T' out') : zw_L_stops O P0 P1 T out st post := by
  have fin : zSt st → ∀ T_1 : zMem, ((zbS (zTS (zgt a (zNt st)) a.2.2.1.1.toInt a.2.2.1.2) = 0 → ∀ r_4 : zRowL, r_4 = (vp_updL out (Int32.toNatClampNeg (0 : Int32)) (0 : Int64)) → (post (0 : Int32) T_1 r_4)) ∧ (¬ zbS (zTS (zgt a (zNt st)) a.2.2.1.1.toInt a.2.2.1.2) = 0 → ∀ r_5 : zRowL, r_5 = (vp_updL out (Int32.toNatClampNeg (0 : Int32)) (1 : Int64)) → (post (0 : Int32) T_1 r_5))) := fun h1 T' => by
    rw [zoSp_0 h1] at k
    refine And.intro (fun q r er => ?_) (fun q r er => ?_)
    · refine k T' r (fun _ => ?_)
      rw [er, show (0 : Int32).toNatClampNeg = 0 from rfl, pk_uLs, q]; rfl
    · refine k T' r (fun _ => ?_)
      rcases zbS_01 (zTS (zgt a (zNt st)) a.2.2.1.1.toInt a.2.2.1.2) with z | z
      · exact absurd z q
      · rw [er, show (0 : Int32).toNatClampNeg = 0 from rfl, pk_uLs, z]; rfl
  refine zr_pileAt (O := O) (fun c => ?_) (fun c => ?_) (fun c1 c2 => ?_)
  · have e0 : zNt st = 0 := by rw [c]; exact zNt_0
    rw [e0] at fin
    exact zk_stopsP hW hC.2.2 hC.1 hW.1 (fun T' => fin (Or.inl c) T')
  · have e0 : zNt st = 1 := by rw [c]; exact zNt_1
    rw [e0] at fin
    exact zk_stopsP hW hC.2.2 hC.2.1 hW.2.1 (fun T' => fin (Or.inr c) T')
  · rw [zoSp_1 (zSt_no c1 c2)] at k; exact k T out (fun q => absurd q (by decide))
theorem zn_stop {x W : Int} (hW : 0 < W) : (0 < x * x - W * W * 4) ↔ 2 * W < (x.natAbs : Int) := by
  have e1 : ((x.natAbs * x.natAbs : Nat) : Int) = x * x := Int.natAbs_mul_self
  obtain ⟨w, hw⟩ : ∃ w : Nat, W = w := ⟨W.toNat, by omega⟩
  subst hw
  have e2 : ((w * w * 4 : Nat) : Int) = (w : Int) * w * 4 := by push_cast; rfl
  rw [← e1, ← e2]
  constructor
  · intro h
    rcases Nat.lt_or_ge (2 * w) x.natAbs with q | q
    · omega
    · have h1 := Nat.mul_le_mul q q
      have h2 : 2 * w * (2 * w) = w * w * 4 := by grind
      omega
  · intro h
    have h1 : (2 * w + 1) * (2 * w + 1) ≤ x.natAbs * x.natAbs := Nat.mul_le_mul (by omega) (by omega)
    have h2 : (2 * w + 1) * (2 * w + 1) = w * w * 4 + 4 * w + 1 := by grind
    omega
theorem zf_stops {M : zMem} {a : zAb} {st : Int32} {post : Int32 → zMem → Prop} (hW : zWA a) (h : zRA M a) (k : ∀ M' : zMem, M' 0 0 = (zoSp a st).1 → zRA M' a → post (zoSp a st).2 M') : zw_X6_stops M st post := by
  refine zr_isStack (fun hst => ?_) (fun c1 c2 => ?_)
  · have h1 : zRA (zset M 0 (fun _ => 0)) a := zRA_0 h
    have hst : zSt st := hst
    rw [zoSp_0 hst] at k
    obtain ⟨w, hG⟩ := zRA_g h1
    have hs := zWA_s (s := zNt st) hW
    obtain ⟨l1, l2, l3⟩ := hW.2.2.1
    have l2' : a.2.2.1.2 ≤ 49 := by have l2 : a.2.2.1.2 ≤ 25 := l2; omega
    obtain ⟨b0, b1, b2, b3, b4, b5⟩ := zTB_6 l3 l2' l1 hs.1
    refine And.intro (fun _ => ?_) (fun q => absurd q (by decide))
    refine zf_tb hW h1 hG hst (fun T w' G' t5 _ => ?_)
    have w0 : w' 0 = (zTS (zgt a (zNt st)) a.2.2.1.1.toInt a.2.2.1.2).1 := by rw [← t5]; rfl
    have w3 : w' 3 = (zTS (zgt a (zNt st)) a.2.2.1.1.toInt a.2.2.1.2).2.2.2.1 := by rw [← t5]; rfl
    have w4 : w' 4 = (zTS (zgt a (zNt st)) a.2.2.1.1.toInt a.2.2.1.2).2.2.2.2 := by rw [← t5]; rfl
    have c0 : (w' 0).natAbs < 2 ^ 211 := by rw [w0]; exact Nat.lt_of_le_of_lt b0 (by decide)
    have c3 : (w' 3).natAbs < 2 ^ 211 := by rw [w3]; exact Nat.lt_of_le_of_lt b3 (by decide)
    have c4 : (w' 4).natAbs < 2 ^ 175 := by rw [w4]; exact Nat.lt_of_le_of_lt b4 (by decide)
    have c10 : (w' 0 + w' 3).natAbs < 2 ^ 212 := zn_alt c0 c3
    refine zg_plus 10 0 3 (e := 211) (f := 211) G' (by decide) (by decide) (by decide) c0 c3 (by decide) (by decide) (fun T5 G5 => ?_)
    refine zg_times 11 10 10 (e := 212) (f := 212) G5 (by decide) (by decide) (by decide) (by decide) (by decide) c10 c10 (by decide) (fun T6 G6 => ?_)
    refine zg_times 12 4 4 (e := 175) (f := 175) G6 (by decide) (by decide) (by decide) (by decide) (by decide) c4 c4 (by decide) (fun T7 G7 => ?_)
    refine zg_by 12 4 (e := 350) G7 (by decide) (by decide) (by decide) (by decide) (zn_mlt c4 c4) (by decide) (fun T8 G8 => ?_)
    refine zr_rcompare (a := 11) (b := 12) (X := (w' 0 + w' 3) * (w' 0 + w' 3)) (Y := w' 4 * w' 4 * 4) (by decide) (by decide) (G8.2 11 (by decide)) (G8.2 12 (by decide)) ?_
    rw [w0, w3, w4]
    have hn := zn_stop (x := (zTS (zgt a (zNt st)) a.2.2.1.1.toInt a.2.2.1.2).1 + (zTS (zgt a (zNt st)) a.2.2.1.1.toInt a.2.2.1.2).2.2.2.1) (W := (zTS (zgt a (zNt st)) a.2.2.1.1.toInt a.2.2.1.2).2.2.2.2) b5
    have hk := k T8 (by rw [G8.1 0 (by decide) (by decide) (by decide)]; rfl) (zRA_G h1 G8)
    unfold zbS at hk
    generalize ((zTS (zgt a (zNt st)) a.2.2.1.1.toInt a.2.2.1.2).1 + (zTS (zgt a (zNt st)) a.2.2.1.1.toInt a.2.2.1.2).2.2.2.1) * ((zTS (zgt a (zNt st)) a.2.2.1.1.toInt a.2.2.1.2).1 + (zTS (zgt a (zNt st)) a.2.2.1.1.toInt a.2.2.1.2).2.2.2.1) - (zTS (zgt a (zNt st)) a.2.2.1.1.toInt a.2.2.1.2).2.2.2.2 * (zTS (zgt a (zNt st)) a.2.2.1.1.toInt a.2.2.1.2).2.2.2.2 * 4 = D at hn
    refine And.intro (fun c => And.intro rfl ?_) (fun c => And.intro rfl ?_)
    · have : ¬ 0 < D := fun q => by rw [zsg_pos q] at c; exact absurd c (by decide)
      rw [if_neg (fun q => this (hn.mpr q))] at hk; exact hk
    · have : 0 < D := by
        rcases Int.lt_trichotomy D 0 with q | q | q
        · rw [zsg_neg q] at c; exact absurd (by decide) c
        · rw [zsg_zero q] at c; exact absurd (by decide) c
        · exact q
      rw [if_pos (hn.mp this)] at hk; exact hk
  · rw [zoSp_1 (zSt_no c1 c2)] at k
    exact And.intro (fun q => absurd rfl q) (fun _ => And.intro rfl (k _ rfl (zRA_0 (zRA_0 h))))
/-! two stacks held against each other -/
/-- P of the first times Q of the second, less P of the second times Q of the first -/
def zcm (s : zStk) (u : Int) (v : Nat) (s' : zStk) (u' : Int) (v' : Nat) : Int := zBk (-1) s u v * zBk 1 s' u' v' - zBk (-1) s' u' v' * zBk 1 s u v
/-- the row F holds P and Q -/
def zFh (F : zMem) (s : zStk) (u : Int) (v : Nat) : Prop := zL 16 (F 0) (zBk (-1) s u v) ∧ zL 16 (F 1) (zBk 1 s u v)
theorem zn_480 {X : Int} (h : X.natAbs < 2 ^ 450) (h0 : 0 ≤ X) : X < 2 ^ 480 := by
  have h1 : ((X.natAbs : Nat) : Int) < ((2 ^ 480 : Nat) : Int) := by exact_mod_cast (zn_479 h).2
  rw [Int.natAbs_of_nonneg h0] at h1
  exact_mod_cast h1
theorem zk_cmp {F O : zMem} {s s' : zStk} {u u' : Int} {v v' : Nat} {post : Int32 → zMem → Prop} (hF : zFh F s u v) (hO : zFh O s' u' v') (hs : zWs s) (hs' : zWs s') (hu : u.natAbs ≤ v) (hv : v ≤ 49) (hv1 : 1 ≤ v) (hu' : u'.natAbs ≤ v') (hv' : v' ≤ 49) (hv1' : 1 ≤ v') (k : ∀ F' : zMem, zFh F' s u v → post (zsg (zcm s u v s' u' v')) F') : zw_X0_compareWith F O post := by
  obtain ⟨q1, q2⟩ := zBk_p hs hu hv hv1
  obtain ⟨q3, q4⟩ := zBk_p hs' hu' hv' hv1'
  refine zr_compareWith hF.1 hF.2 hO.1 hO.2 q1 (zn_480 (zBk_l hs hu hv hv1 (by decide)) q1) (by omega) (zn_480 (zBk_l hs hu hv hv1 (by decide)) (by omega)) q3 (zn_480 (zBk_l hs' hu' hv' hv1' (by decide)) q3) (by omega) (zn_480 (zBk_l hs' hu' hv' hv1' (by decide)) (by omega)) (fun r r' => k _ ?_)
  exact hF
theorem zg_against {M0 M : zMem} {w : Nat → Int} (p q : Nat) {post : Int32 → zMem → Prop} (hG : zG M0 M w) (hp : p < 32) (hq : q < 32) (b14 : (w 14).natAbs < 2 ^ 450) (b15 : (w 15).natAbs < 2 ^ 450) (bp : (w p).natAbs < 2 ^ 450) (bq : (w q).natAbs < 2 ^ 450) (k : ∀ (M' : zMem) (w' : Nat → Int), zG M0 M' w' → (∀ d : Nat, d < 32 → w' d = w d) → post (zsg (w 14 * w q - w p * w 15)) M') : zw_X6_against M (nI p) (nI q) post := by
  refine zg_times 32 14 q (e := 450) (f := 450) hG (by decide) (by decide) (by omega) (by decide) (by omega) b14 bq (by decide) (fun T1 G1 => ?_)
  refine zg_times 33 p 15 (e := 450) (f := 450) G1 (by decide) (by omega) (by decide) (by omega) (by decide) (by rw [zj_out (by omega)]; exact bp) (by rw [zj_out (by decide)]; exact b15) (by decide) (fun T2 G2 => ?_)
  rw [zj_out (show p ≠ 32 by omega), zj_out (show (15 : Nat) ≠ 32 by decide)] at G2
  refine zr_rcompare (a := 32) (b := 33) (X := w 14 * w q) (Y := w p * w 15) (by decide) (by decide) ?_ ?_ (k T2 _ G2 (fun d hd => by rw [zj_out (by omega), zj_out (by omega)]))
  · have := G2.2 32 (by decide)
    rwa [zj_out (by decide), zj_in] at this
  · have := G2.2 33 (by decide)
    rwa [zj_in] at this
/-! less -/
noncomputable def zvL (c : Int) : Int32 := zif (c = 0) (-1) (zif (0 < c) 1 0)
theorem zk_less {O P0 P1 N T F1 F2 : zMem} {a : zAb} {post : Int32 → zMem → zMem → zMem → Prop} (hW : zWA a) (hC : zCA O P0 P1 N a) (k : ∀ T' F1' F2' : zMem, post (zvL (zcm a.1 a.2.2.1.1.toInt a.2.2.1.2 a.2.1 a.2.2.1.1.toInt a.2.2.1.2)) T' F1' F2') : zw_X5_less O P0 P1 T F1 F2 post := by
  have hLi := hW.2.2.1
  obtain ⟨l1, l2, l3⟩ := hW.2.2.1
  have l2' : a.2.2.1.2 ≤ 49 := by have l2 : a.2.2.1.2 ≤ 25 := l2; omega
  refine zk_tb hC.2.2 hLi hC.1 hW.1 (fun T1 r r' g0 g1 => ?_)
  refine zk_tb hC.2.2 hLi hC.2.1 hW.2.1 (fun T2 t t' f0 f1 => ?_)
  refine zk_cmp (s := a.1) (s' := a.2.1) (u := a.2.2.1.1.toInt) (u' := a.2.2.1.1.toInt) (v := a.2.2.1.2) (v' := a.2.2.1.2) ⟨g0, g1⟩ ⟨f0, f1⟩ hW.1 hW.2.1 l3 l2' l1 l3 l2' l1 (fun F' _ => ?_)
  unfold zvL at k
  generalize zcm a.1 a.2.2.1.1.toInt a.2.2.1.2 a.2.1 a.2.2.1.1.toInt a.2.2.1.2 = D at *
  refine And.intro (fun c => And.intro (fun d => ?_) (fun d => ?_)) (fun c => ?_)
  · have h0 : ¬ D = 0 := fun q => c (zsg_0.mpr q)
    have h1 : 0 < D := by
      rcases Int.lt_trichotomy D 0 with q | q | q
      · rw [zsg_neg q] at d; exact absurd d (by decide)
      · exact absurd q h0
      · exact q
    rw [zif_f h0, zif_t h1] at k; exact k _ _ _
  · have h0 : ¬ D = 0 := fun q => c (zsg_0.mpr q)
    have h1 : ¬ 0 < D := fun q => d (by rw [zsg_pos q]; decide)
    rw [zif_f h0, zif_f h1] at k; exact k _ _ _
  · rw [zif_t (zsg_0.mp c)] at k; exact k _ _ _
theorem zf_less {M : zMem} {a : zAb} {post : Int32 → zMem → Prop} (hW : zWA a) (h : zRA M a) (k : ∀ M' : zMem, zRA M' a → post (zvL (zcm a.1 a.2.2.1.1.toInt a.2.2.1.2 a.2.1 a.2.2.1.1.toInt a.2.2.1.2)) M') : zw_X6_less M post := by
  have h1 : zRA (zset M 0 (fun _ => 0)) a := zRA_0 h
  obtain ⟨w, hG⟩ := zRA_g h1
  obtain ⟨l1, l2, l3⟩ := hW.2.2.1
  have l2' : a.2.2.1.2 ≤ 49 := by have l2 : a.2.2.1.2 ≤ 25 := l2; omega
  obtain ⟨m9, m10⟩ := zl_light h1 hG
  have m9 : M 9 0 = a.2.2.1.1 := m9
  have m10 : M 10 0 = nI a.2.2.1.2 := m10
  have bb : ∀ (g : Int) (s : zStk), zWs s → g.natAbs ≤ 1 → (zBk g s a.2.2.1.1.toInt a.2.2.1.2).natAbs < 2 ^ 450 := fun g s hs hg => zBk_l hs l3 l2' l1 hg
  unfold zw_X6_less
  rw [m9, m10]
  refine zf_bo (st := 0) hW h1 hG (Or.inl rfl) rfl (nI_toInt (by omega)) l3 l2' l1 (fun T1 w1 G1 e14 e15 _ => ?_)
  have e14 : w1 14 = zBk (-1) a.1 a.2.2.1.1.toInt a.2.2.1.2 := e14
  have e15 : w1 15 = zBk 1 a.1 a.2.2.1.1.toInt a.2.2.1.2 := e15
  refine zg_copy 24 14 G1 (by decide) (by decide) (fun T2 G2 => ?_)
  refine zg_copy 25 15 G2 (by decide) (by decide) (fun T3 G3 => ?_)
  obtain ⟨n9, n10⟩ := zl_light h1 G3
  rw [n9, n10]
  refine zf_bo (st := 1) hW h1 G3 (Or.inr rfl) rfl (nI_toInt (by omega)) l3 l2' l1 (fun T4 w4 G4 f14 f15 kp => ?_)
  have f14 : w4 14 = zBk (-1) a.2.1 a.2.2.1.1.toInt a.2.2.1.2 := f14
  have f15 : w4 15 = zBk 1 a.2.1 a.2.2.1.1.toInt a.2.2.1.2 := f15
  have f24 : w4 24 = zBk (-1) a.1 a.2.2.1.1.toInt a.2.2.1.2 := by rw [kp 24 (by decide)]; exact e14
  have f25 : w4 25 = zBk 1 a.1 a.2.2.1.1.toInt a.2.2.1.2 := by rw [kp 25 (by decide)]; exact e15
  refine zg_against 24 25 G4 (by decide) (by decide) (by rw [f14]; exact bb _ _ hW.2.1 (by decide)) (by rw [f15]; exact bb _ _ hW.2.1 (by decide)) (by rw [f24]; exact bb _ _ hW.1 (by decide)) (by rw [f25]; exact bb _ _ hW.1 (by decide)) (fun T5 w5 G5 _ => ?_)
  rw [f14, f15, f24, f25]
  have hk := k T5 (zRA_G h1 G5)
  have eD : zBk (-1) a.2.1 a.2.2.1.1.toInt a.2.2.1.2 * zBk 1 a.1 a.2.2.1.1.toInt a.2.2.1.2 - zBk (-1) a.1 a.2.2.1.1.toInt a.2.2.1.2 * zBk 1 a.2.1 a.2.2.1.1.toInt a.2.2.1.2 = -(zcm a.1 a.2.2.1.1.toInt a.2.2.1.2 a.2.1 a.2.2.1.1.toInt a.2.2.1.2) := by unfold zcm; omega
  rw [eD]
  unfold zvL at hk
  generalize zcm a.1 a.2.2.1.1.toInt a.2.2.1.2 a.2.1 a.2.2.1.1.toInt a.2.2.1.2 = D at *
  refine And.intro (fun c => And.intro (fun d => ?_) (fun d => ?_)) (fun c => ?_)
  · have h0 : D = 0 := by
      rcases Int.lt_trichotomy D 0 with q | q | q
      · rw [zsg_pos (by omega)] at d; exact absurd d (by decide)
      · exact q
      · rw [zsg_neg (by omega)] at c; exact absurd c (by decide)
    rw [zif_t h0] at hk; exact hk
  · have h1 : D < 0 := by
      rcases Int.lt_trichotomy D 0 with q | q | q
      · exact q
      · rw [zsg_zero (by omega)] at d; exact absurd (by decide) d
      · rw [zsg_neg (by omega)] at c; exact absurd c (by decide)
    rw [zif_f (by omega), zif_f (by omega)] at hk; exact hk
  · have h1 : 0 < D := by
      rcases Int.lt_trichotomy D 0 with q | q | q
      · rw [zsg_pos (by omega)] at c; exact absurd (by decide) c
      · rw [zsg_zero (by omega)] at c; exact absurd (by decide) c
      · exact q
    rw [zif_f (by omega), zif_t h1] at hk; exact hk
/-! share -/
def zokSh (wh kk : Int32) : Prop := (0 ≤ wh.toInt ∧ wh.toInt ≤ 3) ∧ zPt kk
def zPa (a : zAb) : Int × Int × Int × Int × Int := zPs a.2.2.2.2.2.1 a.2.2.2.2.2.2.1 a.2.2.2.2.2.2.2.1 a.2.2.2.2.2.2.2.2 a.2.2.2.2.1
noncomputable def zoSh (a : zAb) (wh be kk : Int32) : Int32 × Int32 := zif (zokSh wh kk) (0, ztd (zsel (zPa a) (zNt wh)).natAbs (zPa a).2.2.1.natAbs be (zNt kk)) (1, 0)
theorem zoSh_1 {a : zAb} {wh be kk : Int32} (h : ¬ zokSh wh kk) : zoSh a wh be kk = (1, 0) := zif_f h
theorem zoSh_0 {a : zAb} {wh be kk : Int32} (h : zokSh wh kk) : zoSh a wh be kk = (0, ztd (zsel (zPa a) (zNt wh)).natAbs (zPa a).2.2.1.natAbs be (zNt kk)) := zif_t h
theorem zk_share {O P0 P1 N F0 : zMem} {out : zRowL} {a : zAb} {wh be kk : Int32} {post : Int32 → zMem → zMem → zRowL → Prop} (hW : zWA a) (hC : zCA O P0 P1 N a) (k : ∀ (N' F' : zMem) (out' : zRowL), ((zoSh a wh be kk).1 = 0 → out' 0 = Int32.toInt64 (zoSh a wh be kk).2) → zCA O P0 P1 N' a → post (zoSh a wh be kk).1 N' F' out') : zw_L_share O N F0 out wh be kk post := by
  have fail : ¬ zokSh wh kk → post 1 N F0 out := fun h1 => by
    rw [zoSh_1 h1] at k; exact k N F0 out (fun q => absurd (show (1 : Int32) = 0 from q) (by decide)) hC
  obtain ⟨i1, i2⟩ := zPn_b hW
  obtain ⟨hl1, hl2, h7, h8⟩ := hC.2.2
  refine And.intro (fun d => fail (fun q => by have := zi_lt zn_0 d; have := q.1; omega)) (fun d1 => And.intro (fun d2 => zr_needPart (fun hk => ?_) (fun hk => fail (fun q => hk q.2))) (fun d => fail (fun q => by have := zi_nle zc_3 d; have := q.1; omega)))
  have hok : zokSh wh kk := ⟨⟨zi_nlt zn_0 d1, zi_le zc_3 d2⟩, hk⟩
  rw [zoSh_0 hok] at k
  obtain ⟨ew, hw⟩ := zt_n (n := 3) hok.1.1 hok.1.2
  obtain ⟨s1, s2⟩ := zsel_b i1 (zNt wh)
  have p1 : (2 : Nat) ^ 216 < 2 ^ 450 := by decide
  have i0 := i1.1
  have A := zr_ptell (F := F0) (w := zNt wh) (post := (fun (T_3 : zMem) (T_4 : zMem) => zw_X0_toLowestTerms T_4 (fun (T_5 : zMem) => zw_X0_part T_5 be kk (fun (v_6 : Int32) => (fun (v_3 : Int32) (T_1 : zMem) (T_2 : zMem) => ∀ r_4 : zRowL, r_4 = (vp_updL out (Int32.toNatClampNeg (0 : Int32)) (Int32.toInt64 v_3)) → (post (0 : Int32) T_1 T_2 r_4)) v_6 T_3 T_5)))) (by omega) h8 i1 i2 (fun N' r r' hN' e6 g0 g1 => ?_)
  · rwa [← ew] at A
  · refine zk_told (post := fun v T5 => (fun (v_3 : Int32) (T_1 : zMem) (T_2 : zMem) => ∀ r_4 : zRowL, r_4 = (vp_updL out (Int32.toNatClampNeg (0 : Int32)) (Int32.toInt64 v_3)) → (post (0 : Int32) T_1 T_2 r_4)) v N' T5) (U := (zsel (zPa a) (zNt wh)).natAbs) (V := (zPa a).2.2.1.natAbs) ?_ ?_ ?_ ?_ ?_ hk (fun F' => ?_)
    · exact zL_nat g0 s1
    · exact zL_nat g1 (Int.le_of_lt i0)
    · have s1 : 0 ≤ zsel (zPa a) (zNt wh) := s1
      have s2 : zsel (zPa a) (zNt wh) ≤ (zPa a).2.2.1 := s2
      have i2 : (zPa a).2.2.1.natAbs ≤ 2 ^ 216 := i2
      omega
    · exact Nat.lt_of_le_of_lt i2 p1
    · have i0 : 0 < (zPa a).2.2.1 := i0
      omega
    · intro z er
      refine k N' F' z (fun _ => ?_) ⟨hC.1, hC.2.1, hl1, hl2, by rw [e6]; exact h7, hN'⟩
      rw [er, show (0 : Int32).toNatClampNeg = 0 from rfl, pk_uLs]
theorem zq_told {w : Nat → Int} {p q : Nat} {X W : Int} {be : Int32} {k : Nat} (h : zQp w p q X W) (hX : 0 ≤ X) (hW : 0 < W) : ∃ Y : Nat, w q = Y ∧ 0 < Y ∧ Y < 2 ^ 450 ∧ (w p).natAbs < 2 ^ 450 ∧ ztd (w p).natAbs Y be k = ztd X.natAbs W.natAbs be k := by
  obtain ⟨h1, h2, h3, h4, h5⟩ := h
  have p1 : (2 : Nat) ^ 216 < 2 ^ 450 := by decide
  refine ⟨(w q).natAbs, by omega, by omega, by omega, by omega, ztd_same (by omega) (by omega) ?_⟩
  have e1 : (((w p).natAbs * W.natAbs : Nat) : Int) = w p * W := by rw [Int.natCast_mul, Int.natAbs_of_nonneg h2, Int.natAbs_of_nonneg (by omega)]
  have e2 : ((X.natAbs * (w q).natAbs : Nat) : Int) = X * w q := by rw [Int.natCast_mul, Int.natAbs_of_nonneg hX, Int.natAbs_of_nonneg (by omega)]
  have : (((w p).natAbs * W.natAbs : Nat) : Int) = ((X.natAbs * (w q).natAbs : Nat) : Int) := by rw [e1, e2, h3]
  exact_mod_cast this
