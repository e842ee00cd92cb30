/-! extreme, on both sides -/
theorem zk_tbu {T F P : zMem} {s : zStk} {uv : Int32} {u : Int} {v : Nat} {post : zMem → zMem → Prop} (hP : zCp P s) (hs : zWs s) (hu : u.natAbs ≤ v) (hv : v ≤ 49) (hv1 : 1 ≤ v) (huv : uv.toInt = u) (k : ∀ T' F' : zMem, zFh F' s u v → post T' F') : zw_X4_tellBack T F P uv (nI v) post :=
  zr_tellBack hu hv hv1 huv hP hs.1 hs.2 (fun T' r r' g0 g1 => k T' _ ⟨g0, g1⟩)
theorem zFh_like {F O : zMem} {s : zStk} {u : Int} {v : Nat} {post : zMem → Prop} (h : zFh O s u v) (k : ∀ F' : zMem, zFh F' s u v → post F') : zw_X0_becomeLike F O post :=
  zr_becomeLikeF h.1 h.2 (fun r r' g0 g1 => k _ ⟨g0, g1⟩)
theorem zsg_c (D : Int) : (zsg D ≤ 0 ↔ D ≤ 0) ∧ (0 ≤ zsg D ↔ 0 ≤ D) ∧ (0 < zsg D ↔ 0 < D) ∧ (zsg D < 0 ↔ D < 0) := by
  rcases Int.lt_trichotomy D 0 with q | q | q
  · rw [zsg_neg q]
    exact ⟨⟨fun _ => by omega, fun _ => by decide⟩, ⟨fun h => absurd h (by decide), fun h => absurd h (by omega)⟩, ⟨fun h => absurd h (by decide), fun h => absurd h (by omega)⟩, ⟨fun _ => q, fun _ => by decide⟩⟩
  · rw [zsg_zero q]
    exact ⟨⟨fun _ => by omega, fun _ => by decide⟩, ⟨fun _ => by omega, fun _ => by decide⟩, ⟨fun h => absurd h (by decide), fun h => absurd h (by omega)⟩, ⟨fun h => absurd h (by decide), fun h => absurd h (by omega)⟩⟩
  · rw [zsg_pos q]
    exact ⟨⟨fun h => absurd h (by decide), fun h => absurd h (by omega)⟩, ⟨fun _ => by omega, fun _ => by decide⟩, ⟨fun _ => q, fun _ => by decide⟩, ⟨fun h => absurd h (by decide), fun h => absurd h (by omega)⟩⟩
noncomputable def zoX (a : zAb) (st v le : Int32) : Int32 × Int32 := zif (zSt st) (zif (zLB v) (0, Int32.ofInt (zbs le (zgt a (zNt st)) (zNt v) (zNt v))) (2, 0)) (1, 0)
theorem zoX_1 {a : zAb} {st v le : Int32} (h : ¬ zSt st) : zoX a st v le = (1, 0) := zif_f h
theorem zoX_2 {a : zAb} {st v le : Int32} (h : zSt st) (g : ¬ zLB v) : zoX a st v le = (2, 0) := (zif_t h).trans (zif_f g)
theorem zoX_0 {a : zAb} {st v le : Int32} (h : zSt st) (g : zLB v) : zoX a st v le = (0, Int32.ofInt (zbs le (zgt a (zNt st)) (zNt v) (zNt v))) := (zif_t h).trans (zif_t g)
theorem zLB_n {v : Int32} (h : zLB v) : v.toInt = (zNt v : Int) ∧ 1 ≤ zNt v ∧ zNt v ≤ 25 ∧ v = nI (zNt v) ∧ (-v).toInt = -(zNt v : Int) := by
  have h1 := h.1
  have h2 := h.2
  have hV : v.toInt = (zNt v : Int) := by unfold zNt; omega
  exact ⟨hV, by omega, by omega, zn_ofI hV, zn_neg hV (by omega)⟩
theorem zbs_st {le : Int32} {s : zStk} {v i : Nat} (q : ¬ zbt le s v (-(v : Int) + ((i : Int) + 1)) (zbs le s v i)) : zbs le s v (i + 1) = zbs le s v i := by rw [zbs, zif_f q]
theorem zbs_go {le : Int32} {s : zStk} {v i : Nat} (q : zbt le s v (-(v : Int) + ((i : Int) + 1)) (zbs le s v i)) : zbs le s v (i + 1) = -(v : Int) + ((i : Int) + 1) := by rw [zbs, zif_t q]
theorem zk_ext36 {O P0 P1 : zMem} {s : zStk} {le : Int32} {v : Nat} {K : Int32 → zMem → zMem → zMem → Prop} (hP : zCp P0 s) (hs : zWs s) (hv : v ≤ 25) (hv1 : 1 ≤ v) (hK : ∀ (b : Int32) (T F1 F2 : zMem), b.toInt = zbs le s v v → K b T F1 F2) : ∀ (d i : Nat) (b p : Int32) (T F1 F2 : zMem), i + d = v → b.toInt = zbs le s v i → p.toInt = -(v : Int) + ((i : Int) + 1) → zFh F1 s (zbs le s v i) v → zw_X5_extreme_36 O P0 P1 (nI v) le K (d + 1) b p T F1 F2 := by
  intro d
  induction d with
  | zero =>
    intro i b p T F1 F2 hi hb hp hF
    have e : i = v := by omega
    subst e
    exact And.intro (fun _ => hK b T F1 F2 hb) (fun c => absurd (zn_lt.mpr (by rw [zn_0, hp]; omega)) c)
  | succ d ih =>
    intro i b p T F1 F2 hi hb hp hF
    obtain ⟨r1, r2⟩ := zbs_r (le := le) (s := s) (v := v) i
    refine And.intro (fun c => absurd (zn_lt.mp c) (by rw [zn_0, hp]; omega)) (fun _ => ?_)
    refine zk_tbu (u := -(v : Int) + ((i : Int) + 1)) hP hs (by omega) (by omega) hv1 hp (fun T' F2' hF2 => ?_)
    refine zk_cmp hF2 hF hs hs (by omega) (by omega) hv1 (by omega) (by omega) hv1 (fun F3 hF3 => ?_)
    obtain ⟨z1, z2, z3, z4⟩ := zsg_c (zcm s (-(v : Int) + ((i : Int) + 1)) v s (zbs le s v i) v)
    have hp' : (p + 1).toInt = -(v : Int) + (((i + 1 : Nat) : Int) + 1) := by rw [zn_add hp zn_1 (by omega) (by omega)]; omega
    refine And.intro (fun c0 => And.intro (fun c x ex => ?_) (fun c => ?_)) (fun c0 => And.intro (fun c x ex => ?_) (fun c => ?_))
    · rw [ex]
      have e := zbs_st (le := le) (s := s) (v := v) (i := i) (fun q => by
        have c' := z1.mp c
        rcases q with ⟨-, q⟩ | ⟨q, -⟩
        · omega
        · exact q c0)
      exact ih (i + 1) b (p + 1) T' F1 F3 (by omega) (by rw [e]; exact hb) hp' (by rw [e]; exact hF)
    · have c' := mt z1.mpr c
      have e := zbs_go (le := le) (s := s) (v := v) (i := i) (Or.inl ⟨c0, by omega⟩)
      refine zFh_like hF3 (fun F1' hF1' x ex => ?_)
      rw [ex]
      exact ih (i + 1) p (p + 1) T' F1' F3 (by omega) (by rw [e]; exact hp) hp' (by rw [e]; exact hF1')
    · rw [ex]
      have e := zbs_st (le := le) (s := s) (v := v) (i := i) (fun q => by
        have c' := z2.mp c
        rcases q with ⟨q, -⟩ | ⟨-, q⟩
        · exact c0 q
        · omega)
      exact ih (i + 1) b (p + 1) T' F1 F3 (by omega) (by rw [e]; exact hb) hp' (by rw [e]; exact hF)
    · have c' := mt z2.mpr c
      have e := zbs_go (le := le) (s := s) (v := v) (i := i) (Or.inr ⟨c0, by omega⟩)
      refine zFh_like hF3 (fun F1' hF1' x ex => ?_)
      rw [ex]
      exact ih (i + 1) p (p + 1) T' F1' F3 (by omega) (by rw [e]; exact hp) hp' (by rw [e]; exact hF1')
theorem zk_ext36_2 {O P0 P1 : zMem} {s : zStk} {le : Int32} {v : Nat} {K : Int32 → zMem → zMem → zMem → Prop} (hP : zCp P1 s) (hs : zWs s) (hv : v ≤ 25) (hv1 : 1 ≤ v) (hK : ∀ (b : Int32) (T F1 F2 : zMem), b.toInt = zbs le s v v → K b T F1 F2) : ∀ (d i : Nat) (b p : Int32) (T F1 F2 : zMem), i + d = v → b.toInt = zbs le s v i → p.toInt = -(v : Int) + ((i : Int) + 1) → zFh F1 s (zbs le s v i) v → zw_X5_extreme_36_2 O P0 P1 (nI v) le K (d + 1) b p T F1 F2 := by
  intro d
  induction d with
  | zero =>
    intro i b p T F1 F2 hi hb hp hF
    have e : i = v := by omega
    subst e
    exact And.intro (fun _ => hK b T F1 F2 hb) (fun c => absurd (zn_lt.mpr (by rw [zn_0, hp]; omega)) c)
  | succ d ih =>
    intro i b p T F1 F2 hi hb hp hF
    obtain ⟨r1, r2⟩ := zbs_r (le := le) (s := s) (v := v) i
    refine And.intro (fun c => absurd (zn_lt.mp c) (by rw [zn_0, hp]; omega)) (fun _ => ?_)
    refine zk_tbu (u := -(v : Int) + ((i : Int) + 1)) hP hs (by omega) (by omega) hv1 hp (fun T' F2' hF2 => ?_)
    refine zk_cmp hF2 hF hs hs (by omega) (by omega) hv1 (by omega) (by omega) hv1 (fun F3 hF3 => ?_)
    obtain ⟨z1, z2, z3, z4⟩ := zsg_c (zcm s (-(v : Int) + ((i : Int) + 1)) v s (zbs le s v i) v)
    have hp' : (p + 1).toInt = -(v : Int) + (((i + 1 : Nat) : Int) + 1) := by rw [zn_add hp zn_1 (by omega) (by omega)]; omega
    refine And.intro (fun c0 => And.intro (fun c x ex => ?_) (fun c => ?_)) (fun c0 => And.intro (fun c x ex => ?_) (fun c => ?_))
    · rw [ex]
      have e := zbs_st (le := le) (s := s) (v := v) (i := i) (fun q => by
        have c' := z1.mp c
        rcases q with ⟨-, q⟩ | ⟨q, -⟩
        · omega
        · exact q c0)
      exact ih (i + 1) b (p + 1) T' F1 F3 (by omega) (by rw [e]; exact hb) hp' (by rw [e]; exact hF)
    · have c' := mt z1.mpr c
      have e := zbs_go (le := le) (s := s) (v := v) (i := i) (Or.inl ⟨c0, by omega⟩)
      refine zFh_like hF3 (fun F1' hF1' x ex => ?_)
      rw [ex]
      exact ih (i + 1) p (p + 1) T' F1' F3 (by omega) (by rw [e]; exact hp) hp' (by rw [e]; exact hF1')
    · rw [ex]
      have e := zbs_st (le := le) (s := s) (v := v) (i := i) (fun q => by
        have c' := z2.mp c
        rcases q with ⟨q, -⟩ | ⟨-, q⟩
        · exact c0 q
        · omega)
      exact ih (i + 1) b (p + 1) T' F1 F3 (by omega) (by rw [e]; exact hb) hp' (by rw [e]; exact hF)
    · have c' := mt z2.mpr c
      have e := zbs_go (le := le) (s := s) (v := v) (i := i) (Or.inr ⟨c0, by omega⟩)
      refine zFh_like hF3 (fun F1' hF1' x ex => ?_)
      rw [ex]
      exact ih (i + 1) p (p + 1) T' F1' F3 (by omega) (by rw [e]; exact hp) hp' (by rw [e]; exact hF1')
theorem zk_extreme {O P0 P1 N T F1 F2 : zMem} {out : zRowL} {a : zAb} {st v le : Int32} {post : Int32 → zMem → zMem → zMem → zRowL → Prop} (hW : zWA a) (hC : zCA O P0 P1 N a) (k : ∀ (T' F1' F2' : zMem) (out' : zRowL), ((zoX a st v le).1 = 0 → out' 0 = Int32.toInt64 (zoX a st v le).2) → post (zoX a st v le).1 T' F1' F2' out') : zw_L_extreme O P0 P1 T F1 F2 out st v le post := by
  have fail : zSt st → ¬ zLB v → post 2 T F1 F2 out := fun h1 h2 => by
    rw [zoX_2 h1 h2] at k; exact k T F1 F2 out (fun q => absurd (show (2 : Int32) = 0 from q) (by decide))
  have fin : zSt st → zLB v → ∀ (b : Int32) (T' F1' F2' : zMem) (r : zRowL), b.toInt = zbs le (zgt a (zNt st)) (zNt v) (zNt v) → r = vp_updL out (Int32.toNatClampNeg (0 : Int32)) (Int32.toInt64 b) → post 0 T' F1' F2' r := fun h1 h2 b T' F1' F2' r hb er => by
    rw [zoX_0 h1 h2] at k
    refine k T' F1' F2' r (fun _ => ?_)
    rw [er, show (0 : Int32).toNatClampNeg = 0 from rfl, pk_uLs]
    show Int32.toInt64 b = Int32.toInt64 (Int32.ofInt (zbs le (zgt a (zNt st)) (zNt v) (zNt v)))
    rw [← hb, Int32.ofInt_toInt]
  refine zr_pileAt (O := O) (fun c => zr_needLB (fun hl => ?_) (fun hl => fail (Or.inl c) hl)) (fun c => zr_needLB (fun hl => ?_) (fun hl => fail (Or.inr c) hl)) (fun c1 c2 => ?_)
  · intro x5 e5
    have e0 : zNt st = 0 := by rw [c]; exact zNt_0
    rw [e0] at fin
    obtain ⟨hV, hv1, hv, ev, hn⟩ := zLB_n hl
    have A := zk_tbu (T := T) (F := F1) (uv := -v) (u := -(zNt v : Int)) (v := zNt v) (post := fun (T_2 : zMem) (T_3 : zMem) => ∀ x6_4 : Int32, x6_4 = ((1 : Int32) - v) → ((∃ kf, zw_X5_extreme_36 O P0 P1 v le (fun (x5_19 : Int32) (T_20 : zMem) (T_21 : zMem) (T_22 : zMem) => ∀ r_5 : zRowL, r_5 = (vp_updL out (Int32.toNatClampNeg (0 : Int32)) (Int32.toInt64 x5_19)) → (post (0 : Int32) T_20 T_21 T_22 r_5)) kf (-v) x6_4 T_2 T_3 F2))) hC.1 hW.1 (by omega) (by omega) hv1 hn (fun T' F' hF' x ex => ?_)
    · rw [← ev] at A
      rw [e5]; exact A
    · rw [ex]
      refine ⟨zNt v + 1, ?_⟩
      have B := zk_ext36 (O := O) (P0 := P0) (P1 := P1) (le := le) (v := zNt v) (K := (fun (x5_19 : Int32) (T_20 : zMem) (T_21 : zMem) (T_22 : zMem) => ∀ r_5 : zRowL, r_5 = (vp_updL out (Int32.toNatClampNeg (0 : Int32)) (Int32.toInt64 x5_19)) → (post (0 : Int32) T_20 T_21 T_22 r_5))) hC.1 hW.1 hv hv1 (fun b T5 F5 F6 hb r er => fin (Or.inl c) hl b T5 F5 F6 r hb er) (zNt v) 0 (-v) (1 - v) T' F' F2 (by omega) hn (by rw [zn_sub zn_1 hV (by omega) (by omega)]; omega) hF'
      rw [← ev] at B
      exact B
  · intro x5 e5
    have e0 : zNt st = 1 := by rw [c]; exact zNt_1
    rw [e0] at fin
    obtain ⟨hV, hv1, hv, ev, hn⟩ := zLB_n hl
    have A := zk_tbu (T := T) (F := F1) (uv := -v) (u := -(zNt v : Int)) (v := zNt v) (post := fun (T_2 : zMem) (T_3 : zMem) => ∀ x6_4 : Int32, x6_4 = ((1 : Int32) - v) → ((∃ kf, zw_X5_extreme_36_2 O P0 P1 v le (fun (x5_19 : Int32) (T_20 : zMem) (T_21 : zMem) (T_22 : zMem) => ∀ r_5 : zRowL, r_5 = (vp_updL out (Int32.toNatClampNeg (0 : Int32)) (Int32.toInt64 x5_19)) → (post (0 : Int32) T_20 T_21 T_22 r_5)) kf (-v) x6_4 T_2 T_3 F2))) hC.2.1 hW.2.1 (by omega) (by omega) hv1 hn (fun T' F' hF' x ex => ?_)
    · rw [← ev] at A
      rw [e5]; exact A
    · rw [ex]
      refine ⟨zNt v + 1, ?_⟩
      have B := zk_ext36_2 (O := O) (P0 := P0) (P1 := P1) (le := le) (v := zNt v) (K := (fun (x5_19 : Int32) (T_20 : zMem) (T_21 : zMem) (T_22 : zMem) => ∀ r_5 : zRowL, r_5 = (vp_updL out (Int32.toNatClampNeg (0 : Int32)) (Int32.toInt64 x5_19)) → (post (0 : Int32) T_20 T_21 T_22 r_5))) hC.2.1 hW.2.1 hv hv1 (fun b T5 F5 F6 hb r er => fin (Or.inr c) hl b T5 F5 F6 r hb er) (zNt v) 0 (-v) (1 - v) T' F' F2 (by omega) hn (by rw [zn_sub zn_1 hV (by omega) (by omega)]; omega) hF'
      rw [← ev] at B
      exact B
  · rw [zoX_1 (zSt_no c1 c2)] at k; exact k T F1 F2 out (fun q => absurd (show (1 : Int32) = 0 from q) (by decide))
theorem zf_ext {M0 : zMem} {a : zAb} {st V le : Int32} {v : Nat} {K : Int32 → zMem → Prop} (hW : zWA a) (hR : zRA M0 a) (hst : zSt st) (hV : V.toInt = v) (hv : v ≤ 25) (hv1 : 1 ≤ v) (hK : ∀ (b : Int32) (T : zMem) (w : Nat → Int), b.toInt = zbs le (zgt a (zNt st)) v (2 * v) → zG M0 T w → K b T) : ∀ (d i : Nat) (b p : Int32) (M : zMem) (w : Nat → Int), i + d = 2 * v → b.toInt = zbs le (zgt a (zNt st)) v i → p.toInt = -(v : Int) + ((i : Int) + 1) → zG M0 M w → w 16 = zBk (-1) (zgt a (zNt st)) (zbs le (zgt a (zNt st)) v i) v → w 17 = zBk 1 (zgt a (zNt st)) (zbs le (zgt a (zNt st)) v i) v → zw_X6_extreme_42 st V le K (d + 1) b p M := by
  have hs := zWA_s (s := zNt st) hW
  have hn : (-V).toInt = -(v : Int) := zn_neg hV (by omega)
  intro d
  induction d with
  | zero =>
    intro i b p M w hi hb hp hG h16 h17
    have e : i = 2 * v := by omega
    subst e
    exact And.intro (fun _ => hK b M w hb hG) (fun c => absurd (zn_lt.mpr (by rw [hV, hp]; omega)) c)
  | succ d ih =>
    intro i b p M w hi hb hp hG h16 h17
    obtain ⟨r1, r2⟩ := zbs_r (le := le) (s := zgt a (zNt st)) (v := v) i
    refine And.intro (fun c => absurd (zn_lt.mp c) (by rw [hV, hp]; omega)) (fun _ => ?_)
    refine zf_bo hW hR hG hst hp hV (by omega) (by omega) hv1 (fun T w' G' e14 e15 kp => ?_)
    have e16 := (kp 16 (by decide)).trans h16
    have e17 := (kp 17 (by decide)).trans h17
    have hb2 : ∀ (g u : Int), g.natAbs ≤ 1 → u.natAbs ≤ v → (zBk g (zgt a (zNt st)) u v).natAbs < 2 ^ 450 := fun g u hg hu => zBk_l hs hu (by omega) hv1 hg
    obtain ⟨z1, z2, z3, z4⟩ := zsg_c (zcm (zgt a (zNt st)) (-(v : Int) + ((i : Int) + 1)) v (zgt a (zNt st)) (zbs le (zgt a (zNt st)) v i) v)
    have hp' : (p + 1).toInt = -(v : Int) + (((i + 1 : Nat) : Int) + 1) := by rw [zn_add hp zn_1 (by omega) (by omega)]; omega
    refine ⟨fun x T2 => x = zsg (zcm (zgt a (zNt st)) (-(v : Int) + ((i : Int) + 1)) v (zgt a (zNt st)) (zbs le (zgt a (zNt st)) v i) v) ∧ ∃ w2 : Nat → Int, zG M0 T2 w2 ∧ ∀ e : Nat, e < 32 → w2 e = w' e, ?_, And.intro (fun c => ?_) (fun c => absurd (congrArg Int32.toInt c) (by rw [hn, hp]; omega))⟩
    · rintro x T2 ⟨rfl, w2, G2, k2⟩
      have go : zbt le (zgt a (zNt st)) v (-(v : Int) + ((i : Int) + 1)) (zbs le (zgt a (zNt st)) v i) → zw_X6_copy T2 (16 : Int32) (14 : Int32) (fun (T_22 : zMem) => zw_X6_copy T_22 (17 : Int32) (15 : Int32) (fun (T_23 : zMem) => ∀ x5_24 : Int32, x5_24 = p + (1 : Int32) → ((zw_X6_extreme_42 st V le K (d + 1) p x5_24 T_23)))) := fun q => by
        have e := zbs_go q
        refine zg_copy 16 14 G2 (by decide) (by decide) (fun T3 G3 => ?_)
        refine zg_copy 17 15 G3 (by decide) (by decide) (fun T4 G4 y ey => ?_)
        rw [ey]
        refine ih (i + 1) p (p + 1) T4 _ (by omega) (by rw [e]; exact hp) hp' G4 ?_ ?_
        · rw [e]; exact (k2 14 (by decide)).trans e14
        · rw [e]; exact (k2 15 (by decide)).trans e15
      have stay : ¬ zbt le (zgt a (zNt st)) v (-(v : Int) + ((i : Int) + 1)) (zbs le (zgt a (zNt st)) v i) → zw_X6_extreme_42 st V le K (d + 1) b (p + 1) T2 := fun q => by
        have e := zbs_st q
        refine ih (i + 1) b (p + 1) T2 w2 (by omega) (by rw [e]; exact hb) hp' G2 ?_ ?_
        · rw [e]; exact (k2 16 (by decide)).trans e16
        · rw [e]; exact (k2 17 (by decide)).trans e17
      refine And.intro (fun c => absurd (zn_le.mp c) (by rw [hn, hp]; omega)) (fun _ => And.intro (fun c0 => And.intro (fun c => ?_) (fun c y ey => ?_)) (fun c0 => And.intro (fun c => ?_) (fun c y ey => ?_)))
      · exact go (Or.inl ⟨c0, z3.mp c⟩)
      · rw [ey]
        refine stay (fun q => ?_)
        rcases q with ⟨-, q⟩ | ⟨q, -⟩
        · exact c (z3.mpr q)
        · exact q c0
      · exact go (Or.inr ⟨c0, z4.mp c⟩)
      · rw [ey]
        refine stay (fun q => ?_)
        rcases q with ⟨q, -⟩ | ⟨-, q⟩
        · exact c0 q
        · exact c (z4.mpr q)
    · refine zg_against 16 17 G' (by decide) (by decide) (by rw [e14]; exact hb2 _ _ (by decide) (by omega)) (by rw [e15]; exact hb2 _ _ (by decide) (by omega)) (by rw [e16]; exact hb2 _ _ (by decide) (by omega)) (by rw [e17]; exact hb2 _ _ (by decide) (by omega)) (fun M' w2 G2 k2 => ⟨?_, w2, G2, k2⟩)
      unfold zcm
      rw [e14, e15, e16, e17]
theorem zf_extreme {M : zMem} {a : zAb} {st v le : Int32} {post : Int32 → zMem → Prop} (hW : zWA a) (h : zRA M a) (k : ∀ M' : zMem, M' 0 0 = (zoX a st v le).1 → zRA M' a → post (zoX a st v le).2 M') : zw_X6_extreme M st v le post := by
  refine zr_isStack (fun hst => ?_) (fun c1 c2 => ?_)
  · have h1 : zRA (zset M 0 (fun _ => 0)) a := zRA_0 h
    have hst : zSt st := hst
    refine And.intro (fun q => absurd q (by decide)) (fun _ => ?_)
    have bad : ¬ zLB v → post 0 (zset (zset M 0 (fun _ => 0)) 0 (fun _ => 2)) := fun q => by
      rw [zoX_2 hst q] at k
      exact k _ rfl (zRA_0 h1)
    refine And.intro (fun d => zr_right0 rfl (by decide) (And.intro (fun q => absurd rfl q) (fun _ => bad (fun q => by have := zi_lt zc_1 d; have := q.1; omega)))) (fun d1 => ?_)
    by_cases hlt : (25 : Int32) < v
    · refine ⟨fun x => x = 0, ?_, And.intro (fun _ => rfl) (fun q => absurd hlt q)⟩
      rintro x rfl
      exact zr_right0 rfl (by decide) (And.intro (fun q => absurd rfl q) (fun _ => bad (fun q => by have := zi_gt zc_25 hlt; have := q.2; omega)))
    · refine ⟨fun x => x = 1, ?_, And.intro (fun q => absurd q hlt) (fun _ => rfl)⟩
      rintro x rfl
      have hok : zLB v := ⟨zi_nlt zc_1 d1, zi_ngt zc_25 hlt⟩
      rw [zoX_0 hst hok] at k
      refine zr_right1 rfl (by decide) (And.intro (fun _ => ?_) (fun q => absurd q (by decide)))
      intro x4 ex4 x5 ex5
      rw [ex4, ex5]
      obtain ⟨w, hG⟩ := zRA_g h1
      have hs := zWA_s (s := zNt st) hW
      obtain ⟨hV, hv1, hv, ev, hn⟩ := zLB_n hok
      refine ⟨2 * zNt v + 1 + 1, ?_⟩
      refine And.intro (fun c => absurd (zn_lt.mp c) (by rw [hn, hV]; omega)) (fun _ => ?_)
      refine zf_bo hW h1 hG hst hn hV (by omega) (by omega) hv1 (fun T w' G' e14 e15 kp => ?_)
      refine ⟨fun x T2 => T2 = T, ?_, And.intro (fun c => absurd rfl c) (fun _ => rfl)⟩
      rintro x T2 rfl
      refine And.intro (fun _ => ?_) (fun c => absurd (zn_le.mpr (Int.le_refl _)) c)
      refine zg_copy 16 14 G' (by decide) (by decide) (fun T3 G3 => ?_)
      refine zg_copy 17 15 G3 (by decide) (by decide) (fun T4 G4 y ey => ?_)
      rw [ey]
      refine zf_ext (K := fun x T => post x T) hW h1 hst hV hv hv1 (fun b T5 w5 hb G5 => ?_) (2 * zNt v) 0 (-v) (-v + 1) T4 _ (by omega) hn (by rw [zn_add hn zn_1 (by omega) (by omega)]; omega) G4 e14 e15
      have e := zbs_half (le := le) hs (by omega) hv1 (zNt v) (Nat.le_refl _)
      rw [show 2 * zNt v = zNt v + zNt v from by omega, e] at hb
      have eb : b = Int32.ofInt (zbs le (zgt a (zNt st)) (zNt v) (zNt v)) := by rw [← hb, Int32.ofInt_toInt]
      rw [eb]
      exact k T5 (by rw [G5.1 0 (by decide) (by decide) (by decide)]; rfl) (zRA_G h1 G5)
  · rw [zoX_1 (zSt_no c1 c2)] at k
    exact And.intro (fun _ => k _ rfl (zRA_0 (zRA_0 h))) (fun q => absurd rfl q)
