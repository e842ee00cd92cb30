/-! drop -/
def zokD (n : Nat) (i : Int32) : Prop := 0 ≤ i.toInt ∧ i.toInt < n
noncomputable def zoD (a : zAb) (st i : Int32) : Int32 × Int32 × zAb :=
  zif (zSt st) (zif (zokD (zgt a (zNt st)).1 i) (0, nI ((zgt a (zNt st)).1 - 1), zup a (zNt st) (zsD (zgt a (zNt st)) (zNt i))) (2, 0, a)) (1, 0, a)
theorem zoD_1 {a : zAb} {st i : Int32} (h : ¬ zSt st) : zoD a st i = (1, 0, a) := zif_f h
theorem zoD_2 {a : zAb} {st i : Int32} (h : zSt st) (g : ¬ zokD (zgt a (zNt st)).1 i) : zoD a st i = (2, 0, a) := (zif_t h).trans (zif_f g)
theorem zoD_0 {a : zAb} {st i : Int32} (h : zSt st) (g : zokD (zgt a (zNt st)).1 i) : zoD a st i = (0, nI ((zgt a (zNt st)).1 - 1), zup a (zNt st) (zsD (zgt a (zNt st)) (zNt i))) := (zif_t h).trans (zif_t g)
theorem zokD_n {n : Nat} {i : Int32} (h : zokD n i) : i = nI (zNt i) ∧ zNt i < n := by
  obtain ⟨h1, h2⟩ := h
  unfold zNt
  exact ⟨zn_ofI (by omega), by omega⟩
theorem zWs_D {s : zStk} {i : Nat} (h : zWs s) (hi : i < s.1) : zWs (zsD s i) := by
  obtain ⟨⟨h1, h2⟩, h3⟩ := h
  refine ⟨⟨?_, fun j hj => ?_⟩, h3⟩
  · show s.1 - 1 ≤ 6
    omega
  · have hj : j < s.1 - 1 := hj
    show 1 ≤ zdel s.2.1 i j ∧ zdel s.2.1 i j ≤ 9 ∧ 1 ≤ zdel s.2.2.1 i j ∧ zdel s.2.2.1 i j ≤ 9 ∧ 1 ≤ zdel s.2.2.2.1 i j ∧ zdel s.2.2.2.1 i j ≤ 4
    unfold zdel
    by_cases q1 : j < i
    · rw [if_pos q1, if_pos q1, if_pos q1]; exact h2 j (by omega)
    · rw [if_neg q1, if_neg q1, if_neg q1]; exact h2 (j + 1) (by omega)
theorem zoD_W {a : zAb} {st i : Int32} (h : zWA a) : zWA (zoD a st i).2.2 := by
  by_cases h1 : zSt st
  · by_cases h2 : zokD (zgt a (zNt st)).1 i
    · rw [zoD_0 h1 h2]; exact zWA_up h (zWs_D (zWA_s h) (zokD_n h2).2)
    · rw [zoD_2 h1 h2]; exact h
  · rw [zoD_1 h1]; exact h
theorem zk_drop {O P0 P1 N : zMem} {out : zRowL} {a : zAb} {st i : Int32} {post : Int32 → zMem → zMem → zRowL → Prop} (hW : zWA a) (hC : zCA O P0 P1 N a) (k : ∀ (P0' P1' : zMem) (out' : zRowL), ((zoD a st i).1 = 0 → out' 0 = Int32.toInt64 (zoD a st i).2.1) → zCA O P0' P1' N (zoD a st i).2.2 → post (zoD a st i).1 P0' P1' out') : zw_L_drop O P0 P1 out st i post := by
  have fail : zSt st → ¬ zokD (zgt a (zNt st)).1 i → post 2 P0 P1 out := fun h1 h2 => by
    rw [zoD_2 h1 h2] at k; exact k P0 P1 out (fun q => absurd (show (2 : Int32) = 0 from q) (by decide)) hC
  refine zr_pileAt (O := O) (fun c => ?_) (fun c => ?_) (fun c1 c2 => ?_)
  · have hst : zSt st := Or.inl c
    have e0 : zNt st = 0 := by rw [c]; exact zNt_0
    have hs : zWs a.1 := hW.1
    have p5 : P0 5 0 = nI a.1.1 := hC.1.1
    have h6 := hs.1.1
    have hg : (zgt a (zNt st)).1 = a.1.1 := by rw [e0]; rfl
    rw [p5]
    refine And.intro (fun d => fail hst (fun q => by have := zi_lt zn_0 d; have := q.1; omega)) (fun d1 => And.intro (fun d2 => ?_) (fun d => fail hst (fun q => ?_)))
    · have hok : zokD (zgt a (zNt st)).1 i := by rw [hg]; exact ⟨zi_nlt zn_0 d1, zi_lt (nI_toInt (by omega)) d2⟩
      obtain ⟨ei, hi⟩ := zokD_n hok
      rw [hg] at hi
      rw [zoD_0 hst hok, e0] at k
      rw [ei]
      refine zr_remove hC.1 h6 hi (fun P' hP' => ?_)
      intro r er
      have e5 : P' 5 0 = nI (a.1.1 - 1) := hP'.1
      refine k P' P1 r (fun _ => ?_) (zCA_up0 hC hP')
      rw [er, show (0 : Int32).toNatClampNeg = 0 from rfl, pk_uLs, e5]; rfl
    · have d' := zi_nlt (nI_toInt (n := a.1.1) (by omega)) d
      have q2 := q.2
      rw [hg] at q2
      omega
  · have hst : zSt st := Or.inr c
    have e0 : zNt st = 1 := by rw [c]; exact zNt_1
    have hs : zWs a.2.1 := hW.2.1
    have p5 : P1 5 0 = nI a.2.1.1 := hC.2.1.1
    have h6 := hs.1.1
    have hg : (zgt a (zNt st)).1 = a.2.1.1 := by rw [e0]; rfl
    rw [p5]
    refine And.intro (fun d => fail hst (fun q => by have := zi_lt zn_0 d; have := q.1; omega)) (fun d1 => And.intro (fun d2 => ?_) (fun d => fail hst (fun q => ?_)))
    · have hok : zokD (zgt a (zNt st)).1 i := by rw [hg]; exact ⟨zi_nlt zn_0 d1, zi_lt (nI_toInt (by omega)) d2⟩
      obtain ⟨ei, hi⟩ := zokD_n hok
      rw [hg] at hi
      rw [zoD_0 hst hok, e0] at k
      rw [ei]
      refine zr_remove hC.2.1 h6 hi (fun P' hP' => ?_)
      intro r er
      have e5 : P' 5 0 = nI (a.2.1.1 - 1) := hP'.1
      refine k P0 P' r (fun _ => ?_) (zCA_up1 hC hP')
      rw [er, show (0 : Int32).toNatClampNeg = 0 from rfl, pk_uLs, e5]; rfl
    · have d' := zi_nlt (nI_toInt (n := a.2.1.1) (by omega)) d
      have q2 := q.2
      rw [hg] at q2
      omega
  · rw [zoD_1 (zSt_no c1 c2)] at k; exact k P0 P1 out (fun q => absurd (show (1 : Int32) = 0 from q) (by decide)) hC
theorem zdlO_del {f : zRow} {g : Nat → Nat} {i n b : Nat} (hf : ∀ j : Nat, j < n → f (b + j) = nI (g j)) (hi : i < n) : ∀ j : Nat, j < n - 1 → zdl f (b + i) (b + (n - 1)) (b + j) = nI (zdel g i j) := fun j hj => by
  unfold zdl zdel
  by_cases w : j < i
  · rw [if_neg (by omega), if_pos w]; exact hf j (by omega)
  · rw [if_pos (by omega), if_neg w, show b + j + 1 = b + (j + 1) from by omega]; exact hf (j + 1) (by omega)
theorem zr_drop_54 {M : zMem} {s i m : Nat} {K : zMem → Prop} (hs : s < 2) (hm : m < 6) (h5 : M 5 s = nI m) (hK : ∀ T : zMem, T 6 = zdl (M 6) (6 * s + i) (6 * s + m) → T 7 = zdl (M 7) (6 * s + i) (6 * s + m) → T 8 = zdl (M 8) (6 * s + i) (6 * s + m) → (∀ r : Nat, r ≠ 6 → r ≠ 7 → r ≠ 8 → T r = M r) → K T) : ∀ (d j : Nat) (M1 : zMem), j + d = m → i ≤ j → M1 6 = zdl (M 6) (6 * s + i) (6 * s + j) → M1 7 = zdl (M 7) (6 * s + i) (6 * s + j) → M1 8 = zdl (M 8) (6 * s + i) (6 * s + j) → (∀ r : Nat, r ≠ 6 → r ≠ 7 → r ≠ 8 → M1 r = M r) → zw_X6_drop_54 (nI s) K (d + 1) (nI (6 * s + j)) M1 := by
  have cs : (nI s).toNatClampNeg = s := nI_clamp (by omega)
  intro d
  induction d with
  | zero =>
    intro j M1 hj hij q6 q7 q8 qr
    have e : j = m := by omega
    subst e
    refine And.intro (vp_in_nI hs (by decide)) ?_
    rw [cs, qr 5 (by decide) (by decide) (by decide), h5, zn_ix6]
    exact And.intro (fun _ => hK M1 q6 q7 q8 qr) (fun c => absurd (nI_le (Nat.le_refl _) (by omega)) c)
  | succ d ih =>
    intro j M1 hj hij q6 q7 q8 qr
    refine And.intro (vp_in_nI hs (by decide)) ?_
    rw [cs, qr 5 (by decide) (by decide) (by decide), h5, zn_ix6, nI_1, nI_clamp (by omega), nI_clamp (by omega)]
    refine And.intro (fun c => absurd c (nI_ge (by omega) (by omega))) (fun _ => ?_)
    refine And.intro (vp_in_nI (by omega) (by decide)) (And.intro (vp_in_nI (by omega) (by decide)) (fun r1 e1 => And.intro (vp_in_nI (by omega) (by decide)) (And.intro (vp_in_nI (by omega) (by decide)) (fun r2 e2 => And.intro (vp_in_nI (by omega) (by decide)) (And.intro (vp_in_nI (by omega) (by decide)) (fun r3 e3 => ?_))))))
    intro z ez
    rw [ez]
    refine ih (j + 1) _ (by omega) (by omega) ?_ ?_ ?_ (fun r h6 h7 h8 => ?_)
    · show r1 = _
      rw [e1, q6]; exact zdl_step (M 6) (i := 6 * s + i) (j := 6 * s + j) (by omega)
    · show r2 = _
      rw [e2, q7]; exact zdl_step (M 7) (i := 6 * s + i) (j := 6 * s + j) (by omega)
    · show r3 = _
      rw [e3, q8]; exact zdl_step (M 8) (i := 6 * s + i) (j := 6 * s + j) (by omega)
    · rw [zs_out (zn_beq h8), zs_out (zn_beq h7), zs_out (zn_beq h6)]; exact qr r h6 h7 h8
theorem zf_drop {M : zMem} {a : zAb} {st i : Int32} {post : Int32 → zMem → Prop} (hW : zWA a) (h : zRA M a) (k : ∀ M' : zMem, M' 0 0 = (zoD a st i).1 → zRA M' (zoD a st i).2.2 → post (zoD a st i).2.1 M') : zw_X6_drop M st i post := by
  refine zr_isStack (fun hst => ?_) (fun c1 c2 => ?_)
  · have h1 : zRA (zset M 0 (fun _ => 0)) a := zRA_0 h
    have hst : zSt st := hst
    refine And.intro (fun q => absurd q (by decide)) (fun _ => ?_)
    have bad : ¬ zokD (zgt a (zNt st)).1 i → post 0 (zset (zset M 0 (fun _ => 0)) 0 (fun _ => 2)) := fun q => by
      rw [zoD_2 hst q] at k
      exact k _ rfl (zRA_0 h1)
    obtain ⟨e1, hs⟩ := zSt_n hst
    obtain ⟨g1, g2, g3, g4, g5, g6⟩ := zRA_s hs h1
    have hWs := zWA_s (s := zNt st) hW
    have h6 := hWs.1.1
    have cs : st.toNatClampNeg = zNt st := by rw [e1, nI_clamp (by omega), zNt_n (by omega)]
    have sv : vp_in st 2 := by rw [e1]; exact vp_in_nI hs (by decide)
    have t5 : (zset M 0 (fun _ => (0 : Int32))) 5 st.toNatClampNeg = nI (zgt a (zNt st)).1 := by rw [cs]; exact g1
    refine And.intro (fun d => ?_) (fun d1 => And.intro sv ?_)
    · exact zr_right0 rfl (by decide) (And.intro (fun q => absurd rfl q) (fun _ => bad (fun q => by have := zi_lt zn_0 d; have := q.1; omega)))
    · rw [t5]
      by_cases hle : nI (zgt a (zNt st)).1 ≤ i
      · refine ⟨fun v => v = 0, ?_, And.intro (fun _ => rfl) (fun q => absurd hle q)⟩
        rintro v rfl
        exact zr_right0 rfl (by decide) (And.intro (fun q => absurd rfl q) (fun _ => bad (fun q => by have := zi_ge (nI_toInt (by omega)) hle; have := q.2; omega)))
      · refine ⟨fun v => v = 1, ?_, And.intro (fun q => absurd q hle) (fun _ => rfl)⟩
        rintro v rfl
        have hok : zokD (zgt a (zNt st)).1 i := ⟨zi_nlt zn_0 d1, zi_nge (nI_toInt (by omega)) hle⟩
        obtain ⟨ei, hi⟩ := zokD_n hok
        rw [zoD_0 hst hok] at k
        refine zr_right1 rfl (by decide) (And.intro (fun _ => And.intro sv (And.intro sv (fun r10 e10 => ?_))) (fun q => absurd q (by decide)))
        intro z ez
        obtain ⟨m, hm⟩ : ∃ m, (zgt a (zNt st)).1 = m + 1 := ⟨(zgt a (zNt st)).1 - 1, by omega⟩
        rw [t5, cs, hm, nI_pred] at e10
        have ez' : z = nI (6 * zNt st + zNt i) := by
          rw [ez]
          conv => lhs; rw [e1, ei]
          exact zn_ix6 _ _
        rw [ez']
        have r5 : r10 (zNt st) = nI m := by rw [e10, pk_us]
        have L := zr_drop_54 (M := zset (zset M 0 (fun _ => (0 : Int32))) 5 r10) (s := zNt st) (i := zNt i) (m := m) (K := (fun (T_37 : zMem) => (vp_in st 2 ∧ post ((T_37 5) (Int32.toNatClampNeg st)) T_37))) hs (by omega) r5 ?_ (m - zNt i) (zNt i) (zset (zset M 0 (fun _ => (0 : Int32))) 5 r10) (by omega) (Nat.le_refl _) (zdl_0 _ _).symm (zdl_0 _ _).symm (zdl_0 _ _).symm (fun _ _ _ _ => rfl)
        · rw [← e1] at L
          exact ⟨_, L⟩
        · intro T q6 q7 q8 qr
          refine And.intro sv ?_
          have e5 : T 5 (zNt st) = nI ((zgt a (zNt st)).1 - 1) := by
            rw [qr 5 (by decide) (by decide) (by decide), hm]; exact r5
          rw [cs, e5]
          have dd : ∀ {f : zRow} {g : Nat → Nat}, (∀ j : Nat, j < (zgt a (zNt st)).1 → f (6 * zNt st + j) = nI (g j)) → ∀ j : Nat, j < (zgt a (zNt st)).1 - 1 → zdl f (6 * zNt st + zNt i) (6 * zNt st + m) (6 * zNt st + j) = nI (zdel g (zNt i) j) := fun {f g} hf j hj => by
            have := zdlO_del hf hi j hj
            rwa [hm, Nat.add_sub_cancel] at this
          refine k _ ?_ (zRA_up hs hW h1 ⟨e5, fun j hj => ⟨?_, ?_, ?_⟩, ?_, ?_, ?_, ?_⟩ (fun b h1 h2 o ho => ?_) (fun b h1 h2 j hj => ?_) (fun b h1 h2 => ?_))
          · rw [qr 0 (by decide) (by decide) (by decide)]; rfl
          · rw [q6]; exact dd (fun j hj => (g2 j hj).1) j hj
          · rw [q7]; exact dd (fun j hj => (g2 j hj).2.1) j hj
          · rw [q8]; exact dd (fun j hj => (g2 j hj).2.2) j hj
          · rw [qr 1 (by decide) (by decide) (by decide)]; exact g3
          · rw [qr 2 (by decide) (by decide) (by decide)]; exact g4
          · rw [qr 3 (by decide) (by decide) (by decide)]; exact g5
          · rw [qr 4 (by decide) (by decide) (by decide)]; exact g6
          · rw [qr b (by omega) (by omega) (by omega)]
            by_cases z5 : b = 5
            · subst z5; rw [zs_in, e10, pk_un ho]
            · rw [zs_out (zn_beq z5)]
          · have hz : ∀ (f : zRow), zdl f (6 * zNt st + zNt i) (6 * zNt st + m) j = f j := fun f => by
              unfold zdl
              rw [if_neg (by omega)]
            by_cases z8 : b = 8
            · subst z8; rw [q8]; exact hz _
            · by_cases z7 : b = 7
              · subst z7; rw [q7]; exact hz _
              · rw [show b = 6 from by omega, q6]; exact hz _
          · rw [qr b (by omega) (by omega) (by omega), zs_out (zn_beq (by omega))]
  · rw [zoD_1 (zSt_no c1 c2)] at k
    exact And.intro (fun _ => k _ rfl (zRA_0 (zRA_0 h))) (fun q => absurd rfl q)
/-! about -/
def zokA (n : Nat) (i wh : Int32) : Prop := (i = -1 ∧ wh = 0) ∨ (i = -2 ∧ zSt wh) ∨ (i = -3 ∧ zSt wh) ∨ (zokD n i ∧ (0 ≤ wh.toInt ∧ wh.toInt ≤ 2))
noncomputable def zvA (s : zStk) (i wh : Int32) : Int32 := zif (i = -1) (nI s.1) (zif (i = -2) (zif (wh = 0) (nI s.2.2.2.2.1) (nI s.2.2.2.2.2.1)) (zif (i = -3) (zif (wh = 0) (nI s.2.2.2.2.2.2.1) (nI s.2.2.2.2.2.2.2)) (zif (wh = 0) (nI (s.2.1 (zNt i))) (zif (wh = 1) (nI (s.2.2.1 (zNt i))) (nI (s.2.2.2.1 (zNt i)))))))
noncomputable def zoA (a : zAb) (st i wh : Int32) : Int32 × Int32 := zif (zSt st) (zif (zokA (zgt a (zNt st)).1 i wh) (0, zvA (zgt a (zNt st)) i wh) (2, 0)) (1, 0)
theorem zoA_1 {a : zAb} {st i wh : Int32} (h : ¬ zSt st) : zoA a st i wh = (1, 0) := zif_f h
theorem zoA_2 {a : zAb} {st i wh : Int32} (h : zSt st) (g : ¬ zokA (zgt a (zNt st)).1 i wh) : zoA a st i wh = (2, 0) := (zif_t h).trans (zif_f g)
theorem zoA_0 {a : zAb} {st i wh : Int32} (h : zSt st) (g : zokA (zgt a (zNt st)).1 i wh) : zoA a st i wh = (0, zvA (zgt a (zNt st)) i wh) := (zif_t h).trans (zif_t g)
theorem zx_neg {i : Int32} (h : 0 ≤ i.toInt) : ¬ i = -1 ∧ ¬ i = -2 ∧ ¬ i = -3 := by
  refine ⟨fun q => ?_, fun q => ?_, fun q => ?_⟩
  · rw [q] at h; exact absurd h (by decide)
  · rw [q] at h; exact absurd h (by decide)
  · rw [q] at h; exact absurd h (by decide)
theorem zn_m12 : ¬ (-2 : Int32) = -1 := by decide
theorem zn_m13 : ¬ (-3 : Int32) = -1 := by decide
theorem zn_m23 : ¬ (-3 : Int32) = -2 := by decide
/-- the class's about, at one pile -/
theorem zk_aboutP {P : zMem} {s : zStk} {i wh : Int32} {post : Int32 → Prop} {PXN : Prop} (hP : zCp P s) (hs : zWs s) (k : zokA s.1 i wh → post (zvA s i wh)) (x : ¬ zokA s.1 i wh → PXN) : (∃ KJ_2 : Prop, (KJ_2  → (∃ KJ_4 : Prop, (KJ_4  → (∃ KJ_6 : Prop, (KJ_6  → ((i < 0 → PXN) ∧ (¬ i < 0 → (((P 5 0) ≤ i → PXN) ∧ (¬ (P 5 0) ≤ i → ((wh < 0 → PXN) ∧ (¬ wh < 0 → ((wh ≤ (2 : Int32) → zw_X3_layerPart P i wh (fun (v_11 : Int32) => post v_11 )) ∧ (¬ wh ≤ (2 : Int32) → PXN))))))))) ∧ ((¬ i = (-3 : Int32) → (KJ_6 )) ∧ (i = (-3 : Int32) → ((wh = 0 → zw_X3_edgePart P (1 : Int32) wh (fun (v_13 : Int32) => post v_13 )) ∧ (¬ wh = 0 → ((¬ wh = (1 : Int32) → (KJ_6 )) ∧ (wh = (1 : Int32) → zw_X3_edgePart P (1 : Int32) wh (fun (v_15 : Int32) => post v_15 ))))))))) ∧ ((¬ i = (-2 : Int32) → (KJ_4 )) ∧ (i = (-2 : Int32) → ((wh = 0 → zw_X3_edgePart P (0 : Int32) wh (fun (v_17 : Int32) => post v_17 )) ∧ (¬ wh = 0 → ((¬ wh = (1 : Int32) → (KJ_4 )) ∧ (wh = (1 : Int32) → zw_X3_edgePart P (0 : Int32) wh (fun (v_19 : Int32) => post v_19 ))))))))) ∧ ((¬ i = (-1 : Int32) → (KJ_2 )) ∧ (i = (-1 : Int32) → ((¬ wh = 0 → (KJ_2 )) ∧ (wh = 0 → post (P 5 0) ))))) := by
  obtain ⟨p5, pi, p0, p1, p2, p3⟩ := hP
  have h6 := hs.1.1
  have ep : ∀ (w0 : Nat) (v : Int32), w0 < 2 → (wh = 0 → P 0 w0 = v) → (¬ wh = 0 → P 1 w0 = v) → post v → zw_X3_edgePart P (nI w0) wh (fun (v_13 : Int32) => post v_13 ) := by
    intro w0 v hw h0 h1 hk
    refine ⟨fun z => z = nI w0, ?_, ?_⟩
    · rintro z rfl
      refine And.intro (fun q => And.intro (vp_in_nI hw (by decide)) ?_) (fun q => And.intro (vp_in_nI hw (by decide)) ?_)
      · rw [nI_clamp (by omega), h1 q]; exact hk
      · rw [nI_clamp (by omega), h0 q]; exact hk
    · rcases Nat.lt_or_ge w0 1 with q | q
      · have : w0 = 0 := by omega
        subst this
        exact And.intro (fun z => absurd rfl z) (fun _ => rfl)
      · have : w0 = 1 := by omega
        subst this
        exact And.intro (fun _ => rfl) (fun z => absurd z (by decide))
  refine ⟨¬ (i = -1 ∧ wh = 0), fun j2 => ⟨¬ (i = -2 ∧ zSt wh), fun j4 => ⟨¬ (i = -3 ∧ zSt wh), fun j6 => ?_, ?_⟩, ?_⟩, ?_⟩
  · have low : i.toInt < 0 ∨ (s.1 : Int) ≤ i.toInt ∨ wh.toInt < 0 ∨ 2 < wh.toInt → PXN := fun hh => x (fun q => by
      rcases q with q | q | q | q
      · exact j2 q
      · exact j4 q
      · exact j6 q
      · have := q.1.1
        have := q.1.2
        have := q.2
        omega)
    rw [p5]
    refine And.intro (fun d => low (Or.inl (zi_lt zn_0 d))) (fun d1 => And.intro (fun d => low (Or.inr (Or.inl (zi_ge (nI_toInt (by omega)) d)))) (fun d2 => And.intro (fun d => low (Or.inr (Or.inr (Or.inl (zi_lt zn_0 d))))) (fun d3 => And.intro (fun d4 => ?_) (fun d => low (Or.inr (Or.inr (Or.inr (zi_nle zc_2 d))))))))
    have hD : zokD s.1 i := ⟨zi_nlt zn_0 d1, zi_nge (nI_toInt (by omega)) d2⟩
    have hk := k (Or.inr (Or.inr (Or.inr ⟨hD, zi_nlt zn_0 d3, zi_le zc_2 d4⟩)))
    obtain ⟨n1, n2, n3⟩ := zx_neg hD.1
    unfold zvA at hk
    rw [zif_f n1, zif_f n2, zif_f n3] at hk
    obtain ⟨ei, hi⟩ := zokD_n hD
    have ci : i.toNatClampNeg = zNt i := by rw [ei, nI_clamp (by omega), zNt_n (by omega)]
    have iv : vp_in i 6 := by rw [ei]; exact vp_in_nI (by omega) (by decide)
    obtain ⟨b1, b2, b3⟩ := pi (zNt i) hi
    unfold zw_X3_layerPart
    rw [p5, ci]
    refine And.intro (fun q => absurd q d1) (fun _ => And.intro (fun _ => And.intro (fun q => And.intro (fun q1 => And.intro iv ?_) (fun q1 => And.intro iv ?_)) (fun q => And.intro iv ?_)) (fun q => absurd (zn_lt.mpr (by rw [nI_toInt (by omega)]; exact hD.2)) q))
    · rw [zif_f q, zif_f q1] at hk
      show post (P 4 (zNt i))
      rw [b3]; exact hk
    · rw [zif_f q, zif_t q1] at hk
      show post (P 3 (zNt i))
      rw [b2]; exact hk
    · rw [zif_t q] at hk
      show post (P 2 (zNt i))
      rw [b1]; exact hk
  · refine And.intro (fun q => fun z => q z.1) (fun q => And.intro (fun z => ?_) (fun z => And.intro (fun z1 => fun y => zSt_no z z1 y.2) (fun z1 => ?_)))
    · have hk := k (Or.inr (Or.inr (Or.inl ⟨q, Or.inl z⟩)))
      unfold zvA at hk
      rw [zif_f (by rw [q]; exact zn_m13), zif_f (by rw [q]; exact zn_m23), zif_t q, zif_t z] at hk
      exact ep 1 _ (by decide) (fun _ => p2) (fun y => absurd z y) hk
    · have hk := k (Or.inr (Or.inr (Or.inl ⟨q, Or.inr z1⟩)))
      unfold zvA at hk
      rw [zif_f (by rw [q]; exact zn_m13), zif_f (by rw [q]; exact zn_m23), zif_t q, zif_f z] at hk
      exact ep 1 _ (by decide) (fun y => absurd y z) (fun _ => p3) hk
  · refine And.intro (fun q => fun z => q z.1) (fun q => And.intro (fun z => ?_) (fun z => And.intro (fun z1 => fun y => zSt_no z z1 y.2) (fun z1 => ?_)))
    · have hk := k (Or.inr (Or.inl ⟨q, Or.inl z⟩))
      unfold zvA at hk
      rw [zif_f (by rw [q]; exact zn_m12), zif_t q, zif_t z] at hk
      exact ep 0 _ (by decide) (fun _ => p0) (fun y => absurd z y) hk
    · have hk := k (Or.inr (Or.inl ⟨q, Or.inr z1⟩))
      unfold zvA at hk
      rw [zif_f (by rw [q]; exact zn_m12), zif_t q, zif_f z] at hk
      exact ep 0 _ (by decide) (fun y => absurd y z) (fun _ => p1) hk
  · refine And.intro (fun q => fun z => q z.1) (fun q => And.intro (fun z => fun y => z y.2) (fun z => ?_))
    have hk := k (Or.inl ⟨q, z⟩)
    unfold zvA at hk
    rw [zif_t q] at hk
    rw [p5]; exact hk
theorem zk_about {O P0 P1 N : zMem} {out : zRowL} {a : zAb} {st i wh : Int32} {post : Int32 → zRowL → Prop} (hW : zWA a) (hC : zCA O P0 P1 N a) (k : ∀ (out' : zRowL), ((zoA a st i wh).1 = 0 → out' 0 = Int32.toInt64 (zoA a st i wh).2) → post (zoA a st i wh).1 out') : zw_L_about O P0 P1 out st i wh post := by
  have fin : zSt st → zokA (zgt a (zNt st)).1 i wh → ∀ r_2 : zRowL, r_2 = (vp_updL out (Int32.toNatClampNeg (0 : Int32)) (Int32.toInt64 (zvA (zgt a (zNt st)) i wh))) → (post (0 : Int32) r_2) := fun h1 h2 r er => by
    rw [zoA_0 h1 h2] at k
    refine k r (fun _ => ?_)
    rw [er, show (0 : Int32).toNatClampNeg = 0 from rfl, pk_uLs]
  have fail : zSt st → ¬ zokA (zgt a (zNt st)).1 i wh → post 2 out := fun h1 h2 => by
    rw [zoA_2 h1 h2] at k; exact k out (fun q => absurd q (by decide))
  refine zr_pileAt (O := O) (fun c => ?_) (fun c => ?_) (fun c1 c2 => ?_)
  · have e0 : zNt st = 0 := by rw [c]; exact zNt_0
    rw [e0] at fin fail
    exact zk_aboutP hC.1 hW.1 (fun q => fin (Or.inl c) q) (fun q => fail (Or.inl c) q)
  · have e0 : zNt st = 1 := by rw [c]; exact zNt_1
    rw [e0] at fin fail
    exact zk_aboutP hC.2.1 hW.2.1 (fun q => fin (Or.inr c) q) (fun q => fail (Or.inr c) q)
  · rw [zoA_1 (zSt_no c1 c2)] at k; exact k out (fun q => absurd q (by decide))
