theorem zf_about {M : zMem} {a : zAb} {st i wh : Int32} {post : Int32 → zMem → Prop} (hW : zWA a) (h : zRA M a) (k : ∀ M' : zMem, M' 0 0 = (zoA a st i wh).1 → zRA M' a → post (zoA a st i wh).2 M') : zw_X6_about M st i wh post := by
  refine zr_isStack (fun hst => ?_) (fun c1 c2 => ?_)
  · have h1 : zRA (zset M 0 (fun _ => 0)) a := zRA_0 h
    have hst : zSt st := hst
    obtain ⟨e1, hs⟩ := zSt_n hst
    obtain ⟨g1, g2, g3, g4, g5, g6⟩ := zRA_s hs h1
    have hWs := zWA_s (s := zNt st) hW
    have h6 := hWs.1.1
    have cs : st.toNatClampNeg = zNt st := by rw [e1, nI_clamp (by omega), zNt_n (by omega)]
    have sv : vp_in st 2 := by rw [e1]; exact vp_in_nI hs (by decide)
    have t5 : (zset M 0 (fun _ => (0 : Int32))) 5 st.toNatClampNeg = nI (zgt a (zNt st)).1 := by rw [cs]; exact g1
    refine And.intro (fun _ => ?_) (fun q => absurd q (by decide))
    have bad : ¬ zokA (zgt a (zNt st)).1 i wh → post 0 (zset (zset M 0 (fun _ => 0)) 0 (fun _ => 2)) := fun q => by
      rw [zoA_2 hst q] at k
      exact k _ rfl (zRA_0 h1)
    refine ⟨fun v => (v = 1 ∧ zokA (zgt a (zNt st)).1 i wh) ∨ (v = 0 ∧ ¬ zokA (zgt a (zNt st)).1 i wh), ?_, ?_⟩
    · rintro v (⟨rfl, hok⟩ | ⟨rfl, hok⟩)
      · refine zr_right1 rfl (by decide) (And.intro (fun _ => ?_) (fun q => absurd q (by decide)))
        have hk := k (zset M 0 (fun _ => 0)) (by rw [zoA_0 hst hok]; rfl) h1
        rw [zoA_0 hst hok] at hk
        unfold zvA at hk
        refine And.intro (fun n1 => And.intro (fun n2 => And.intro (fun n3 => ?_) (fun n3 => ?_)) (fun n2 => ?_)) (fun n1 => ?_)
        · rw [zif_f n1, zif_f n2, zif_f n3] at hk
          have hD : zokD (zgt a (zNt st)).1 i := by
            rcases hok with z | z | z | z
            · exact absurd z.1 n1
            · exact absurd z.1 n2
            · exact absurd z.1 n3
            · exact z.1
          obtain ⟨ei, hi⟩ := zokD_n hD
          have es6 : (6 : Int32) * st + i = nI (6 * zNt st + zNt i) := by
            conv => lhs; rw [e1, ei]
            exact zn_ix6 _ _
          obtain ⟨b1, b2, b3⟩ := g2 (zNt i) hi
          rw [es6, nI_clamp (by omega)]
          have iv : vp_in (nI (6 * zNt st + zNt i)) 12 := vp_in_nI (by omega) (by decide)
          refine And.intro (fun q => And.intro (fun q1 => And.intro iv ?_) (fun q1 => And.intro iv ?_)) (fun q => And.intro iv ?_)
          · rw [zif_f q, zif_f q1] at hk
            rw [b3]; exact hk
          · rw [zif_f q, zif_t q1] at hk
            rw [b2]; exact hk
          · rw [zif_t q] at hk
            rw [b1]; exact hk
        · rw [zif_f n1, zif_f n2, zif_t n3] at hk
          rw [cs]
          refine And.intro (fun q => And.intro sv ?_) (fun q => And.intro sv ?_)
          · rw [zif_f q] at hk
            rw [g6]; exact hk
          · rw [zif_t q] at hk
            rw [g5]; exact hk
        · rw [zif_f n1, zif_t n2] at hk
          rw [cs]
          refine And.intro (fun q => And.intro sv ?_) (fun q => And.intro sv ?_)
          · rw [zif_f q] at hk
            rw [g4]; exact hk
          · rw [zif_t q] at hk
            rw [g3]; exact hk
        · rw [zif_t n1] at hk
          refine And.intro sv ?_
          rw [t5]; exact hk
      · exact zr_right0 rfl (by decide) (And.intro (fun q => absurd rfl q) (fun _ => bad hok))
    · have no : ∀ {p : Prop}, p → p := fun q => q
      refine And.intro (fun n1 => And.intro (fun n2 => And.intro (fun z => Or.inl ⟨rfl, Or.inr (Or.inl ⟨n2, Or.inl z⟩)⟩) (fun z => And.intro (fun z1 => Or.inr ⟨rfl, fun y => ?_⟩) (fun z1 => Or.inl ⟨rfl, Or.inr (Or.inl ⟨n2, Or.inr z1⟩)⟩))) (fun n2 => And.intro (fun n3 => And.intro (fun d => Or.inr ⟨rfl, fun y => ?_⟩) (fun d1 => And.intro sv ?_)) (fun n3 => And.intro (fun z => Or.inl ⟨rfl, Or.inr (Or.inr (Or.inl ⟨n3, Or.inl z⟩))⟩) (fun z => And.intro (fun z1 => Or.inr ⟨rfl, fun y => ?_⟩) (fun z1 => Or.inl ⟨rfl, Or.inr (Or.inr (Or.inl ⟨n3, Or.inr z1⟩))⟩))))) (fun n1 => And.intro (fun z => Or.inr ⟨rfl, fun y => ?_⟩) (fun z => Or.inl ⟨rfl, Or.inl ⟨n1, z⟩⟩))
      · rcases y with y | y | y | y
        · exact n1 y.1
        · exact zSt_no z z1 y.2
        · rw [n2] at y; exact absurd y.1 (by decide)
        · exact (zx_neg y.1.1).2.1 n2
      · rcases y with y | y | y | y
        · exact n1 y.1
        · exact n2 y.1
        · exact n3 y.1
        · have := zi_lt zn_0 d; have := y.1.1; omega
      · rw [t5]
        refine And.intro (fun d => Or.inr ⟨rfl, fun y => ?_⟩) (fun d2 => And.intro (fun d => Or.inr ⟨rfl, fun y => ?_⟩) (fun d3 => And.intro (fun d => Or.inr ⟨rfl, fun y => ?_⟩) (fun d4 => Or.inl ⟨rfl, Or.inr (Or.inr (Or.inr ⟨⟨zi_nlt zn_0 d1, zi_nge (nI_toInt (by omega)) d2⟩, zi_nlt zn_0 d3, zi_ngt zc_2 d4⟩))⟩)))
        · rcases y with y | y | y | y
          · exact n1 y.1
          · exact n2 y.1
          · exact n3 y.1
          · have := zi_ge (nI_toInt (by omega)) d; have := y.1.2; omega
        · rcases y with y | y | y | y
          · exact n1 y.1
          · exact n2 y.1
          · exact n3 y.1
          · have := zi_lt zn_0 d; have := y.2; omega
        · rcases y with y | y | y | y
          · exact n1 y.1
          · exact n2 y.1
          · exact n3 y.1
          · have := zi_gt zc_2 d; have := y.2; omega
      · rcases y with y | y | y | y
        · exact n1 y.1
        · exact n2 y.1
        · exact zSt_no z z1 y.2
        · exact (zx_neg y.1.1).2.2 n3
      · rcases y with y | y | y | y
        · exact z y.2
        · rw [n1] at y; exact absurd y.1 (by decide)
        · rw [n1] at y; exact absurd y.1 (by decide)
        · exact (zx_neg y.1.1).1 n1
  · rw [zoA_1 (zSt_no c1 c2)] at k
    exact And.intro (fun q => absurd rfl q) (fun _ => k _ rfl (zRA_0 (zRA_0 h)))
/-! turn -/
noncomputable def zoT (a : zAb) (st : Int32) : Int32 × zAb := zif (zSt st) (0, zup a (zNt st) (zsR (zgt a (zNt st)))) (1, a)
theorem zoT_1 {a : zAb} {st : Int32} (h : ¬ zSt st) : zoT a st = (1, a) := zif_f h
theorem zoT_0 {a : zAb} {st : Int32} (h : zSt st) : zoT a st = (0, zup a (zNt st) (zsR (zgt a (zNt st)))) := zif_t h
theorem zWs_R {s : zStk} (h : zWs s) : zWs (zsR s) := by
  obtain ⟨⟨h1, h2⟩, h3, h4, h5, h6⟩ := h
  refine ⟨⟨h1, fun j hj => ?_⟩, h5, h6, h3, h4⟩
  have hj : j < s.1 := hj
  exact h2 (s.1 - 1 - j) (by omega)
theorem zoT_W {a : zAb} {st : Int32} (h : zWA a) : zWA (zoT a st).2 := by
  by_cases h1 : zSt st
  · rw [zoT_0 h1]; exact zWA_up h (zWs_R (zWA_s h))
  · rw [zoT_1 h1]; exact h
theorem zk_turn {O P0 P1 N : zMem} {a : zAb} {st : Int32} {post : Int32 → zMem → zMem → Prop} (hW : zWA a) (hC : zCA O P0 P1 N a) (k : ∀ P0' P1' : zMem, zCA O P0' P1' N (zoT a st).2 → post (zoT a st).1 P0' P1') : zw_L_turn O P0 P1 st post := by
  refine zr_pileAt (O := O) (fun c => ?_) (fun c => ?_) (fun c1 c2 => ?_)
  · rw [zoT_0 (Or.inl c), c, zNt_0] at k
    exact zr_reverse hC.1 hW.1.1.1 (fun P' hP' => k P' P1 (zCA_up0 hC hP'))
  · rw [zoT_0 (Or.inr c), c, zNt_1] at k
    exact zr_reverse hC.2.1 hW.2.1.1.1 (fun P' hP' => k P0 P' (zCA_up1 hC hP'))
  · rw [zoT_1 (zSt_no c1 c2)] at k; exact k P0 P1 hC
/-- rows from place b on, turned about -/
def zrO (f : zRow) (b n i : Nat) : zRow := fun x => if b ≤ x ∧ x < b + n ∧ (x < b + i ∨ b + n ≤ x + i) then f (b + n - 1 - (x - b)) else f x
theorem zrO_0 (f : zRow) (b n : Nat) : zrO f b n 0 = f := by
  funext x; unfold zrO; rw [if_neg (by omega)]
theorem zrO_step (f : zRow) {b i n : Nat} (h : 2 * i + 1 < n) : upd (upd (zrO f b n i) (b + i) (zrO f b n i (b + n - 1 - i))) (b + n - 1 - i) (zrO f b n i (b + i)) = zrO f b n (i + 1) := by
  funext x
  unfold upd zrO
  by_cases q : x = b + n - 1 - i
  · subst q
    rw [if_pos rfl, if_neg (by omega), if_pos (by omega)]
    congr 1; omega
  · rw [if_neg q]
    by_cases q2 : x = b + i
    · subst q2
      rw [if_pos rfl, if_neg (by omega), if_pos (by omega)]
      congr 1; omega
    · rw [if_neg q2]
      by_cases w : b ≤ x ∧ x < b + n ∧ (x < b + i ∨ b + n ≤ x + i)
      · rw [if_pos w, if_pos (by omega)]
      · rw [if_neg w, if_neg (by omega)]
theorem zrO_end {f : zRow} {g : Nat → Nat} {b n i : Nat} (hf : ∀ j : Nat, j < n → f (b + j) = nI (g j)) (hi : n ≤ 2 * i + 1) : ∀ j : Nat, j < n → zrO f b n i (b + j) = nI (zrev g n j) := fun j hj => by
  unfold zrO zrev
  by_cases w : b ≤ b + j ∧ b + j < b + n ∧ (b + j < b + i ∨ b + n ≤ b + j + i)
  · rw [if_pos w, show b + n - 1 - (b + j - b) = b + (n - 1 - j) from by omega]; exact hf _ (by omega)
  · rw [if_neg w, show n - 1 - j = j from by omega]; exact hf j hj
theorem zr_turn_16 {M : zMem} {s n : Nat} {K : zMem → Prop} (hs : s < 2) (hn : n ≤ 6) (h5 : M 5 s = nI n) (hK : ∀ (T : zMem) (i : Nat), n ≤ 2 * i + 1 → T 6 = zrO (M 6) (6 * s) n i → T 7 = zrO (M 7) (6 * s) n i → T 8 = zrO (M 8) (6 * s) n i → (∀ r : Nat, r ≠ 6 → r ≠ 7 → r ≠ 8 → T r = M r) → K T) : ∀ (d i : Nat) (M1 : zMem), i + d = 3 → M1 6 = zrO (M 6) (6 * s) n i → M1 7 = zrO (M 7) (6 * s) n i → M1 8 = zrO (M 8) (6 * s) n i → (∀ r : Nat, r ≠ 6 → r ≠ 7 → r ≠ 8 → M1 r = M r) → zw_X6_turn_16 (nI s) K (d + 1) (nI i) M1 := by
  have cs : (nI s).toNatClampNeg = s := nI_clamp (by omega)
  have e21 : ∀ i : Nat, (2 : Int32) * nI i + (1 : Int32) = nI (2 * i + 1) := fun i => by rw [show (2 : Int32) = nI 2 from rfl, pk_mul, nI_1]
  intro d
  induction d with
  | zero =>
    intro i M1 hi q6 q7 q8 qr
    refine And.intro (vp_in_nI hs (by decide)) ?_
    rw [cs, qr 5 (by decide) (by decide) (by decide), h5, e21]
    exact And.intro (fun _ => hK M1 i (by omega) q6 q7 q8 qr) (fun c => absurd (nI_le (by omega) (by omega)) c)
  | succ d ih =>
    intro i M1 hi q6 q7 q8 qr
    refine And.intro (vp_in_nI hs (by decide)) ?_
    rw [cs, qr 5 (by decide) (by decide) (by decide), h5, e21, zn_ix6, zn_ix6]
    refine And.intro (fun c => hK M1 i ((nI_leI (by omega) (by omega)).mp c) q6 q7 q8 qr) (fun c => ?_)
    have c1 : 2 * i + 1 < n := by
      rcases Nat.lt_or_ge (2 * i + 1) n with z | z
      · exact z
      · exact absurd (nI_le z (by omega)) c
    intro x3 e3
    refine And.intro (vp_in_nI hs (by decide)) ?_
    intro x4 e4
    have e4' : x4 = nI (6 * s + n - 1 - i) := by
      rw [e4, show (1 : Int32) = nI 1 from rfl, pk_sub (by omega), pk_sub (by omega)]
    subst e3 e4'
    rw [nI_clamp (by omega), nI_clamp (by omega)]
    have v3 : vp_in (nI (6 * s + i)) 12 := vp_in_nI (by omega) (by decide)
    have v4 : vp_in (nI (6 * s + n - 1 - i)) 12 := vp_in_nI (by omega) (by decide)
    refine And.intro v3 (fun x5 e5 => And.intro v3 (fun x6 e6 => And.intro v3 (fun x7 e7 => And.intro v4 (And.intro v3 (fun r18 e18 => And.intro v4 (And.intro v3 (fun r21 e21 => And.intro v4 (And.intro v3 (fun r24 e24 => And.intro v4 (fun r26 e26 => And.intro v4 (fun r28 e28 => And.intro v4 (fun r30 e30 => ?_))))))))))))
    intro z ez
    rw [ez, nI_1]
    refine ih (i + 1) _ (by omega) ?_ ?_ ?_ (fun r h6 h7 h8 => ?_)
    · show r26 = _
      rw [e26, e18, e5, q6]; exact zrO_step (M 6) (b := 6 * s) c1
    · show r28 = _
      rw [e28, e21, e6, q7]; exact zrO_step (M 7) (b := 6 * s) c1
    · show r30 = _
      rw [e30, e24, e7, q8]; exact zrO_step (M 8) (b := 6 * s) c1
    · rw [zs_out (zn_beq h8), zs_out (zn_beq h7), zs_out (zn_beq h6)]; exact qr r h6 h7 h8
theorem zf_turn {M : zMem} {a : zAb} {st : Int32} {post : zMem → Prop} (hW : zWA a) (h : zRA M a) (k : ∀ M' : zMem, M' 0 0 = (zoT a st).1 → zRA M' (zoT a st).2 → post M') : zw_X6_turn M st post := by
  refine zr_isStack (fun hst => ?_) (fun c1 c2 => ?_)
  · have h1 : zRA (zset M 0 (fun _ => 0)) a := zRA_0 h
    have hst : zSt st := hst
    obtain ⟨e1, hs⟩ := zSt_n hst
    obtain ⟨g1, g2, g3, g4, g5, g6⟩ := zRA_s hs h1
    have hWs := zWA_s (s := zNt st) hW
    have hn6 := hWs.1.1
    have cs : st.toNatClampNeg = zNt st := by rw [e1, nI_clamp (by omega), zNt_n (by omega)]
    have sv : vp_in st 2 := by rw [e1]; exact vp_in_nI hs (by decide)
    rw [zoT_0 hst] at k
    refine And.intro (fun _ => ?_) (fun q => absurd q (by decide))
    refine And.intro sv (fun x2 e2 => And.intro sv (fun x3 e3 => And.intro sv (And.intro sv (fun r7 e7 => And.intro sv (And.intro sv (fun r10 e10 => And.intro sv (fun r12 e12 => And.intro sv (fun r14 e14 => ?_))))))))
    rw [cs] at e2 e3 e7 e10 e12 e14
    have L := zr_turn_16 (M := zset (zset (zset (zset (zset M 0 (fun _ => (0 : Int32))) 1 r7) 2 r10) 3 r12) 4 r14) (s := zNt st) (n := (zgt a (zNt st)).1) (K := fun T => post T) hs hn6 g1 ?_ 3 0 (zset (zset (zset (zset (zset M 0 (fun _ => (0 : Int32))) 1 r7) 2 r10) 3 r12) 4 r14) (by omega) (zrO_0 _ _ _).symm (zrO_0 _ _ _).symm (zrO_0 _ _ _).symm (fun _ _ _ _ => rfl)
    · rw [← e1] at L
      exact ⟨_, L⟩
    · intro T i hi q6 q7 q8 qr
      refine k T ?_ (zRA_up hs hW h1 ⟨?_, fun j hj => ⟨?_, ?_, ?_⟩, ?_, ?_, ?_, ?_⟩ (fun b h1 h2 o ho => ?_) (fun b h1 h2 j hj => ?_) (fun b h1 h2 => ?_))
      · rw [qr 0 (by decide) (by decide) (by decide)]; rfl
      · rw [qr 5 (by decide) (by decide) (by decide)]; exact g1
      · rw [q6]; exact zrO_end (fun j hj => (g2 j hj).1) hi j hj
      · rw [q7]; exact zrO_end (fun j hj => (g2 j hj).2.1) hi j hj
      · rw [q8]; exact zrO_end (fun j hj => (g2 j hj).2.2) hi j hj
      · rw [qr 1 (by decide) (by decide) (by decide)]
        show r7 (zNt st) = _
        rw [e7, pk_us]; exact g5
      · rw [qr 2 (by decide) (by decide) (by decide)]
        show r10 (zNt st) = _
        rw [e10, pk_us]; exact g6
      · rw [qr 3 (by decide) (by decide) (by decide)]
        show r12 (zNt st) = _
        rw [e12, pk_us, e2]; exact g3
      · rw [qr 4 (by decide) (by decide) (by decide)]
        show r14 (zNt st) = _
        rw [e14, pk_us, e3]; exact g4
      · rw [qr b (by omega) (by omega) (by omega)]
        by_cases z4 : b = 4
        · subst z4; rw [zs_in, e14, pk_un ho]
        · rw [zs_out (zn_beq z4)]
          by_cases z3 : b = 3
          · subst z3; rw [zs_in, e12, pk_un ho]
          · rw [zs_out (zn_beq z3)]
            by_cases z2 : b = 2
            · subst z2; rw [zs_in, e10, pk_un ho]
            · rw [zs_out (zn_beq z2)]
              by_cases z1 : b = 1
              · subst z1; rw [zs_in, e7, pk_un ho]
              · rw [zs_out (zn_beq z1)]
      · have hz : ∀ (f : zRow), zrO f (6 * zNt st) (zgt a (zNt st)).1 i j = f j := fun f => by
          unfold zrO
          rw [if_neg (by omega)]
        by_cases z8 : b = 8
        · subst z8; rw [q8]; exact hz _
        · by_cases z7 : b = 7
          · subst z7; rw [q7]; exact hz _
          · rw [show b = 6 from by omega, q6]; exact hz _
      · rw [qr b (by omega) (by omega) (by omega), zs_out (zn_beq (by omega)), zs_out (zn_beq (by omega)), zs_out (zn_beq (by omega)), zs_out (zn_beq (by omega))]
  · rw [zoT_1 (zSt_no c1 c2)] at k
    exact And.intro (fun q => absurd rfl q) (fun _ => k _ rfl (zRA_0 (zRA_0 h)))
/-! copy -/
noncomputable def zoC (a : zAb) (st : Int32) : Int32 × zAb := zif (zSt st) (0, zup a (1 - zNt st) (zgt a (zNt st))) (1, a)
theorem zoC_1 {a : zAb} {st : Int32} (h : ¬ zSt st) : zoC a st = (1, a) := zif_f h
theorem zoC_0 {a : zAb} {st : Int32} (h : zSt st) : zoC a st = (0, zup a (1 - zNt st) (zgt a (zNt st))) := zif_t h
theorem zoC_W {a : zAb} {st : Int32} (h : zWA a) : zWA (zoC a st).2 := by
  by_cases h1 : zSt st
  · rw [zoC_0 h1]; exact zWA_up h (zWA_s h)
  · rw [zoC_1 h1]; exact h
theorem zk_copy {O P0 P1 N : zMem} {a : zAb} {st : Int32} {post : Int32 → zMem → zMem → Prop} (hW : zWA a) (hC : zCA O P0 P1 N a) (k : ∀ P0' P1' : zMem, zCA O P0' P1' N (zoC a st).2 → post (zoC a st).1 P0' P1') : zw_L_copy O P0 P1 st post := by
  refine zr_pileAt (O := O) (fun c => ?_) (fun c => ?_) (fun c1 c2 => ?_)
  · rw [zoC_0 (Or.inl c), c, zNt_0] at k
    exact And.intro (fun q => absurd c q) (fun _ => zr_likeP hC.1 hW.1.1.1 (fun P' hP' => k P0 P' (zCA_up1 hC hP')))
  · rw [zoC_0 (Or.inr c), c, zNt_1] at k
    have hc : ¬ st = 0 := by rw [c]; decide
    exact And.intro (fun _ => zr_likeP hC.2.1 hW.2.1.1.1 (fun P' hP' => k P' P1 (zCA_up0 hC hP'))) (fun q => absurd q hc)
  · rw [zoC_1 (zSt_no c1 c2)] at k; exact k P0 P1 hC
/-- i places from s's on have come to o's -/
def zcO (f : zRow) (s o i : Nat) : zRow := fun x => if 6 * o ≤ x ∧ x < 6 * o + i then f (6 * s + (x - 6 * o)) else f x
theorem zcO_0 (f : zRow) (s o : Nat) : zcO f s o 0 = f := by
  funext x; unfold zcO; rw [if_neg (by omega)]
theorem zcO_step (f : zRow) {s o i : Nat} (h : s ≠ o) (hi : i < 6) : upd (zcO f s o i) (6 * o + i) (zcO f s o i (6 * s + i)) = zcO f s o (i + 1) := by
  funext x
  unfold upd zcO
  by_cases q : x = 6 * o + i
  · subst q
    rw [if_pos rfl, if_neg (by omega), if_pos (by omega)]
    congr 1; omega
  · rw [if_neg q]
    by_cases w : 6 * o ≤ x ∧ x < 6 * o + i
    · rw [if_pos w, if_pos (by omega)]
    · rw [if_neg w, if_neg (by omega)]
theorem zr_copy_75 {M : zMem} {s o : Nat} {K : zMem → Prop} (hs : s < 2) (ho : o < 2) (hso : s ≠ o) (hK : ∀ (T : zMem), T 6 = zcO (M 6) s o 6 → T 7 = zcO (M 7) s o 6 → T 8 = zcO (M 8) s o 6 → (∀ r : Nat, r ≠ 6 → r ≠ 7 → r ≠ 8 → T r = M r) → K T) : ∀ (d i : Nat) (M1 : zMem), i + d = 6 → M1 6 = zcO (M 6) s o i → M1 7 = zcO (M 7) s o i → M1 8 = zcO (M 8) s o i → (∀ r : Nat, r ≠ 6 → r ≠ 7 → r ≠ 8 → M1 r = M r) → zw_X6_copy__75 (nI s) (nI o) K (d + 1) (nI i) M1 := by
  intro d
  induction d with
  | zero =>
    intro i M1 hi q6 q7 q8 qr
    have e : i = 6 := by omega
    subst e
    exact And.intro (fun _ => hK M1 q6 q7 q8 qr) (fun c => absurd (by decide) c)
  | succ d ih =>
    intro i M1 hi q6 q7 q8 qr
    unfold zw_X6_copy__75
    rw [zn_ix6, zn_ix6, nI_clamp (by omega), nI_clamp (by omega)]
    have v3 : vp_in (nI (6 * s + i)) 12 := vp_in_nI (by omega) (by decide)
    have v4 : vp_in (nI (6 * o + i)) 12 := vp_in_nI (by omega) (by decide)
    refine And.intro (fun c => absurd c (nI_ge (b := 6) (by omega) (by omega))) (fun _ => And.intro v3 (And.intro v4 (fun r1 e1 => And.intro v3 (And.intro v4 (fun r2 e2 => And.intro v3 (And.intro v4 (fun r3 e3 => ?_)))))))
    intro z ez
    rw [ez, nI_1]
    refine ih (i + 1) _ (by omega) ?_ ?_ ?_ (fun r h6 h7 h8 => ?_)
    · show r1 = _
      rw [e1, q6]; exact zcO_step (M 6) hso (by omega)
    · show r2 = _
      rw [e2, q7]; exact zcO_step (M 7) hso (by omega)
    · show r3 = _
      rw [e3, q8]; exact zcO_step (M 8) hso (by omega)
    · rw [zs_out (zn_beq h8), zs_out (zn_beq h7), zs_out (zn_beq h6)]; exact qr r h6 h7 h8
theorem zf_copy {M : zMem} {a : zAb} {st : Int32} {post : zMem → Prop} (hW : zWA a) (h : zRA M a) (k : ∀ M' : zMem, M' 0 0 = (zoC a st).1 → zRA M' (zoC a st).2 → post M') : zw_X6_copy_ M st post := by
  refine zr_isStack (fun hst => ?_) (fun c1 c2 => ?_)
  · have h1 : zRA (zset M 0 (fun _ => 0)) a := zRA_0 h
    have hst : zSt st := hst
    obtain ⟨e1, hs⟩ := zSt_n hst
    obtain ⟨g1, g2, g3, g4, g5, g6⟩ := zRA_s hs h1
    have hWs := zWA_s (s := zNt st) hW
    have hn6 := hWs.1.1
    have cs : st.toNatClampNeg = zNt st := by rw [e1, nI_clamp (by omega), zNt_n (by omega)]
    have sv : vp_in st 2 := by rw [e1]; exact vp_in_nI hs (by decide)
    rw [zoC_0 hst] at k
    refine And.intro (fun _ => ?_) (fun q => absurd q (by decide))
    intro x2 ex
    have ex' : x2 = nI (1 - zNt st) := by
      rw [ex]
      conv => lhs; rw [e1]
      rw [show (1 : Int32) = nI 1 from rfl, pk_sub (by omega)]
    obtain ⟨o, hoe⟩ : ∃ o, 1 - zNt st = o := ⟨_, rfl⟩
    rw [hoe] at ex' k
    have ho : o < 2 := by omega
    have hso : zNt st ≠ o := by omega
    have ov : vp_in x2 2 := by rw [ex']; exact vp_in_nI ho (by decide)
    have co : x2.toNatClampNeg = o := by rw [ex']; exact nI_clamp (by omega)
    refine And.intro sv (And.intro ov (fun r1 f1 => And.intro sv (And.intro ov (fun r2 f2 => And.intro sv (And.intro ov (fun r3 f3 => And.intro sv (And.intro ov (fun r4 f4 => And.intro sv (And.intro ov (fun r5 f5 => ?_))))))))))
    rw [cs, co] at f1 f2 f3 f4 f5
    have L := zr_copy_75 (M := zset (zset (zset (zset (zset (zset M 0 (fun _ => (0 : Int32))) 1 r1) 2 r2) 3 r3) 4 r4) 5 r5) (s := zNt st) (o := o) (K := fun T => post T) hs ho hso ?_ 6 0 (zset (zset (zset (zset (zset (zset M 0 (fun _ => (0 : Int32))) 1 r1) 2 r2) 3 r3) 4 r4) 5 r5) (by omega) (zcO_0 _ _ _).symm (zcO_0 _ _ _).symm (zcO_0 _ _ _).symm (fun _ _ _ _ => rfl)
    · rw [← e1, ← ex'] at L
      exact ⟨_, L⟩
    · intro T q6 q7 q8 qr
      have cz : ∀ {f : zRow} {j : Nat}, j < 6 → zcO f (zNt st) o 6 (6 * o + j) = f (6 * zNt st + j) := fun {f j} hj => by
        unfold zcO
        rw [if_pos (by omega), show 6 * o + j - 6 * o = j from by omega]
      refine k T ?_ (zRA_up ho hW h1 ⟨?_, fun j hj => ⟨?_, ?_, ?_⟩, ?_, ?_, ?_, ?_⟩ (fun b h1 h2 p hp => ?_) (fun b h1 h2 j hj => ?_) (fun b h1 h2 => ?_))
      · rw [qr 0 (by decide) (by decide) (by decide)]; rfl
      · rw [qr 5 (by decide) (by decide) (by decide)]
        show r5 o = _
        rw [f5, pk_us]; exact g1
      · have hj : j < (zgt a (zNt st)).1 := hj
        rw [q6, cz (by omega)]; exact (g2 j hj).1
      · have hj : j < (zgt a (zNt st)).1 := hj
        rw [q7, cz (by omega)]; exact (g2 j hj).2.1
      · have hj : j < (zgt a (zNt st)).1 := hj
        rw [q8, cz (by omega)]; exact (g2 j hj).2.2
      · rw [qr 1 (by decide) (by decide) (by decide)]
        show r1 o = _
        rw [f1, pk_us]; exact g3
      · rw [qr 2 (by decide) (by decide) (by decide)]
        show r2 o = _
        rw [f2, pk_us]; exact g4
      · rw [qr 3 (by decide) (by decide) (by decide)]
        show r3 o = _
        rw [f3, pk_us]; exact g5
      · rw [qr 4 (by decide) (by decide) (by decide)]
        show r4 o = _
        rw [f4, pk_us]; exact g6
      · rw [qr b (by omega) (by omega) (by omega)]
        by_cases z5 : b = 5
        · subst z5; rw [zs_in, f5, pk_un hp]
        · rw [zs_out (zn_beq z5)]
          by_cases z4 : b = 4
          · subst z4; rw [zs_in, f4, pk_un hp]
          · rw [zs_out (zn_beq z4)]
            by_cases z3 : b = 3
            · subst z3; rw [zs_in, f3, pk_un hp]
            · rw [zs_out (zn_beq z3)]
              by_cases z2 : b = 2
              · subst z2; rw [zs_in, f2, pk_un hp]
              · rw [zs_out (zn_beq z2)]
                by_cases z1 : b = 1
                · subst z1; rw [zs_in, f1, pk_un hp]
                · rw [zs_out (zn_beq z1)]
      · have hz : ∀ (f : zRow), zcO f (zNt st) o 6 j = f j := fun f => by
          unfold zcO
          rw [if_neg (by omega)]
        by_cases z8 : b = 8
        · subst z8; rw [q8]; exact hz _
        · by_cases z7 : b = 7
          · subst z7; rw [q7]; exact hz _
          · rw [show b = 6 from by omega, q6]; exact hz _
      · rw [qr b (by omega) (by omega) (by omega), zs_out (zn_beq (by omega)), zs_out (zn_beq (by omega)), zs_out (zn_beq (by omega)), zs_out (zn_beq (by omega)), zs_out (zn_beq (by omega))]
  · rw [zoC_1 (zSt_no c1 c2)] at k
    exact And.intro (fun q => absurd rfl q) (fun _ => k _ rfl (zRA_0 (zRA_0 h)))
