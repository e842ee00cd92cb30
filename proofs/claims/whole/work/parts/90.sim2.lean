/-! layer -/
def zokL (n : Nat) (i x y w : Int32) : Prop := zIx x y ∧ (1 ≤ w.toInt ∧ w.toInt ≤ 4) ∧ (0 ≤ i.toInt ∧ i.toInt ≤ n)
noncomputable def zoL (a : zAb) (st i x y w : Int32) : Int32 × Int32 × zAb :=
  zif (zSt st) (zif (zokL (zgt a (zNt st)).1 i x y w) (zif ((zgt a (zNt st)).1 = 6) (0, -1, a) (0, nI ((zgt a (zNt st)).1 + 1), zup a (zNt st) (zsI (zgt a (zNt st)) (zNt i) (zlu x y) (zll x y) (zNt w)))) (2, 0, a)) (1, 0, a)
theorem zoL_1 {a : zAb} {st i x y w : Int32} (h : ¬ zSt st) : zoL a st i x y w = (1, 0, a) := zif_f h
theorem zoL_2 {a : zAb} {st i x y w : Int32} (h : zSt st) (g : ¬ zokL (zgt a (zNt st)).1 i x y w) : zoL a st i x y w = (2, 0, a) := (zif_t h).trans (zif_f g)
theorem zoL_6 {a : zAb} {st i x y w : Int32} (h : zSt st) (g : zokL (zgt a (zNt st)).1 i x y w) (e : (zgt a (zNt st)).1 = 6) : zoL a st i x y w = (0, -1, a) := (zif_t h).trans ((zif_t g).trans (zif_t e))
theorem zoL_0 {a : zAb} {st i x y w : Int32} (h : zSt st) (g : zokL (zgt a (zNt st)).1 i x y w) (e : ¬ (zgt a (zNt st)).1 = 6) : zoL a st i x y w = (0, nI ((zgt a (zNt st)).1 + 1), zup a (zNt st) (zsI (zgt a (zNt st)) (zNt i) (zlu x y) (zll x y) (zNt w))) := (zif_t h).trans ((zif_t g).trans (zif_f e))
theorem zWs_I {s : zStk} {i p q w : Nat} (h : zWs s) (hn : s.1 < 6) (hi : i ≤ s.1) (hp : 1 ≤ p ∧ p ≤ 9) (hq : 1 ≤ q ∧ q ≤ 9) (hw : 1 ≤ w ∧ w ≤ 4) : zWs (zsI s i p q w) := by
  obtain ⟨⟨h1, h2⟩, h3⟩ := h
  refine ⟨⟨?_, fun j hj => ?_⟩, h3⟩
  · show s.1 + 1 ≤ 6
    omega
  · have hj : j < s.1 + 1 := hj
    show 1 ≤ zins s.2.1 i p j ∧ zins s.2.1 i p j ≤ 9 ∧ 1 ≤ zins s.2.2.1 i q j ∧ zins s.2.2.1 i q j ≤ 9 ∧ 1 ≤ zins s.2.2.2.1 i w j ∧ zins s.2.2.2.1 i w j ≤ 4
    unfold zins
    by_cases q1 : j < i
    · rw [if_pos q1, if_pos q1, if_pos q1]; exact h2 j (by omega)
    · rw [if_neg q1, if_neg q1, if_neg q1]
      by_cases q2 : j = i
      · rw [if_pos q2, if_pos q2, if_pos q2]; exact ⟨hp.1, hp.2, hq.1, hq.2, hw.1, hw.2⟩
      · rw [if_neg q2, if_neg q2, if_neg q2]; exact h2 (j - 1) (by omega)
theorem zt_n {x : Int32} {n : Nat} (h0 : 0 ≤ x.toInt) (h : x.toInt ≤ n) : x = nI (zNt x) ∧ zNt x ≤ n := by
  unfold zNt
  refine ⟨zn_ofI (by omega), by omega⟩
theorem zoL_W {a : zAb} {st i x y w : Int32} (h : zWA a) : zWA (zoL a st i x y w).2.2 := by
  by_cases h1 : zSt st
  · by_cases h2 : zokL (zgt a (zNt st)).1 i x y w
    · by_cases h3 : (zgt a (zNt st)).1 = 6
      · rw [zoL_6 h1 h2 h3]; exact h
      · rw [zoL_0 h1 h2 h3]
        obtain ⟨b1, b2, b3, b4⟩ := zl_b h2.1
        have hs := zWA_s (s := zNt st) h
        have h6 := hs.1.1
        refine zWA_up h (zWs_I hs (by omega) (zt_n h2.2.2.1 h2.2.2.2).2 ⟨b1, b2⟩ ⟨b3, b4⟩ ?_)
        have := h2.2.1
        unfold zNt
        omega
    · rw [zoL_2 h1 h2]; exact h
  · rw [zoL_1 h1]; exact h
theorem zk_layer {O P0 P1 N : zMem} {out : zRowL} {a : zAb} {st i x y w : Int32} {post : Int32 → zMem → zMem → zRowL → Prop} (hW : zWA a) (hC : zCA O P0 P1 N a) (k : ∀ (P0' P1' : zMem) (out' : zRowL), ((zoL a st i x y w).1 = 0 → out' 0 = Int32.toInt64 (zoL a st i x y w).2.1) → zCA O P0' P1' N (zoL a st i x y w).2.2 → post (zoL a st i x y w).1 P0' P1' out') : zw_L_layer O P0 P1 out st i x y w post := by
  have fail : zSt st → ¬ zokL (zgt a (zNt st)).1 i x y w → post 2 P0 P1 out := fun h1 h2 => by
    rw [zoL_2 h1 h2] at k; exact k P0 P1 out (fun q => absurd (show (2 : Int32) = 0 from q) (by decide)) hC
  refine zr_pileAt (O := O) (fun c => ?_) (fun c => ?_) (fun c1 c2 => ?_)
  · have hst : zSt st := Or.inl c
    have e0 : zNt st = 0 := by rw [c]; exact zNt_0
    refine zr_needIndex (fun hi => And.intro (fun d => fail hst (fun q => by have := zi_lt zc_1 d; have := q.2.1; omega)) (fun d1 => And.intro (fun d2 => And.intro (fun d => fail hst (fun q => by have := zi_lt zn_0 d; have := q.2.2; omega)) (fun d3 => ?_)) (fun d => fail hst (fun q => by have := zi_nle zc_4 d; have := q.2.1; omega)))) (fun hi => fail hst (fun q => hi q.1))
    have hP := hC.1
    have hs := zWA_s (s := zNt st) hW
    rw [e0] at hs
    have hs : zWs a.1 := hs
    have p5 : P0 5 0 = nI a.1.1 := hP.1
    have h6 := hs.1.1
    rw [p5]
    refine And.intro (fun d4 => ?_) (fun d => fail hst (fun q => ?_))
    · have d4' := zi_le (nI_toInt (n := a.1.1) (by omega)) d4
      have hok : zokL (zgt a (zNt st)).1 i x y w := by
        rw [e0]; exact ⟨hi, ⟨zi_nlt zc_1 d1, zi_le zc_4 d2⟩, ⟨zi_nlt zn_0 d3, d4'⟩⟩
      obtain ⟨e3, e4, n1, n2, m1, m2⟩ := zIx_t hi
      obtain ⟨ei, hil⟩ := zt_n (zi_nlt zn_0 d3) d4'
      have ew : w = nI (zNt w) := (zt_n (n := 4) (by have := hok.2.1; omega) (by have := hok.2.1; omega)).1
      rw [e3, e4, ei, ew]
      refine zr_insert hP h6 hil n1 n2 m1 m2 (fun hl P' hP' => ?_) (fun hl => ?_)
      · have hne : ¬ (zgt a (zNt st)).1 = 6 := by rw [e0]; exact Nat.ne_of_lt hl
        rw [zoL_0 hst hok hne, e0] at k
        refine And.intro (fun q => absurd q (by decide)) (fun _ => ?_)
        intro r er
        have e5 : P' 5 0 = nI (a.1.1 + 1) := hP'.1
        refine k P' P1 r (fun _ => ?_) (zCA_up0 hC hP')
        rw [er, show (0 : Int32).toNatClampNeg = 0 from rfl, pk_uLs, e5]; rfl
      · have he : (zgt a (zNt st)).1 = 6 := by rw [e0]; exact hl
        rw [zoL_6 hst hok he] at k
        refine And.intro (fun _ => ?_) (fun q => absurd rfl q)
        intro r er
        refine k P0 P1 r (fun _ => ?_) hC
        rw [er, show (0 : Int32).toNatClampNeg = 0 from rfl, pk_uLs]
    · have := q.2.2.2
      rw [e0] at this
      have d' := zi_nle (nI_toInt (n := a.1.1) (by omega)) d
      have this : i.toInt ≤ (a.1.1 : Int) := this
      omega
  · have hst : zSt st := Or.inr c
    have e0 : zNt st = 1 := by rw [c]; exact zNt_1
    refine zr_needIndex (fun hi => And.intro (fun d => fail hst (fun q => by have := zi_lt zc_1 d; have := q.2.1; omega)) (fun d1 => And.intro (fun d2 => And.intro (fun d => fail hst (fun q => by have := zi_lt zn_0 d; have := q.2.2; omega)) (fun d3 => ?_)) (fun d => fail hst (fun q => by have := zi_nle zc_4 d; have := q.2.1; omega)))) (fun hi => fail hst (fun q => hi q.1))
    have hP := hC.2.1
    have hs := zWA_s (s := zNt st) hW
    rw [e0] at hs
    have hs : zWs a.2.1 := hs
    have p5 : P1 5 0 = nI a.2.1.1 := hP.1
    have h6 := hs.1.1
    rw [p5]
    refine And.intro (fun d4 => ?_) (fun d => fail hst (fun q => ?_))
    · have d4' := zi_le (nI_toInt (n := a.2.1.1) (by omega)) d4
      have hok : zokL (zgt a (zNt st)).1 i x y w := by
        rw [e0]; exact ⟨hi, ⟨zi_nlt zc_1 d1, zi_le zc_4 d2⟩, ⟨zi_nlt zn_0 d3, d4'⟩⟩
      obtain ⟨e3, e4, n1, n2, m1, m2⟩ := zIx_t hi
      obtain ⟨ei, hil⟩ := zt_n (zi_nlt zn_0 d3) d4'
      have ew : w = nI (zNt w) := (zt_n (n := 4) (by have := hok.2.1; omega) (by have := hok.2.1; omega)).1
      rw [e3, e4, ei, ew]
      refine zr_insert hP h6 hil n1 n2 m1 m2 (fun hl P' hP' => ?_) (fun hl => ?_)
      · have hne : ¬ (zgt a (zNt st)).1 = 6 := by rw [e0]; exact Nat.ne_of_lt hl
        rw [zoL_0 hst hok hne, e0] at k
        refine And.intro (fun q => absurd q (by decide)) (fun _ => ?_)
        intro r er
        have e5 : P' 5 0 = nI (a.2.1.1 + 1) := hP'.1
        refine k P0 P' r (fun _ => ?_) (zCA_up1 hC hP')
        rw [er, show (0 : Int32).toNatClampNeg = 0 from rfl, pk_uLs, e5]; rfl
      · have he : (zgt a (zNt st)).1 = 6 := by rw [e0]; exact hl
        rw [zoL_6 hst hok he] at k
        refine And.intro (fun _ => ?_) (fun q => absurd rfl q)
        intro r er
        refine k P0 P1 r (fun _ => ?_) hC
        rw [er, show (0 : Int32).toNatClampNeg = 0 from rfl, pk_uLs]
    · have := q.2.2.2
      rw [e0] at this
      have d' := zi_nle (nI_toInt (n := a.2.1.1) (by omega)) d
      have this : i.toInt ≤ (a.2.1.1 : Int) := this
      omega
  · rw [zoL_1 (zSt_no c1 c2)] at k; exact k P0 P1 out (fun q => absurd (show (1 : Int32) = 0 from q) (by decide)) hC
theorem zshO_ins {f : zRow} {g : Nat → Nat} {i n x b : Nat} (hf : ∀ j : Nat, j < n → f (b + j) = nI (g j)) (hi : i ≤ n) : ∀ j : Nat, j < n + 1 → upd (zsh f (b + i) (b + n)) (b + i) (nI x) (b + j) = nI (zins g i x j) := fun j hj => by
  unfold upd zsh zins
  by_cases q : j = i
  · subst q; rw [if_pos rfl, if_neg (by omega), if_pos rfl]
  · rw [if_neg (by omega)]
    by_cases w : j < i
    · rw [if_neg (by omega), if_pos w]; exact hf j (by omega)
    · rw [if_pos (by omega), if_neg w, if_neg q, show b + j - 1 = b + (j - 1) from by omega]; exact hf (j - 1) (by omega)
theorem zr_layer_84 {M : zMem} {s i n : Nat} {c3 c4 c5 : Int32} {K : zMem → Prop} (hs : s < 2) (hn : n < 6) (hK : ∀ T : zMem, T 6 = zsh (M 6) (6 * s + i) (6 * s + n) → T 7 = zsh (M 7) (6 * s + i) (6 * s + n) → T 8 = zsh (M 8) (6 * s + i) (6 * s + n) → (∀ r : Nat, r ≠ 6 → r ≠ 7 → r ≠ 8 → T r = M r) → K T) : ∀ (d j : Nat) (M1 : zMem), i + d = j → j ≤ n → M1 6 = zsh (M 6) (6 * s + j) (6 * s + n) → M1 7 = zsh (M 7) (6 * s + j) (6 * s + n) → M1 8 = zsh (M 8) (6 * s + j) (6 * s + n) → (∀ r : Nat, r ≠ 6 → r ≠ 7 → r ≠ 8 → M1 r = M r) → zw_X6_layer_84 (nI s) (nI i) c3 c4 c5 K (d + 1) (nI (6 * s + j)) M1 := by
  intro d
  induction d with
  | zero =>
    intro j M1 hj hjn q6 q7 q8 qr
    have e : j = i := by omega
    subst e
    unfold zw_X6_layer_84
    rw [zn_ix6]
    exact And.intro (fun _ => hK M1 q6 q7 q8 qr) (fun c => absurd (nI_le (Nat.le_refl _) (by omega)) c)
  | succ d ih =>
    intro j M1 hj hjn q6 q7 q8 qr
    obtain ⟨j', rfl⟩ : ∃ j', j = j' + 1 := ⟨j - 1, by omega⟩
    unfold zw_X6_layer_84
    rw [zn_ix6, show 6 * s + (j' + 1) = 6 * s + j' + 1 from by omega, nI_pred, nI_clamp (by omega), nI_clamp (by omega)]
    refine And.intro (fun c => absurd c (nI_ge (by omega) (by omega))) (fun _ => ?_)
    refine And.intro (vp_in_nI (by omega) (by decide)) (And.intro (vp_in_nI (by omega) (by decide)) (fun r1 e1 => And.intro (vp_in_nI (by omega) (by decide)) (And.intro (vp_in_nI (by omega) (by decide)) (fun r2 e2 => And.intro (vp_in_nI (by omega) (by decide)) (And.intro (vp_in_nI (by omega) (by decide)) (fun r3 e3 => ?_))))))
    intro z ez
    rw [pk_m1] at ez
    rw [ez]
    refine ih j' _ (by omega) (by omega) ?_ ?_ ?_ (fun r h6 h7 h8 => ?_)
    · show r1 = _
      rw [e1, q6]; exact zsh_step (M 6) (j := 6 * s + j') (n := 6 * s + n) (by omega)
    · show r2 = _
      rw [e2, q7]; exact zsh_step (M 7) (j := 6 * s + j') (n := 6 * s + n) (by omega)
    · show r3 = _
      rw [e3, q8]; exact zsh_step (M 8) (j := 6 * s + j') (n := 6 * s + n) (by omega)
    · rw [zs_out (zn_beq h8), zs_out (zn_beq h7), zs_out (zn_beq h6)]; exact qr r h6 h7 h8
theorem zf_layer {M : zMem} {a : zAb} {st i x y w : Int32} {post : Int32 → zMem → Prop} (hW : zWA a) (h : zRA M a) (k : ∀ M' : zMem, M' 0 0 = (zoL a st i x y w).1 → zRA M' (zoL a st i x y w).2.2 → post (zoL a st i x y w).2.1 M') : zw_X6_layer M st i x y w post := by
  refine zr_isStack (fun hst => ?_) (fun c1 c2 => ?_)
  · have h1 : zRA (zset M 0 (fun _ => 0)) a := zRA_0 h
    have hst : zSt st := hst
    refine And.intro (fun q => absurd q (by decide)) (fun _ => ?_)
    have bad : ¬ zokL (zgt a (zNt st)).1 i x y w → post 0 (zset (zset M 0 (fun _ => 0)) 0 (fun _ => 2)) := fun q => by
      rw [zoL_2 hst q] at k
      exact k _ rfl (zRA_0 h1)
    obtain ⟨e1, hs⟩ := zSt_n hst
    have hRs := zRA_s hs h1
    have hWs := zWA_s (s := zNt st) hW
    obtain ⟨g1, g2, g3, g4, g5, g6⟩ := hRs
    have h6 := hWs.1.1
    have cs : st.toNatClampNeg = zNt st := by rw [e1, nI_clamp (by omega), zNt_n (by omega)]
    have sv : vp_in st 2 := by rw [e1]; exact vp_in_nI hs (by decide)
    have t5 : (zset M 0 (fun _ => (0 : Int32))) 5 st.toNatClampNeg = nI (zgt a (zNt st)).1 := by rw [cs]; exact g1
    refine zr_isIndex (fun hi => ?_) (fun hi => ?_)
    · refine And.intro (fun q => absurd q (by decide)) (fun _ => And.intro (fun d => ?_) (fun d1 => And.intro (fun d => ?_) (fun d2 => And.intro (fun d => ?_) (fun d3 => And.intro sv ?_))))
      · exact zr_right0 rfl (by decide) (And.intro (fun q => absurd rfl q) (fun _ => bad (fun q => by have := zi_lt zc_1 d; have := q.2.1; omega)))
      · exact zr_right0 rfl (by decide) (And.intro (fun q => absurd rfl q) (fun _ => bad (fun q => by have := zi_gt zc_4 d; have := q.2.1; omega)))
      · exact zr_right0 rfl (by decide) (And.intro (fun q => absurd rfl q) (fun _ => bad (fun q => by have := zi_lt zn_0 d; have := q.2.2; omega)))
      · rw [t5]
        by_cases hlt : nI (zgt a (zNt st)).1 < i
        · refine ⟨fun v => v = 0, ?_, And.intro (fun _ => rfl) (fun q => absurd hlt q)⟩
          rintro v rfl
          exact zr_right0 rfl (by decide) (And.intro (fun q => absurd rfl q) (fun _ => bad (fun q => by have := zi_gt (nI_toInt (by omega)) hlt; have := q.2.2; omega)))
        · refine ⟨fun v => v = 1, ?_, And.intro (fun q => absurd q hlt) (fun _ => rfl)⟩
          rintro v rfl
          have hok : zokL (zgt a (zNt st)).1 i x y w := ⟨hi, ⟨zi_nlt zc_1 d1, zi_ngt zc_4 d2⟩, ⟨zi_nlt zn_0 d3, zi_ngt (nI_toInt (by omega)) hlt⟩⟩
          obtain ⟨e3, e4, n1, n2, m1, m2⟩ := zIx_t hi
          obtain ⟨ei, hil⟩ := zt_n hok.2.2.1 hok.2.2.2
          have ew : w = nI (zNt w) := (zt_n (n := 4) (by have := hok.2.1; omega) (by have := hok.2.1; omega)).1
          refine zr_right1 rfl (by decide) (And.intro (fun _ => And.intro sv ?_) (fun q => absurd q (by decide)))
          rw [t5]
          refine And.intro (fun q => And.intro sv ?_) (fun q => ?_)
          · have hne : ¬ (zgt a (zNt st)).1 = 6 := fun z => q (by rw [z]; rfl)
            rw [zoL_0 hst hok hne] at k
            intro z ez
            have ez' : z = nI (6 * zNt st + (zgt a (zNt st)).1) := by
              rw [ez]
              have := zn_ix6 (zNt st) (zgt a (zNt st)).1
              rwa [← e1] at this
            rw [ez']
            have es6 : (6 : Int32) * st + i = nI (6 * zNt st + zNt i) := by
              conv => lhs; rw [e1, ei]
              exact zn_ix6 _ _
            have L := zr_layer_84 (M := zset M 0 (fun _ => (0 : Int32))) (s := zNt st) (i := zNt i) (n := (zgt a (zNt st)).1) (c3 := x) (c4 := y) (c5 := w) (K := (fun (T_115 : zMem) => zw_X6_shared x y (fun (v_116 : Int32) => (¬ v_116 = 0 ∧ (vp_in (((6 : Int32) * st) + i) 12 ∧ ∀ r_119 : zRow, r_119 = (upd (T_115 6) (Int32.toNatClampNeg (((6 : Int32) * st) + i)) (x / v_116)) → ((¬ v_116 = 0 ∧ (vp_in (((6 : Int32) * st) + i) 12 ∧ ∀ r_122 : zRow, r_122 = (upd (T_115 7) (Int32.toNatClampNeg (((6 : Int32) * st) + i)) (y / v_116)) → ((vp_in (((6 : Int32) * st) + i) 12 ∧ ∀ r_124 : zRow, r_124 = (upd (T_115 8) (Int32.toNatClampNeg (((6 : Int32) * st) + i)) w) → ((vp_in st 2 ∧ (vp_in st 2 ∧ ∀ r_127 : zRow, r_127 = (upd (T_115 5) (Int32.toNatClampNeg st) (((T_115 5) (Int32.toNatClampNeg st)) + (1 : Int32))) → ((vp_in st 2 ∧ post (r_127 (Int32.toNatClampNeg st)) (zset (zset (zset (zset T_115 5 r_127) 6 r_119) 7 r_122) 8 r_124)))))))))))))))) hs (by omega) ?_ ((zgt a (zNt st)).1 - zNt i) (zgt a (zNt st)).1 (zset M 0 (fun _ => (0 : Int32))) (by omega) (Nat.le_refl _) (zsh_n _ _).symm (zsh_n _ _).symm (zsh_n _ _).symm (fun _ _ _ _ => rfl)
            · rw [← e1, ← ei] at L
              exact ⟨_, L⟩
            · intro T q6 q7 q8 qr
              obtain ⟨d1', nz⟩ := zn_dv (b := zNt y) n1 n2
              have d2' := zn_dv' n1 n2 m2
              rw [es6, cs]
              have iv : vp_in (nI (6 * zNt st + zNt i)) 12 := vp_in_nI (by omega) (by decide)
              have ci : (nI (6 * zNt st + zNt i)).toNatClampNeg = 6 * zNt st + zNt i := nI_clamp (by omega)
              have S := zr_shared (a := zNt x) (b := zNt y) (post := (fun (v_116 : Int32) => (¬ v_116 = 0 ∧ (vp_in (nI (6 * zNt st + zNt i)) 12 ∧ ∀ r_119 : zRow, r_119 = (upd (T 6) (Int32.toNatClampNeg (nI (6 * zNt st + zNt i))) (x / v_116)) → ((¬ v_116 = 0 ∧ (vp_in (nI (6 * zNt st + zNt i)) 12 ∧ ∀ r_122 : zRow, r_122 = (upd (T 7) (Int32.toNatClampNeg (nI (6 * zNt st + zNt i))) (y / v_116)) → ((vp_in (nI (6 * zNt st + zNt i)) 12 ∧ ∀ r_124 : zRow, r_124 = (upd (T 8) (Int32.toNatClampNeg (nI (6 * zNt st + zNt i))) w) → ((vp_in st 2 ∧ (vp_in st 2 ∧ ∀ r_127 : zRow, r_127 = (upd (T 5) (zNt st) (((T 5) (zNt st)) + (1 : Int32))) → ((vp_in st 2 ∧ post (r_127 (zNt st)) (zset (zset (zset (zset T 5 r_127) 6 r_119) 7 r_122) 8 r_124))))))))))))))) (by omega) (by omega) (And.intro nz (And.intro iv (fun r1 f1 => And.intro nz (And.intro iv (fun r2 f2 => And.intro iv (fun r3 f3 => And.intro sv (And.intro sv (fun r4 f4 => And.intro sv ?_))))))))
              · rw [← e3, ← e4] at S; exact S
              · rw [← e3] at d1'
                rw [← e4] at d2'
                rw [ci, d1', q6] at f1
                rw [ci, d2', q7] at f2
                rw [ci, ew, q8] at f3
                have t5' : T 5 (zNt st) = nI (zgt a (zNt st)).1 := by
                  rw [qr 5 (by decide) (by decide) (by decide)]; exact g1
                rw [t5', nI_1] at f4
                have e5 : r4 (zNt st) = nI ((zgt a (zNt st)).1 + 1) := by rw [f4, pk_us]
                rw [e5]
                refine k _ ?_ (zRA_up hs hW h1 ⟨e5, fun j hj => ⟨?_, ?_, ?_⟩, ?_, ?_, ?_, ?_⟩ (fun b h1 h2 o ho => ?_) (fun b h1 h2 j hj => ?_) (fun b h1 h2 => ?_))
                · show T 0 0 = 0
                  rw [qr 0 (by decide) (by decide) (by decide)]; rfl
                · show r1 _ = _
                  rw [f1]; exact zshO_ins (fun j hj => (g2 j hj).1) hil j hj
                · show r2 _ = _
                  rw [f2]; exact zshO_ins (fun j hj => (g2 j hj).2.1) hil j hj
                · show r3 _ = _
                  rw [f3]; exact zshO_ins (fun j hj => (g2 j hj).2.2) hil j hj
                · show T 1 _ = _
                  rw [qr 1 (by decide) (by decide) (by decide)]; exact g3
                · show T 2 _ = _
                  rw [qr 2 (by decide) (by decide) (by decide)]; exact g4
                · show T 3 _ = _
                  rw [qr 3 (by decide) (by decide) (by decide)]; exact g5
                · show T 4 _ = _
                  rw [qr 4 (by decide) (by decide) (by decide)]; exact g6
                · rw [zs_out (zn_beq (by omega)), zs_out (zn_beq (by omega)), zs_out (zn_beq (by omega))]
                  by_cases z5 : b = 5
                  · subst z5; rw [zs_in, f4, pk_un ho, qr 5 (by decide) (by decide) (by decide)]
                  · rw [zs_out (zn_beq z5), qr b (by omega) (by omega) (by omega)]
                · have hz : ∀ (f : zRow) (v : Int32), upd (zsh f (6 * zNt st + zNt i) (6 * zNt st + (zgt a (zNt st)).1)) (6 * zNt st + zNt i) v j = f j := fun f v => by
                    unfold upd zsh
                    rw [if_neg (by omega), if_neg (by omega)]
                  by_cases z8 : b = 8
                  · subst z8; rw [zs_in, f3]; exact hz _ _
                  · rw [zs_out (zn_beq z8)]
                    by_cases z7 : b = 7
                    · subst z7; rw [zs_in, f2]; exact hz _ _
                    · rw [zs_out (zn_beq z7), show b = 6 from by omega, zs_in, f1]; exact hz _ _
                · rw [zs_out (zn_beq (by omega)), zs_out (zn_beq (by omega)), zs_out (zn_beq (by omega)), zs_out (zn_beq (by omega)), qr b (by omega) (by omega) (by omega)]
          · have he : (zgt a (zNt st)).1 = 6 := by
              have := congrArg Int32.toInt q
              rw [nI_toInt (by omega), zc_6] at this
              omega
            rw [zoL_6 hst hok he] at k
            exact k _ rfl h1
    · exact And.intro (fun _ => zr_right0 rfl (by decide) (And.intro (fun q => absurd rfl q) (fun _ => bad (fun q => hi q.1)))) (fun q => absurd rfl q)
  · rw [zoL_1 (zSt_no c1 c2)] at k
    exact And.intro (fun _ => k _ rfl (zRA_0 (zRA_0 h))) (fun q => absurd rfl q)
