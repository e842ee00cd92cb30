/-! both sides, call by call: edge, layer, drop, about -/
def zup (a : zAb) (s : Nat) (x : zStk) : zAb := if s = 0 then (x, a.2) else (a.1, x, a.2.2)
def zgt (a : zAb) (s : Nat) : zStk := if s = 0 then a.1 else a.2.1
theorem zRt_o {M M' : zMem} {o : Nat} {s : zStk} (h5 : ∀ i : Nat, 1 ≤ i → i ≤ 5 → M' i o = M i o) (h6 : ∀ i : Nat, 6 ≤ i → i ≤ 8 → ∀ j : Nat, j < 6 → M' i (6 * o + j) = M i (6 * o + j)) (hn : s.1 ≤ 6) (g : zRt M o s) : zRt M' o s := by
  obtain ⟨g1, g2, g3, g4, g5, g6⟩ := g
  refine ⟨by rw [h5 5 (by decide) (by decide)]; exact g1, fun i hi => ?_, by rw [h5 1 (by decide) (by decide)]; exact g3, by rw [h5 2 (by decide) (by decide)]; exact g4, by rw [h5 3 (by decide) (by decide)]; exact g5, by rw [h5 4 (by decide) (by decide)]; exact g6⟩
  rw [h6 6 (by decide) (by decide) i (by omega), h6 7 (by decide) (by decide) i (by omega), h6 8 (by decide) (by decide) i (by omega)]; exact g2 i hi
theorem zRA_s {M : zMem} {a : zAb} {s : Nat} (hs : s < 2) (h : zRA M a) : zRt M s (zgt a s) := by
  rcases Nat.lt_or_ge s 1 with q | q
  · have : s = 0 := by omega
    subst this; exact h.1
  · have : s = 1 := by omega
    subst this; exact h.2.1
theorem zWA_s {a : zAb} {s : Nat} (h : zWA a) : zWs (zgt a s) := by
  unfold zgt; split
  · exact h.1
  · exact h.2.1
theorem zWA_up {a : zAb} {s : Nat} {x : zStk} (h : zWA a) (hx : zWs x) : zWA (zup a s x) := by
  unfold zup; split
  · exact ⟨hx, h.2⟩
  · exact ⟨h.1, hx, h.2.2⟩
/-- stack s has become x, nothing else has changed -/
theorem zRA_up {M M' : zMem} {a : zAb} {s : Nat} {x : zStk} (hs : s < 2) (hW : zWA a) (h : zRA M a) (hx : zRt M' s x) (h5 : ∀ i : Nat, 1 ≤ i → i ≤ 5 → ∀ o : Nat, o ≠ s → M' i o = M i o) (h6 : ∀ i : Nat, 6 ≤ i → i ≤ 8 → ∀ j : Nat, ¬ (6 * s ≤ j ∧ j < 6 * s + 6) → M' i j = M i j) (h9 : ∀ i : Nat, 9 ≤ i → i < 22 → M' i = M i) : zRA M' (zup a s x) := by
  rcases Nat.lt_or_ge s 1 with q | q
  · have : s = 0 := by omega
    subst this
    exact ⟨hx, zRt_o (fun i a b => h5 i a b 1 (by decide)) (fun i a b j hj => h6 i a b _ (by omega)) hW.2.1.1.1 h.2.1, zRR_k h9 h.2.2⟩
  · have : s = 1 := by omega
    subst this
    exact ⟨zRt_o (fun i a b => h5 i a b 0 (by decide)) (fun i a b j hj => h6 i a b _ (by omega)) hW.1.1.1 h.1, hx, zRR_k h9 h.2.2⟩
theorem zc_st {st : Int32} (h : st = 0 ∨ st = 1) : ∃ s : Nat, s < 2 ∧ st = nI s := by
  rcases h with h | h
  · exact ⟨0, by decide, h⟩
  · exact ⟨1, by decide, h⟩
theorem zc_wh {wh : Int32} (h : wh = 0 ∨ wh = 1) : ∃ s : Nat, s < 2 ∧ wh = nI s := zc_st h
theorem zWs_E {s : zStk} {what a b : Nat} (h : zWs s) (ha : 1 ≤ a) (ha9 : a ≤ 9) (hb : 1 ≤ b) (hb9 : b ≤ 9) : zWs (zsE s what a b) := by
  obtain ⟨h1, h2, h3, h4, h5⟩ := h
  unfold zsE
  split
  · exact ⟨h1, ⟨ha, ha9⟩, ⟨hb, hb9⟩, h4, h5⟩
  · exact ⟨h1, h2, h3, ⟨ha, ha9⟩, ⟨hb, hb9⟩⟩
theorem zn_q9' {a b : Nat} (ha : 1 ≤ a) (hb : 1 ≤ b) (hb9 : b ≤ 9) : 1 ≤ b / Nat.gcd a b ∧ b / Nat.gcd a b ≤ 9 := ⟨Nat.div_pos (Nat.gcd_le_right _ hb) (Nat.gcd_pos_of_pos_left _ ha), Nat.le_trans (Nat.div_le_self _ _) hb9⟩
theorem zf_edgeS {T : zMem} {a : zAb} {s what n m : Nat} {post : zMem → Prop} (hW : zWA a) (h : zRA T a) (hs : s < 2) (hw : what < 2) (hn : 1 ≤ n) (hn9 : n ≤ 9) (hm : 1 ≤ m) (hm9 : m ≤ 9) (k : ∀ M' : zMem, M' 0 = T 0 → zRA M' (zup a s (zsE (zgt a s) what (n / Nat.gcd n m) (m / Nat.gcd n m))) → post M') : zw_X6_shared (nI n) (nI m) (fun (v_12 : Int32) => ((¬ nI what = 0 → (¬ v_12 = 0 ∧ (vp_in (nI s) 2 ∧ ∀ r_16 : zRow, r_16 = (upd (T 3) (Int32.toNatClampNeg (nI s)) (nI n / v_12)) → ((¬ v_12 = 0 ∧ (vp_in (nI s) 2 ∧ ∀ r_19 : zRow, r_19 = (upd (T 4) (Int32.toNatClampNeg (nI s)) (nI m / v_12)) → (post (zset (zset T 3 r_16) 4 r_19)))))))) ∧ (nI what = 0 → (¬ v_12 = 0 ∧ (vp_in (nI s) 2 ∧ ∀ r_22 : zRow, r_22 = (upd (T 1) (Int32.toNatClampNeg (nI s)) (nI n / v_12)) → ((¬ v_12 = 0 ∧ (vp_in (nI s) 2 ∧ ∀ r_25 : zRow, r_25 = (upd (T 2) (Int32.toNatClampNeg (nI s)) (nI m / v_12)) → (post (zset (zset T 1 r_22) 2 r_25)))))))))) := by
  obtain ⟨d1, nz⟩ := zn_dv (b := m) hn hn9
  have d2 := zn_dv' hn hn9 hm9
  have cs : (nI s).toNatClampNeg = s := nI_clamp (by omega)
  have hsv : vp_in (nI s) 2 := vp_in_nI hs (by decide)
  obtain ⟨g1, g2, g3, g4, g5, g6⟩ := zRA_s hs h
  refine zr_shared (by omega) (by omega) (And.intro (fun c => And.intro nz (And.intro hsv (fun r1 e1 => And.intro nz (And.intro hsv (fun r2 e2 => ?_))))) (fun c => And.intro nz (And.intro hsv (fun r1 e1 => And.intro nz (And.intro hsv (fun r2 e2 => ?_))))))
  · have hw1 : what ≠ 0 := fun q => c (by rw [q]; rfl)
    rw [cs, d1] at e1
    rw [cs, d2] at e2
    refine k _ rfl (zRA_up hs hW h ?_ (fun i h1 h2 o ho => ?_) (fun i h1 h2 j _ => ?_) (fun i h1 h2 => ?_))
    · unfold zsE
      rw [if_neg hw1]
      refine ⟨g1, g2, g3, g4, ?_, ?_⟩
      · show r1 s = _
        rw [e1, pk_us]
      · show r2 s = _
        rw [e2, pk_us]
    · by_cases q : i = 4
      · subst q; rw [zs_in, e2, pk_un ho]
      · rw [zs_out (zn_beq q)]
        by_cases q : i = 3
        · subst q; rw [zs_in, e1, pk_un ho]
        · rw [zs_out (zn_beq q)]
    · rw [zs_out (zn_beq (by omega)), zs_out (zn_beq (by omega))]
    · rw [zs_out (zn_beq (by omega)), zs_out (zn_beq (by omega))]
  · have hw1 : what = 0 := by
      have := congrArg Int32.toInt c
      rw [nI_toInt (by omega), zn_0] at this
      omega
    rw [cs, d1] at e1
    rw [cs, d2] at e2
    refine k _ rfl (zRA_up hs hW h ?_ (fun i h1 h2 o ho => ?_) (fun i h1 h2 j _ => ?_) (fun i h1 h2 => ?_))
    · unfold zsE
      rw [if_pos hw1]
      refine ⟨g1, g2, ?_, ?_, g5, g6⟩
      · show r1 s = _
        rw [e1, pk_us]
      · show r2 s = _
        rw [e2, pk_us]
    · by_cases q : i = 2
      · subst q; rw [zs_in, e2, pk_un ho]
      · rw [zs_out (zn_beq q)]
        by_cases q : i = 1
        · subst q; rw [zs_in, e1, pk_un ho]
        · rw [zs_out (zn_beq q)]
    · rw [zs_out (zn_beq (by omega)), zs_out (zn_beq (by omega))]
    · rw [zs_out (zn_beq (by omega)), zs_out (zn_beq (by omega))]
/-! what a call answers, and the state behind it: (code, answer, state) -/
noncomputable def zif {α : Type} (p : Prop) (x y : α) : α := @ite α p (Classical.propDecidable p) x y
theorem zif_t {α : Type} {p : Prop} {x y : α} (h : p) : zif p x y = x := if_pos h
theorem zif_f {α : Type} {p : Prop} {x y : α} (h : ¬ p) : zif p x y = y := if_neg h
def zNt (x : Int32) : Nat := x.toInt.toNat
theorem zNt_n {n : Nat} (h : n < 2147483648) : zNt (nI n) = n := by unfold zNt; rw [nI_toInt (by omega)]; omega
theorem zNt_0 : zNt 0 = 0 := by decide
theorem zNt_1 : zNt 1 = 1 := by decide
theorem zCA_up0 {O P0 P1 N P' : zMem} {a : zAb} {x : zStk} (h : zCA O P0 P1 N a) (hx : zCp P' x) : zCA O P' P1 N (zup a 0 x) := ⟨hx, h.2⟩
theorem zCA_up1 {O P0 P1 N P' : zMem} {a : zAb} {x : zStk} (h : zCA O P0 P1 N a) (hx : zCp P' x) : zCA O P0 P' N (zup a 1 x) := ⟨h.1, hx, h.2.2⟩
def zSt (st : Int32) : Prop := st = 0 ∨ st = 1
theorem zSt_n {st : Int32} (h : zSt st) : st = nI (zNt st) ∧ zNt st < 2 := by
  rcases h with h | h
  · rw [h]; exact ⟨rfl, by decide⟩
  · rw [h]; exact ⟨rfl, by decide⟩
theorem zSt_no {st : Int32} (h1 : ¬ st = 0) (h2 : ¬ st = 1) : ¬ zSt st := fun h => by
  rcases h with h | h
  · exact h1 h
  · exact h2 h
theorem zIx_t {a b : Int32} (h : zIx a b) : a = nI (zNt a) ∧ b = nI (zNt b) ∧ 1 ≤ zNt a ∧ zNt a ≤ 9 ∧ 1 ≤ zNt b ∧ zNt b ≤ 9 := by
  obtain ⟨n, m, e1, e2, h1, h2, h3, h4⟩ := zIx_n h
  rw [e1, e2, zNt_n (by omega), zNt_n (by omega)]
  exact ⟨rfl, rfl, h1, h2, h3, h4⟩
/-- the index in lowest terms -/
def zlu (x y : Int32) : Nat := zNt x / Nat.gcd (zNt x) (zNt y)
def zll (x y : Int32) : Nat := zNt y / Nat.gcd (zNt x) (zNt y)
theorem zl_b {x y : Int32} (h : zIx x y) : 1 ≤ zlu x y ∧ zlu x y ≤ 9 ∧ 1 ≤ zll x y ∧ zll x y ≤ 9 := by
  obtain ⟨-, -, h1, h2, h3, h4⟩ := zIx_t h
  exact ⟨(zn_q9 h1 h2).1, (zn_q9 h1 h2).2, (zn_q9' h1 h3 h4).1, (zn_q9' h1 h3 h4).2⟩
/-! edge -/
def zokE (wh x y : Int32) : Prop := zSt wh ∧ zIx x y
noncomputable def zoE (a : zAb) (st wh x y : Int32) : Int32 × zAb := zif (zSt st) (zif (zokE wh x y) (0, zup a (zNt st) (zsE (zgt a (zNt st)) (zNt wh) (zlu x y) (zll x y))) (2, a)) (1, a)
theorem zoE_1 {a : zAb} {st wh x y : Int32} (h : ¬ zSt st) : zoE a st wh x y = (1, a) := zif_f h
theorem zoE_2 {a : zAb} {st wh x y : Int32} (h : zSt st) (g : ¬ zokE wh x y) : zoE a st wh x y = (2, a) := (zif_t h).trans (zif_f g)
theorem zoE_0 {a : zAb} {st wh x y : Int32} (h : zSt st) (g : zokE wh x y) : zoE a st wh x y = (0, zup a (zNt st) (zsE (zgt a (zNt st)) (zNt wh) (zlu x y) (zll x y))) := (zif_t h).trans (zif_t g)
theorem zoE_W {a : zAb} {st wh x y : Int32} (h : zWA a) : zWA (zoE a st wh x y).2 := by
  by_cases h1 : zSt st
  · by_cases h2 : zokE wh x y
    · rw [zoE_0 h1 h2]
      obtain ⟨b1, b2, b3, b4⟩ := zl_b h2.2
      exact zWA_up h (zWs_E (zWA_s h) b1 b2 b3 b4)
    · rw [zoE_2 h1 h2]; exact h
  · rw [zoE_1 h1]; exact h
theorem zf_edge {M : zMem} {a : zAb} {st wh x y : Int32} {post : zMem → Prop} (hW : zWA a) (h : zRA M a) (k : ∀ M' : zMem, M' 0 0 = (zoE a st wh x y).1 → zRA M' (zoE a st wh x y).2 → post M') : zw_X6_edge M st wh x y post := by
  refine zr_isStack (fun hst => ?_) (fun c1 c2 => ?_)
  · have h1 : zRA (zset M 0 (fun _ => 0)) a := zRA_0 h
    have hst : zSt st := hst
    refine And.intro (fun q => absurd q (by decide)) (fun _ => ?_)
    have bad : ¬ zokE wh x y → post (zset (zset M 0 (fun _ => 0)) 0 (fun _ => 2)) := fun q => by
      rw [zoE_2 hst q] at k
      exact k _ rfl (zRA_0 h1)
    have good : zokE wh x y → zw_X6_shared x y (fun (v_12 : Int32) => ((¬ wh = 0 → (¬ v_12 = 0 ∧ (vp_in st 2 ∧ ∀ r_16 : zRow, r_16 = (upd ((zset M 0 (fun _ => 0)) 3) (Int32.toNatClampNeg st) (x / v_12)) → ((¬ v_12 = 0 ∧ (vp_in st 2 ∧ ∀ r_19 : zRow, r_19 = (upd ((zset M 0 (fun _ => 0)) 4) (Int32.toNatClampNeg st) (y / v_12)) → (post (zset (zset (zset M 0 (fun _ => 0)) 3 r_16) 4 r_19)))))))) ∧ (wh = 0 → (¬ v_12 = 0 ∧ (vp_in st 2 ∧ ∀ r_22 : zRow, r_22 = (upd ((zset M 0 (fun _ => 0)) 1) (Int32.toNatClampNeg st) (x / v_12)) → ((¬ v_12 = 0 ∧ (vp_in st 2 ∧ ∀ r_25 : zRow, r_25 = (upd ((zset M 0 (fun _ => 0)) 2) (Int32.toNatClampNeg st) (y / v_12)) → (post (zset (zset (zset M 0 (fun _ => 0)) 1 r_22) 2 r_25)))))))))) := by
      intro hok
      rw [zoE_0 hst hok] at k
      obtain ⟨e1, hs⟩ := zSt_n hst
      obtain ⟨e2, hw⟩ := zSt_n hok.1
      obtain ⟨e3, e4, n1, n2, m1, m2⟩ := zIx_t hok.2
      have := zf_edgeS (post := post) hW h1 hs hw n1 n2 m1 m2 (fun M' e hM' => k M' (by rw [e]; rfl) hM')
      rw [← e1, ← e2, ← e3, ← e4] at this
      exact this
    refine And.intro (fun c => ?_) (fun c => And.intro (fun d => ?_) (fun d => ?_))
    · refine zr_isIndex (fun hi => ⟨fun v => v = 1, ?_, And.intro (fun q => absurd q (by decide)) (fun _ => rfl)⟩) (fun hi => ⟨fun v => v = 0, ?_, And.intro (fun _ => rfl) (fun q => absurd rfl q)⟩)
      · rintro v rfl
        exact zr_right1 rfl (by decide) (And.intro (fun _ => good ⟨Or.inl c, hi⟩) (fun q => absurd q (by decide)))
      · rintro v rfl
        exact zr_right0 rfl (by decide) (And.intro (fun q => absurd rfl q) (fun _ => bad (fun q => hi q.2)))
    · exact zr_right0 rfl (by decide) (And.intro (fun q => absurd rfl q) (fun _ => bad (fun q => zSt_no c d q.1)))
    · refine zr_isIndex (fun hi => ⟨fun v => v = 1, ?_, And.intro (fun q => absurd q (by decide)) (fun _ => rfl)⟩) (fun hi => ⟨fun v => v = 0, ?_, And.intro (fun _ => rfl) (fun q => absurd rfl q)⟩)
      · rintro v rfl
        exact zr_right1 rfl (by decide) (And.intro (fun _ => good ⟨Or.inr d, hi⟩) (fun q => absurd q (by decide)))
      · rintro v rfl
        exact zr_right0 rfl (by decide) (And.intro (fun q => absurd rfl q) (fun _ => bad (fun q => hi q.2)))
  · rw [zoE_1 (zSt_no c1 c2)] at k
    exact And.intro (fun _ => k _ rfl (zRA_0 (zRA_0 h))) (fun q => absurd rfl q)
theorem zk_edge {O P0 P1 N : zMem} {a : zAb} {st wh x y : Int32} {post : Int32 → zMem → zMem → Prop} (hC : zCA O P0 P1 N a) (k : ∀ P0' P1' : zMem, zCA O P0' P1' N (zoE a st wh x y).2 → post (zoE a st wh x y).1 P0' P1') : zw_L_edge O P0 P1 st wh x y post := by
  have fail : zSt st → ¬ zokE wh x y → post 2 P0 P1 := fun h1 h2 => by
    rw [zoE_2 h1 h2] at k; exact k P0 P1 hC
  refine zr_pileAt (O := O) (fun c => ?_) (fun c => ?_) (fun c1 c2 => ?_)
  · have inner : zSt wh → zw_X5_needIndex x y (zw_X3_setEdge P0 wh x y (fun T => post 0 T P1)) (post 2 P0 P1) := fun hw => by
      refine zr_needIndex (fun hi => ?_) (fun hi => fail (Or.inl c) (fun q => hi q.2))
      rw [zoE_0 (Or.inl c) ⟨hw, hi⟩] at k
      obtain ⟨e2, hw2⟩ := zSt_n hw
      obtain ⟨e3, e4, n1, n2, m1, m2⟩ := zIx_t hi
      rw [c, zNt_0] at k
      have := zr_setEdge (post := fun T => post 0 T P1) hC.1 hw2 n1 n2 m1 m2 (fun P' hP' => k P' P1 (zCA_up0 hC hP'))
      rwa [← e2, ← e3, ← e4] at this
    exact And.intro (fun d => inner (Or.inl d)) (fun d => And.intro (fun e => inner (Or.inr e)) (fun e => fail (Or.inl c) (fun q => zSt_no d e q.1)))
  · have inner : zSt wh → zw_X5_needIndex x y (zw_X3_setEdge P1 wh x y (fun T => post 0 P0 T)) (post 2 P0 P1) := fun hw => by
      refine zr_needIndex (fun hi => ?_) (fun hi => fail (Or.inr c) (fun q => hi q.2))
      rw [zoE_0 (Or.inr c) ⟨hw, hi⟩] at k
      obtain ⟨e2, hw2⟩ := zSt_n hw
      obtain ⟨e3, e4, n1, n2, m1, m2⟩ := zIx_t hi
      rw [c, zNt_1] at k
      have := zr_setEdge (post := fun T => post 0 P0 T) hC.2.1 hw2 n1 n2 m1 m2 (fun P' hP' => k P0 P' (zCA_up1 hC hP'))
      rwa [← e2, ← e3, ← e4] at this
    exact And.intro (fun d => inner (Or.inl d)) (fun d => And.intro (fun e => inner (Or.inr e)) (fun e => fail (Or.inr c) (fun q => zSt_no d e q.1)))
  · rw [zoE_1 (zSt_no c1 c2)] at k; exact k P0 P1 hC
