/-! pane, clear -/
def zShr (p q : Int32) : Prop := (0 ≤ p.toInt ∧ p.toInt ≤ 100) ∧ (1 ≤ q.toInt ∧ q.toInt ≤ 100)
def zokP (bu bl ou ol : Int32) : Prop := zShr bu bl ∧ zShr ou ol ∧ zNt bu * zNt ol + zNt ou * zNt bl ≤ zNt bl * zNt ol
def zadp (b : zAr) (p q r s : Nat) : zAr := (b.1, b.2.1, (b.2.2.1 + 1, (fun j => if j = b.2.2.1 then p else b.2.2.2.1 j), (fun j => if j = b.2.2.1 then q else b.2.2.2.2.1 j), (fun j => if j = b.2.2.1 then r else b.2.2.2.2.2.1 j), (fun j => if j = b.2.2.1 then s else b.2.2.2.2.2.2 j)))
noncomputable def zoP (a : zAb) (bu bl ou ol : Int32) : Int32 × Int32 × zAb := zif (zokP bu bl ou ol) (zif (a.2.2.2.2.1 = 8) (0, -1, a) (0, nI (a.2.2.2.2.1 + 1), (a.1, a.2.1, zadp a.2.2 (zNt bu) (zNt bl) (zNt ou) (zNt ol)))) (1, 0, a)
theorem zoP_1 {a : zAb} {bu bl ou ol : Int32} (h : ¬ zokP bu bl ou ol) : zoP a bu bl ou ol = (1, 0, a) := zif_f h
theorem zoP_8 {a : zAb} {bu bl ou ol : Int32} (h : zokP bu bl ou ol) (g : a.2.2.2.2.1 = 8) : zoP a bu bl ou ol = (0, -1, a) := (zif_t h).trans (zif_t g)
theorem zoP_0 {a : zAb} {bu bl ou ol : Int32} (h : zokP bu bl ou ol) (g : ¬ a.2.2.2.2.1 = 8) : zoP a bu bl ou ol = (0, nI (a.2.2.2.2.1 + 1), (a.1, a.2.1, zadp a.2.2 (zNt bu) (zNt bl) (zNt ou) (zNt ol))) := (zif_t h).trans (zif_f g)
theorem zShr_n {p q : Int32} (h : zShr p q) : p = nI (zNt p) ∧ q = nI (zNt q) ∧ zNt p ≤ 100 ∧ 1 ≤ zNt q ∧ zNt q ≤ 100 := by
  obtain ⟨⟨h1, h2⟩, h3, h4⟩ := h
  unfold zNt
  exact ⟨zn_ofI (by omega), zn_ofI (by omega), by omega, by omega, by omega⟩
theorem zokP_s {bu bl ou ol : Int32} (h : zokP bu bl ou ol) : zSh (zNt bu) (zNt bl) (zNt ou) (zNt ol) := by
  obtain ⟨-, -, a1, a2, a3⟩ := zShr_n h.1
  obtain ⟨-, -, b1, b2, b3⟩ := zShr_n h.2.1
  exact ⟨a1, a2, a3, b1, b2, b3, h.2.2⟩
theorem zoP_W {a : zAb} {bu bl ou ol : Int32} (h : zWA a) : zWA (zoP a bu bl ou ol).2.2 := by
  by_cases h1 : zokP bu bl ou ol
  · by_cases h2 : a.2.2.2.2.1 = 8
    · rw [zoP_8 h1 h2]; exact h
    · rw [zoP_0 h1 h2]
      obtain ⟨h3, h4, h5, h6, h7, h8⟩ := h
      have h7 : a.2.2.2.2.1 ≤ 8 := h7
      refine ⟨h3, h4, h5, h6, (show a.2.2.2.2.1 + 1 ≤ 8 by omega), fun i hi => ?_⟩
      have hi : i < a.2.2.2.2.1 + 1 := hi
      show zSh (if i = a.2.2.2.2.1 then zNt bu else a.2.2.2.2.2.1 i) (if i = a.2.2.2.2.1 then zNt bl else a.2.2.2.2.2.2.1 i) (if i = a.2.2.2.2.1 then zNt ou else a.2.2.2.2.2.2.2.1 i) (if i = a.2.2.2.2.1 then zNt ol else a.2.2.2.2.2.2.2.2 i)
      by_cases q : i = a.2.2.2.2.1
      · rw [if_pos q, if_pos q, if_pos q, if_pos q]; exact zokP_s h1
      · rw [if_neg q, if_neg q, if_neg q, if_neg q]; exact h8 i (show i < a.2.2.2.2.1 by omega)
  · rw [zoP_1 h1]; exact h
theorem zPs_cong {b1 b2 b3 b4 c1 c2 c3 c4 : Nat → Nat} : ∀ n : Nat, (∀ j : Nat, j < n → b1 j = c1 j ∧ b2 j = c2 j ∧ b3 j = c3 j ∧ b4 j = c4 j) → zPs b1 b2 b3 b4 n = zPs c1 c2 c3 c4 n := by
  intro n
  induction n with
  | zero => intro _; rfl
  | succ n ih =>
    intro h
    obtain ⟨e1, e2, e3, e4⟩ := h n (by omega)
    simp only [zPs]
    rw [ih (fun j hj => h j (by omega)), e1, e2, e3, e4]
theorem zadp_Ps (b : zAr) (p q r s : Nat) : zPs (zadp b p q r s).2.2.2.1 (zadp b p q r s).2.2.2.2.1 (zadp b p q r s).2.2.2.2.2.1 (zadp b p q r s).2.2.2.2.2.2 (zadp b p q r s).2.2.1 = zp2 p q r s (zPs b.2.2.2.1 b.2.2.2.2.1 b.2.2.2.2.2.1 b.2.2.2.2.2.2 b.2.2.1) := by
  show zPs (fun j => if j = b.2.2.1 then p else b.2.2.2.1 j) (fun j => if j = b.2.2.1 then q else b.2.2.2.2.1 j) (fun j => if j = b.2.2.1 then r else b.2.2.2.2.2.1 j) (fun j => if j = b.2.2.1 then s else b.2.2.2.2.2.2 j) (b.2.2.1 + 1) = _
  simp only [zPs, if_true]
  congr 1
  refine zPs_cong _ (fun j hj => ?_)
  rw [if_neg (by omega), if_neg (by omega), if_neg (by omega), if_neg (by omega)]
  exact ⟨rfl, rfl, rfl, rfl⟩
theorem zr_isShare {p q : Int32} {post : Int32 → Prop} (k : zShr p q → post 1) (x : ¬ zShr p q → post 0) : zw_X2_isShare p q post :=
  And.intro (fun c => And.intro rfl (x (fun h => by have := zi_lt zn_0 c; have := h.1; omega))) (fun c1 => And.intro (fun c => And.intro rfl (x (fun h => by have := zi_gt zc_100 c; have := h.1; omega))) (fun c2 => And.intro (fun c => And.intro rfl (x (fun h => by have := zi_lt zc_1 c; have := h.2; omega))) (fun c3 => And.intro (fun c => And.intro rfl (x (fun h => by have := zi_gt zc_100 c; have := h.2; omega))) (fun c4 => And.intro rfl (k ⟨⟨zi_nlt zn_0 c1, zi_ngt zc_100 c2⟩, ⟨zi_nlt zc_1 c3, zi_ngt zc_100 c4⟩⟩)))))
theorem zn_sums {bu bl ou ol : Int32} (h1 : zShr bu bl) (h2 : zShr ou ol) : bu * ol + ou * bl = nI (zNt bu * zNt ol + zNt ou * zNt bl) ∧ bl * ol = nI (zNt bl * zNt ol) ∧ zNt bu * zNt ol + zNt ou * zNt bl < 2147483648 ∧ zNt bl * zNt ol < 2147483648 := by
  obtain ⟨e1, e2, a1, a2, a3⟩ := zShr_n h1
  obtain ⟨e3, e4, b1, b2, b3⟩ := zShr_n h2
  have m1 := Nat.mul_le_mul a1 b3
  have m2 := Nat.mul_le_mul b1 a3
  have m3 := Nat.mul_le_mul a3 b3
  refine ⟨?_, ?_, by omega, by omega⟩
  · conv => lhs; rw [e1, e2, e3, e4]
    rw [pk_mul, pk_mul, nI_add]
  · conv => lhs; rw [e2, e4]
    rw [pk_mul]
theorem zPn_b {a : zAb} (hW : zWA a) : zPi (zPs a.2.2.2.2.2.1 a.2.2.2.2.2.2.1 a.2.2.2.2.2.2.2.1 a.2.2.2.2.2.2.2.2 a.2.2.2.2.1) ∧ (zPs a.2.2.2.2.2.1 a.2.2.2.2.2.2.1 a.2.2.2.2.2.2.2.1 a.2.2.2.2.2.2.2.2 a.2.2.2.2.1).2.2.1.natAbs ≤ 2 ^ 216 := by
  obtain ⟨h7, h8⟩ := hW.2.2.2.2
  have h7 : a.2.2.2.2.1 ≤ 8 := h7
  obtain ⟨i1, i2⟩ := zPs_i h8 a.2.2.2.2.1 (Nat.le_refl _)
  exact ⟨i1, zn_216 h7 (by have := i1.1; omega)⟩
theorem zk_pane {O P0 P1 N : zMem} {out : zRowL} {a : zAb} {bu bl ou ol : Int32} {post : Int32 → zMem → zRowL → Prop} (hW : zWA a) (hC : zCA O P0 P1 N a) (k : ∀ (N' : zMem) (out' : zRowL), ((zoP a bu bl ou ol).1 = 0 → out' 0 = Int32.toInt64 (zoP a bu bl ou ol).2.1) → zCA O P0 P1 N' (zoP a bu bl ou ol).2.2 → post (zoP a bu bl ou ol).1 N' out') : zw_L_pane O N out bu bl ou ol post := by
  have fail : ¬ zokP bu bl ou ol → post 1 N out := fun h1 => by
    rw [zoP_1 h1] at k; exact k N out (fun q => absurd (show (1 : Int32) = 0 from q) (by decide)) hC
  obtain ⟨i1, i2⟩ := zPn_b hW
  have hq8 : a.2.2.2.2.1 ≤ 8 := hW.2.2.2.2.1
  have hCR := hC.2.2
  obtain ⟨hl1, hl2, h7, h8⟩ := hC.2.2
  unfold zw_L_pane zw_X5_pane
  refine zr_isShare (fun g1 => ?_) (fun g1 => And.intro (fun _ => fail (fun q => g1 q.1)) (fun q => absurd rfl q))
  refine And.intro (fun q => absurd q (by decide)) (fun _ => ?_)
  refine zr_isShare (fun g2 => ?_) (fun g2 => And.intro (fun q => absurd rfl q) (fun _ => fail (fun q => g2 q.2.1)))
  refine And.intro (fun _ => ?_) (fun q => absurd q (by decide))
  obtain ⟨w1, w2, w3, w4⟩ := zn_sums g1 g2
  obtain ⟨e1, e2, a1, a2, a3⟩ := zShr_n g1
  obtain ⟨e3, e4, b1, b2, b3⟩ := zShr_n g2
  rw [w1, w2]
  refine And.intro (fun c => ?_) (fun c => fail (fun q => c ((nI_leI (by omega) (by omega)).mpr q.2.2)))
  have hok : zokP bu bl ou ol := ⟨g1, g2, (nI_leI (by omega) (by omega)).mp c⟩
  have A := zr_pappend (N := N) (n := a.2.2.2.2.1) (post := (fun (v_7 : Int32) (T_6 : zMem) => ((v_7 = 0 → (fun (v_2 : Int32) (T_1 : zMem) => ∀ r_3 : zRowL, r_3 = (vp_updL out (Int32.toNatClampNeg (0 : Int32)) (Int32.toInt64 v_2)) → (post (0 : Int32) T_1 r_3)) (-1 : Int32) T_6) ∧ (¬ v_7 = 0 → (fun (v_2 : Int32) (T_1 : zMem) => ∀ r_3 : zRowL, r_3 = (vp_updL out (Int32.toNatClampNeg (0 : Int32)) (Int32.toInt64 v_2)) → (post (0 : Int32) T_1 r_3)) (T_6 6 0) T_6)))) hq8 h7 h8 i1 i2 (zokP_s hok) (fun hl N' hN' h6 => ?_) (fun hl => ?_)
  · rw [← e1, ← e2, ← e3, ← e4] at A; exact A
  · refine And.intro (fun q => absurd q (by decide)) (fun _ => ?_)
    intro r er
    rw [zoP_0 hok (by omega)] at k
    refine k N' r (fun _ => ?_) ⟨hC.1, hC.2.1, hl1, hl2, h6, ?_⟩
    · rw [er, show (0 : Int32).toNatClampNeg = 0 from rfl, pk_uLs, h6]
    · rw [zadp_Ps]; exact hN'
  · refine And.intro (fun _ => ?_) (fun q => absurd rfl q)
    intro r er
    rw [zoP_8 hok hl] at k
    refine k N r (fun _ => ?_) hC
    rw [er, show (0 : Int32).toNatClampNeg = 0 from rfl, pk_uLs]
theorem zf_pane {M : zMem} {a : zAb} {bu bl ou ol : Int32} {post : Int32 → zMem → Prop} (hW : zWA a) (h : zRA M a) (k : ∀ M' : zMem, M' 0 0 = (zoP a bu bl ou ol).1 → zRA M' (zoP a bu bl ou ol).2.2 → post (zoP a bu bl ou ol).2.1 M') : zw_X6_pane M bu bl ou ol post := by
  have h1 : zRA (zset M 0 (fun _ => 0)) a := zRA_0 h
  have hq8 : a.2.2.2.2.1 ≤ 8 := hW.2.2.2.2.1
  have bad : ¬ zokP bu bl ou ol → post 0 (zset (zset M 0 (fun _ => 0)) 0 (fun _ => 1)) := fun q => by
    rw [zoP_1 q] at k
    exact k _ rfl (zRA_0 h1)
  have h1' := h1
  obtain ⟨s0, s1, ⟨⟨g1, g2⟩, ⟨g3, g4⟩, ⟨g5, g6⟩, w, g7⟩⟩ := h1
  refine And.intro (fun d => And.intro (fun _ => ?_) (fun q => absurd rfl q)) (fun d1 => And.intro (fun d => And.intro (fun _ => ?_) (fun q => absurd rfl q)) (fun d2 => And.intro (fun d => And.intro (fun _ => ?_) (fun q => absurd rfl q)) (fun d3 => And.intro (fun d => And.intro (fun _ => ?_) (fun q => absurd rfl q)) (fun d4 => And.intro (fun d => And.intro (fun _ => ?_) (fun q => absurd rfl q)) (fun d5 => And.intro (fun d => And.intro (fun _ => ?_) (fun q => absurd rfl q)) (fun d6 => And.intro (fun d => And.intro (fun _ => ?_) (fun q => absurd rfl q)) (fun d7 => ?_)))))))
  · exact zr_right0 rfl (by decide) (And.intro (fun q => absurd rfl q) (fun _ => bad (fun q => by have := zi_lt zn_0 d; have := q.1.1; omega)))
  · exact zr_right0 rfl (by decide) (And.intro (fun q => absurd rfl q) (fun _ => bad (fun q => by have := zi_gt zc_100 d; have := q.1.1; omega)))
  · exact zr_right0 rfl (by decide) (And.intro (fun q => absurd rfl q) (fun _ => bad (fun q => by have := zi_lt zn_0 d; have := q.2.1.1; omega)))
  · exact zr_right0 rfl (by decide) (And.intro (fun q => absurd rfl q) (fun _ => bad (fun q => by have := zi_gt zc_100 d; have := q.2.1.1; omega)))
  · exact zr_right0 rfl (by decide) (And.intro (fun q => absurd rfl q) (fun _ => bad (fun q => by have := zi_lt zc_1 d; have := q.1.2; omega)))
  · exact zr_right0 rfl (by decide) (And.intro (fun q => absurd rfl q) (fun _ => bad (fun q => by have := zi_gt zc_100 d; have := q.1.2; omega)))
  · exact zr_right0 rfl (by decide) (And.intro (fun q => absurd rfl q) (fun _ => bad (fun q => by have := zi_lt zc_1 d; have := q.2.1.2; omega)))
  · by_cases hlt : (100 : Int32) < ol
    · refine ⟨fun v => v = 0, ?_, And.intro (fun _ => rfl) (fun q => absurd hlt q)⟩
      rintro v rfl
      refine And.intro (fun _ => ?_) (fun q => absurd rfl q)
      exact zr_right0 rfl (by decide) (And.intro (fun q => absurd rfl q) (fun _ => bad (fun q => by have := zi_gt zc_100 hlt; have := q.2.1.2; omega)))
    · refine ⟨fun v => v = 1, ?_, And.intro (fun q => absurd q hlt) (fun _ => rfl)⟩
      rintro v rfl
      refine And.intro (fun q => absurd q (by decide)) (fun _ => ?_)
      have S1 : zShr bu bl := ⟨⟨zi_nlt zn_0 d1, zi_ngt zc_100 d2⟩, zi_nlt zc_1 d5, zi_ngt zc_100 d6⟩
      have S2 : zShr ou ol := ⟨⟨zi_nlt zn_0 d3, zi_ngt zc_100 d4⟩, zi_nlt zc_1 d7, zi_ngt zc_100 hlt⟩
      obtain ⟨w1, w2, w3, w4⟩ := zn_sums S1 S2
      obtain ⟨e1, e2, a1, a2, a3⟩ := zShr_n S1
      obtain ⟨e3, e4, b1, b2, b3⟩ := zShr_n S2
      rw [w1, w2]
      by_cases hlt2 : nI (zNt bl * zNt ol) < nI (zNt bu * zNt ol + zNt ou * zNt bl)
      · refine ⟨fun v => v = 0, ?_, And.intro (fun _ => rfl) (fun q => absurd hlt2 q)⟩
        rintro v rfl
        exact zr_right0 rfl (by decide) (And.intro (fun q => absurd rfl q) (fun _ => bad (fun q => by have := (nI_ltI (by omega) (by omega)).mp hlt2; have := q.2.2; omega)))
      · refine ⟨fun v => v = 1, ?_, And.intro (fun q => absurd q hlt2) (fun _ => rfl)⟩
        rintro v rfl
        have hok : zokP bu bl ou ol := ⟨S1, S2, by
          rcases Nat.lt_or_ge (zNt bl * zNt ol) (zNt bu * zNt ol + zNt ou * zNt bl) with z | z
          · exact absurd (nI_lt z (by omega)) hlt2
          · exact z⟩
        refine zr_right1 rfl (by decide) (And.intro (fun _ => ?_) (fun q => absurd q (by decide)))
        rw [g5]
        refine And.intro (fun q => ?_) (fun q => ?_)
        · have hk : ¬ a.2.2.2.2.1 = 8 := fun z => q (by rw [z]; rfl)
          have iv : vp_in (nI a.2.2.2.2.1) 8 := vp_in_nI (by omega) (by decide)
          have ci : (nI a.2.2.2.2.1).toNatClampNeg = a.2.2.2.2.1 := nI_clamp (by omega)
          refine And.intro iv (fun r1 f1 => And.intro iv (fun r2 f2 => And.intro iv (fun r3 f3 => And.intro iv (fun r4 f4 => ?_))))
          intro z ez
          rw [nI_1] at ez
          rw [ci] at f1 f2 f3 f4
          rw [zoP_0 hok hk] at k
          rw [ez]
          refine k _ rfl ⟨s0, s1, ⟨⟨g1, g2⟩, ⟨g3, g4⟩, ⟨rfl, fun j hj => ?_⟩, w, g7⟩⟩
          have hj : j < a.2.2.2.2.1 + 1 := hj
          show r1 j = nI (if j = a.2.2.2.2.1 then zNt bu else a.2.2.2.2.2.1 j) ∧ r2 j = nI (if j = a.2.2.2.2.1 then zNt bl else a.2.2.2.2.2.2.1 j) ∧ r3 j = nI (if j = a.2.2.2.2.1 then zNt ou else a.2.2.2.2.2.2.2.1 j) ∧ r4 j = nI (if j = a.2.2.2.2.1 then zNt ol else a.2.2.2.2.2.2.2.2 j)
          rw [f1, f2, f3, f4]
          by_cases q : j = a.2.2.2.2.1
          · subst q
            rw [pk_us, pk_us, pk_us, pk_us, if_pos rfl, if_pos rfl, if_pos rfl, if_pos rfl]
            exact ⟨e1, e2, e3, e4⟩
          · rw [pk_un q, pk_un q, pk_un q, pk_un q, if_neg q, if_neg q, if_neg q, if_neg q]; exact g6 j (show j < a.2.2.2.2.1 by omega)
        · have he : a.2.2.2.2.1 = 8 := by
            have := congrArg Int32.toInt q
            rw [nI_toInt (show a.2.2.2.2.1 < 2 ^ 31 by omega), zc_8] at this
            omega
          rw [zoP_8 hok he] at k
          exact k _ rfl h1'
def zoR (a : zAb) : zAb := (a.1, a.2.1, a.2.2.1, a.2.2.2.1, (0, a.2.2.2.2.2))
theorem zoR_W {a : zAb} (h : zWA a) : zWA (zoR a) := ⟨h.1, h.2.1, h.2.2.1, h.2.2.2.1, ⟨Nat.zero_le _, fun j hj => absurd hj (Nat.not_lt_zero j)⟩⟩
theorem zk_clear {O P0 P1 N : zMem} {a : zAb} {post : Int32 → zMem → Prop} (hC : zCA O P0 P1 N a) (k : ∀ N' : zMem, zCA O P0 P1 N' (zoR a) → post (nI a.2.2.2.2.1) N') : zw_X5_clear O N post := by
  intro x ex
  obtain ⟨hl1, hl2, h7, h8⟩ := hC.2.2
  have h7 : N 6 0 = nI a.2.2.2.2.1 := h7
  rw [ex, h7]
  refine zr_setNothing (fun N' hN' e6 => ?_)
  refine k N' ⟨hC.1, hC.2.1, hl1, hl2, ?_, hN'⟩
  rw [e6]; rfl
theorem zf_clear {M : zMem} {a : zAb} {post : Int32 → zMem → Prop} (h : zRA M a) (k : ∀ M' : zMem, M' 0 0 = 0 → zRA M' (zoR a) → post (nI a.2.2.2.2.1) M') : zw_X6_clear M post := by
  obtain ⟨s0, s1, ⟨⟨g1, g2⟩, ⟨g3, g4⟩, ⟨g5, g6⟩, w, g7⟩⟩ := h
  intro x ex
  have g5 : M 14 0 = nI a.2.2.2.2.1 := g5
  rw [ex, g5]
  exact k _ rfl ⟨s0, s1, ⟨⟨g1, g2⟩, ⟨g3, g4⟩, ⟨rfl, fun j hj => absurd hj (Nat.not_lt_zero j)⟩, w, g7⟩⟩
