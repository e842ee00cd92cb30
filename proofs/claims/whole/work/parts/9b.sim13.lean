/-! choose: the stacks that are tried, by their number -/
def zdg (L n m j : Nat) : Nat := m / L ^ (n - 1 - j) % L
def zcs (s : zStk) (b : zAr) (n m : Nat) : zStk := (n, fun j => b.2.1.2.1 (zdg b.2.1.1 n m j), fun j => b.2.1.2.2 (zdg b.2.1.1 n m j), fun _ => 1, s.2.2.2.2)
theorem zd_q {L X m q : Nat} (hX : 0 < X) (hL : 0 < L) (h : m + 1 = X * q) : m / X = q - 1 ∧ (m + 1) / X = q ∧ 1 ≤ q := by
  have q1 : 1 ≤ q := by
    rcases Nat.eq_zero_or_pos q with z | z
    · rw [z, Nat.mul_zero] at h; omega
    · exact z
  obtain ⟨t, rfl⟩ : ∃ t, q = t + 1 := ⟨q - 1, by omega⟩
  rw [Nat.mul_add] at h
  have e : m = X * t + (X - 1) := by omega
  refine ⟨?_, ?_, q1⟩
  · rw [e, Nat.mul_add_div hX, Nat.div_eq_of_lt (by omega)]; omega
  · rw [h, ← Nat.mul_add, Nat.mul_div_cancel_left _ hX]
/-- no carry -/
theorem zd_A {L k m : Nat} (hL : 0 < L) (h : L ^ k ∣ m + 1) (hd : m / L ^ k % L + 1 < L) : (m + 1) / L ^ k % L = m / L ^ k % L + 1 ∧ ∀ c : Nat, (m + 1) / L ^ (k + 1 + c) = m / L ^ (k + 1 + c) := by
  obtain ⟨q, hq⟩ := h
  obtain ⟨e1, e2, e3⟩ := zd_q (Nat.pow_pos hL) hL hq
  have d1 := Nat.div_add_mod (q - 1) L
  have e4 : q = L * ((q - 1) / L) + ((q - 1) % L + 1) := by omega
  rw [e1] at hd
  have m1 : q % L = (q - 1) % L + 1 := by
    conv => lhs; rw [e4]
    rw [Nat.mul_add_mod, Nat.mod_eq_of_lt hd]
  have m2 : q / L = (q - 1) / L := by
    conv => lhs; rw [e4]
    rw [Nat.mul_add_div hL, Nat.div_eq_of_lt hd]; omega
  refine ⟨by rw [e1, e2, m1], fun c => ?_⟩
  rw [Nat.pow_add, Nat.pow_succ, ← Nat.div_div_eq_div_mul, ← Nat.div_div_eq_div_mul, ← Nat.div_div_eq_div_mul, ← Nat.div_div_eq_div_mul, e1, e2, m2]
/-- carry -/
theorem zd_B {L k m : Nat} (hL : 0 < L) (h : L ^ k ∣ m + 1) (hd : L ≤ m / L ^ k % L + 1) : (m + 1) / L ^ k % L = 0 ∧ L ^ (k + 1) ∣ m + 1 := by
  obtain ⟨q, hq⟩ := h
  obtain ⟨e1, e2, e3⟩ := zd_q (Nat.pow_pos hL) hL hq
  have d1 := Nat.div_add_mod (q - 1) L
  rw [e1] at hd
  have d2 := Nat.mod_lt (q - 1) hL
  have e4 : q = L * ((q - 1) / L + 1) := by rw [Nat.mul_add]; omega
  refine ⟨?_, (q - 1) / L + 1, ?_⟩
  · rw [e2, e4, Nat.mul_mod_right]
  · rw [Nat.pow_succ, Nat.mul_assoc, ← e4]; exact hq
theorem zn_w {L n : Nat} (hL : L ≤ 6) (hn : n ≤ 3) : L ^ n ≤ 216 := Nat.le_trans (Nat.pow_le_pow_left hL n) (Nat.pow_le_pow_right (n := 6) (by decide) hn)
theorem zcs_W {s : zStk} {b : zAr} {n m : Nat} (hs : zWs s) (hb : zLsW b) (hn : n ≤ 3) (hL : 1 ≤ n → 1 ≤ b.2.1.1) : zWs (zcs s b n m) := by
  refine ⟨⟨?_, fun i hi => ?_⟩, hs.2⟩
  · show n ≤ 6
    omega
  · have hi : i < n := hi
    obtain ⟨g1, g2, g3, g4, -⟩ := hb.2 (zdg b.2.1.1 n m i) (Nat.mod_lt _ (hL (by omega)))
    exact ⟨g1, g2, g3, g4, (show 1 ≤ 1 by decide), (show 1 ≤ 4 by decide)⟩
noncomputable def zbc (s : zStk) (b : zAr) (n : Nat) : Nat → Nat
  | 0 => 0
  | i + 1 => zif (zcm (zcs s b n (i + 1)) b.1.1.toInt b.1.2 (zcs s b n (zbc s b n i)) b.1.1.toInt b.1.2 < 0) (i + 1) (zbc s b n i)
theorem zbc_go {s : zStk} {b : zAr} {n i : Nat} (q : zcm (zcs s b n (i + 1)) b.1.1.toInt b.1.2 (zcs s b n (zbc s b n i)) b.1.1.toInt b.1.2 < 0) : zbc s b n (i + 1) = i + 1 := by rw [zbc, zif_t q]
theorem zbc_st {s : zStk} {b : zAr} {n i : Nat} (q : ¬ zcm (zcs s b n (i + 1)) b.1.1.toInt b.1.2 (zcs s b n (zbc s b n i)) b.1.1.toInt b.1.2 < 0) : zbc s b n (i + 1) = zbc s b n i := by rw [zbc, zif_f q]
def zokN (x : Int32) : Prop := 0 ≤ x.toInt ∧ x.toInt ≤ 3
noncomputable def zoCh (a : zAb) (st x : Int32) : Int32 × Int32 × zAb :=
  zif (zSt st) (zif (zokN x) (zif (1 ≤ zNt x ∧ a.2.2.2.1.1 = 0) (0, -1, a) (0, nI (a.2.2.2.1.1 ^ zNt x), zup a (zNt st) (zcs (zgt a (zNt st)) a.2.2 (zNt x) (zbc (zgt a (zNt st)) a.2.2 (zNt x) (a.2.2.2.1.1 ^ zNt x - 1))))) (2, 0, a)) (1, 0, a)
theorem zoCh_1 {a : zAb} {st x : Int32} (h : ¬ zSt st) : zoCh a st x = (1, 0, a) := zif_f h
theorem zoCh_2 {a : zAb} {st x : Int32} (h : zSt st) (g : ¬ zokN x) : zoCh a st x = (2, 0, a) := (zif_t h).trans (zif_f g)
theorem zoCh_n {a : zAb} {st x : Int32} (h : zSt st) (g : zokN x) (e : 1 ≤ zNt x ∧ a.2.2.2.1.1 = 0) : zoCh a st x = (0, -1, a) := (zif_t h).trans ((zif_t g).trans (zif_t e))
theorem zoCh_0 {a : zAb} {st x : Int32} (h : zSt st) (g : zokN x) (e : ¬ (1 ≤ zNt x ∧ a.2.2.2.1.1 = 0)) : zoCh a st x = (0, nI (a.2.2.2.1.1 ^ zNt x), zup a (zNt st) (zcs (zgt a (zNt st)) a.2.2 (zNt x) (zbc (zgt a (zNt st)) a.2.2 (zNt x) (a.2.2.2.1.1 ^ zNt x - 1)))) := (zif_t h).trans ((zif_t g).trans (zif_f e))
theorem zoCh_W {a : zAb} {st x : Int32} (h : zWA a) : zWA (zoCh a st x).2.2 := by
  by_cases h1 : zSt st
  · by_cases h2 : zokN x
    · by_cases h3 : 1 ≤ zNt x ∧ a.2.2.2.1.1 = 0
      · rw [zoCh_n h1 h2 h3]; exact h
      · rw [zoCh_0 h1 h2 h3]
        exact zWA_up h (zcs_W (zWA_s h) h.2.2.2.1 (zt_n (n := 3) h2.1 h2.2).2 (fun q => by omega))
    · rw [zoCh_2 h1 h2]; exact h
  · rw [zoCh_1 h1]; exact h
/-! the class -/
def zEdP (P : zMem) (s : zStk) : Prop := P 0 0 = nI s.2.2.2.2.1 ∧ P 1 0 = nI s.2.2.2.2.2.1 ∧ P 0 1 = nI s.2.2.2.2.2.2.1 ∧ P 1 1 = nI s.2.2.2.2.2.2.2
/-- what of the object stays -/
def zOb (O : zMem) (b : zAr) : Prop := (O 12 0 = b.1.1 ∧ O 13 0 = nI b.1.2) ∧ (O 14 0 = nI b.2.1.1 ∧ ∀ j : Nat, j < b.2.1.1 → O 3 j = nI (b.2.1.2.1 j) ∧ O 4 j = nI (b.2.1.2.2 j))
theorem zOb_k {O O' : zMem} {b : zAr} (h : ∀ i : Nat, i ≠ 5 → i ≠ 6 → O' i = O i) (g : zOb O b) : zOb O' b := by
  obtain ⟨⟨g1, g2⟩, g3, g4⟩ := g
  refine ⟨⟨by rw [h 12 (by decide) (by decide)]; exact g1, by rw [h 13 (by decide) (by decide)]; exact g2⟩, by rw [h 14 (by decide) (by decide)]; exact g3, fun j hj => ?_⟩
  rw [h 3 (by decide) (by decide), h 4 (by decide) (by decide)]; exact g4 j hj
theorem zCp_end {P : zMem} {j : Nat} {f g h : Nat → Nat} {e : Nat × Nat × Nat × Nat} (q : zCp P (zsI (j, f, g, h, e) j (f j) (g j) (h j))) : zCp P (j + 1, f, g, h, e) := by
  obtain ⟨q1, q2, q3⟩ := q
  have z : ∀ (f : Nat → Nat) (i : Nat), i < j + 1 → zins f j (f j) i = f i := fun f i hi => by
    unfold zins
    by_cases c : i < j
    · rw [if_pos c]
    · rw [if_neg c, if_pos (by omega), show i = j from by omega]
  refine ⟨q1, fun i hi => ?_, q3⟩
  obtain ⟨a1, a2, a3⟩ := q2 i hi
  have hi : i < j + 1 := hi
  have a1 : P 2 i = nI (zins f j (f j) i) := a1
  have a2 : P 3 i = nI (zins g j (g j) i) := a2
  have a3 : P 4 i = nI (zins h j (h j) i) := a3
  rw [z f i hi] at a1
  rw [z g i hi] at a2
  rw [z h i hi] at a3
  exact ⟨a1, a2, a3⟩
theorem zk_lay_tr {O P : zMem} {s : zStk} {b : zAr} {n m : Nat} {post : zMem → Prop} (hO : zOb O b) (hb : zLsW b) (hn : n ≤ 3) (hL : 1 ≤ n → 1 ≤ b.2.1.1) (hE : zEdP P s) (hd : ∀ j : Nat, j < n → O 5 j = nI (zdg b.2.1.1 n m j)) (hK : ∀ P' : zMem, zCp P' (zcs s b n m) → post P') : zw_X5_layNumbers_tr O P (nI n) post := by
  have h6 : b.2.1.1 ≤ 6 := hb.1
  have lp : ∀ (d j : Nat) (Q : zMem), j + d = n → zCp Q (j, (zcs s b n m).2) → zw_X5_layNumbers_tr_7 O (nI n) (fun T => post T) (d + 1) (nI j) Q := by
    intro d
    induction d with
    | zero =>
      intro j Q hj hQ
      have e : j = n := by omega
      subst e
      exact And.intro (fun _ => hK Q hQ) (fun q => absurd (nI_le (Nat.le_refl _) (by omega)) q)
    | succ d ih =>
      intro j Q hj hQ
      have hl : zdg b.2.1.1 n m j < b.2.1.1 := Nat.mod_lt _ (hL (by omega))
      obtain ⟨o1, o2⟩ := hO.2.2 _ hl
      obtain ⟨l1, l2, l3, l4, l5⟩ := hb.2 _ hl
      refine And.intro (fun q => absurd q (nI_ge (by omega) (by omega))) (fun _ => And.intro (fun q => absurd q (nI_ge (b := 3) (by omega) (by omega))) (fun _ => And.intro (vp_in_nI (by omega) (by decide)) ?_))
      intro x ex
      rw [nI_clamp (by omega), hd j (by omega)] at ex
      rw [ex, hO.2.1, nI_clamp (by omega), o1, o2, show Q 5 0 = nI j from hQ.1]
      refine And.intro (fun q => absurd (zn_lt.mp q) (by rw [zn_0, nI_toInt (by omega)]; omega)) (fun _ => And.intro (fun q => absurd q (nI_ge (by omega) (by omega))) (fun _ => And.intro (fun q => absurd q (nI_ge (b := 6) (by omega) (by omega))) (fun _ => And.intro (vp_in_nI (by omega) (by decide)) (And.intro (vp_in_nI (by omega) (by decide)) ?_))))
      refine zr_insert (w := 1) hQ (show j ≤ 6 by omega) (Nat.le_refl j) l1 l2 l3 l4 (fun _ Q' hQ' => ?_) (fun q => absurd (show j = 6 from q) (by omega))
      intro y ey
      rw [ey, nI_1]
      refine ih (j + 1) Q' (by omega) ?_
      rw [l5, Nat.div_one, Nat.div_one] at hQ'
      exact zCp_end (f := fun j => b.2.1.2.1 (zdg b.2.1.1 n m j)) (g := fun j => b.2.1.2.2 (zdg b.2.1.1 n m j)) (h := fun _ => 1) (e := s.2.2.2.2) hQ'
  exact ⟨n + 1, lp n 0 _ (by omega) ⟨rfl, fun i hi => absurd (show i < 0 from hi) (by omega), hE.1, hE.2.1, hE.2.2.1, hE.2.2.2⟩⟩
theorem zk_lay_pi {O P : zMem} {s : zStk} {b : zAr} {n m : Nat} {post : zMem → Prop} (hO : zOb O b) (hb : zLsW b) (hn : n ≤ 3) (hL : 1 ≤ n → 1 ≤ b.2.1.1) (hE : zEdP P s) (hd : ∀ j : Nat, j < n → O 6 j = nI (zdg b.2.1.1 n m j)) (hK : ∀ P' : zMem, zCp P' (zcs s b n m) → post P') : zw_X5_layNumbers_pi O P (nI n) post := by
  have h6 : b.2.1.1 ≤ 6 := hb.1
  have lp : ∀ (d j : Nat) (Q : zMem), j + d = n → zCp Q (j, (zcs s b n m).2) → zw_X5_layNumbers_pi_7 O (nI n) (fun T => post T) (d + 1) (nI j) Q := by
    intro d
    induction d with
    | zero =>
      intro j Q hj hQ
      have e : j = n := by omega
      subst e
      exact And.intro (fun _ => hK Q hQ) (fun q => absurd (nI_le (Nat.le_refl _) (by omega)) q)
    | succ d ih =>
      intro j Q hj hQ
      have hl : zdg b.2.1.1 n m j < b.2.1.1 := Nat.mod_lt _ (hL (by omega))
      obtain ⟨o1, o2⟩ := hO.2.2 _ hl
      obtain ⟨l1, l2, l3, l4, l5⟩ := hb.2 _ hl
      refine And.intro (fun q => absurd q (nI_ge (by omega) (by omega))) (fun _ => And.intro (fun q => absurd q (nI_ge (b := 3) (by omega) (by omega))) (fun _ => And.intro (vp_in_nI (by omega) (by decide)) ?_))
      intro x ex
      rw [nI_clamp (by omega), hd j (by omega)] at ex
      rw [ex, hO.2.1, nI_clamp (by omega), o1, o2, show Q 5 0 = nI j from hQ.1]
      refine And.intro (fun q => absurd (zn_lt.mp q) (by rw [zn_0, nI_toInt (by omega)]; omega)) (fun _ => And.intro (fun q => absurd q (nI_ge (by omega) (by omega))) (fun _ => And.intro (fun q => absurd q (nI_ge (b := 6) (by omega) (by omega))) (fun _ => And.intro (vp_in_nI (by omega) (by decide)) (And.intro (vp_in_nI (by omega) (by decide)) ?_))))
      refine zr_insert (w := 1) hQ (show j ≤ 6 by omega) (Nat.le_refl j) l1 l2 l3 l4 (fun _ Q' hQ' => ?_) (fun q => absurd (show j = 6 from q) (by omega))
      intro y ey
      rw [ey, nI_1]
      refine ih (j + 1) Q' (by omega) ?_
      rw [l5, Nat.div_one, Nat.div_one] at hQ'
      exact zCp_end (f := fun j => b.2.1.2.1 (zdg b.2.1.1 n m j)) (g := fun j => b.2.1.2.2 (zdg b.2.1.1 n m j)) (h := fun _ => 1) (e := s.2.2.2.2) hQ'
  exact ⟨n + 1, lp n 0 _ (by omega) ⟨rfl, fun i hi => absurd (show i < 0 from hi) (by omega), hE.1, hE.2.1, hE.2.2.1, hE.2.2.2⟩⟩
theorem nI_nlt3 {n : Nat} (h : n ≤ 3) : ¬ (3 : Int32) < nI n := fun q => absurd (zn_lt.mp q) (by rw [zc_3, nI_toInt (by omega)]; omega)
theorem zk_adv {O : zMem} {L n m : Nat} {post : zMem → Prop} (h14 : O 14 0 = nI L) (hL6 : L ≤ 6) (hL : 1 ≤ n → 1 ≤ L) (hn : n ≤ 3) (hd : ∀ j : Nat, j < n → O 5 j = nI (zdg L n m j)) (k : ∀ O' : zMem, (∀ i : Nat, i ≠ 5 → O' i = O i) → (∀ j : Nat, j < n → O' 5 j = nI (zdg L n (m + 1) j)) → post O') : zw_X5_advanceNumbers O (nI n) post := by
  have lp : ∀ (c : Nat) (p : Int32) (Q : zMem), c ≤ n → p.toInt = (c : Int) - 1 → (∀ i : Nat, i ≠ 5 → Q i = O i) → (∀ j : Nat, j < c → Q 5 j = nI (zdg L n m j)) → (∀ j : Nat, c ≤ j → j < n → Q 5 j = nI (zdg L n (m + 1) j)) → L ^ (n - c) ∣ m + 1 → zw_X5_advanceNumbers_8 (fun T => post T) (fun T => post T) (c + 1) p Q := by
    intro c
    induction c with
    | zero =>
      intro p Q hc hp hQ h1 h2 hv
      exact And.intro (fun _ => k Q hQ (fun j hj => h2 j (by omega) hj)) (fun q => absurd (zn_lt.mpr (by rw [hp, zn_0]; omega)) q)
    | succ c ih =>
      intro p Q hc hp hQ h1 h2 hv
      have ep : p = nI c := zn_ofI (by omega)
      have L0 : 0 < L := hL (by omega)
      have hlt : zdg L n m c < L := Nat.mod_lt _ L0
      have ek : n - (c + 1) = n - 1 - c := by omega
      rw [ek] at hv
      rw [ep]
      have vi : vp_in (nI c) 3 := vp_in_nI (by omega) (by decide)
      refine And.intro (fun q => absurd (zn_lt.mp q) (by rw [zn_0, nI_toInt (by omega)]; omega)) (fun _ => And.intro vi (And.intro vi ?_))
      intro r er
      rw [nI_clamp (by omega), h1 c (by omega), nI_1] at er
      rw [nI_clamp (by omega), hQ 14 (by decide), h14, show r c = nI (zdg L n m c + 1) from by rw [er, pk_us]]
      refine And.intro vi (And.intro (fun q => And.intro vi ?_) (fun q => ?_))
      · intro r2 er2 y ey
        have q' := (nI_leI (by omega) (by omega)).mp q
        obtain ⟨b1, b2⟩ := zd_B L0 hv q'
        refine ih y _ (by omega) ?_ (fun i hi => ?_) (fun j hj => ?_) (fun j hj hjn => ?_) ?_
        · rw [ey, zn_add (nI_toInt (by omega)) zn_m1 (by omega) (by omega)]; omega
        · rw [zs_out (zn_beq hi)]; exact hQ i hi
        · show r2 j = _
          rw [er2, pk_un (by omega), er, pk_un (by omega)]; exact h1 j (by omega)
        · show r2 j = _
          by_cases e : j = c
          · subst e
            rw [er2, pk_us]
            show nI 0 = nI ((m + 1) / L ^ (n - 1 - j) % L)
            rw [b1]
          · rw [er2, pk_un e, er, pk_un e]; exact h2 j (by omega) hjn
        · rw [show n - c = n - 1 - c + 1 from by omega]; exact b2
      · have q' : ¬ L ≤ zdg L n m c + 1 := fun z => q ((nI_leI (by omega) (by omega)).mpr z)
        obtain ⟨a1, a2⟩ := zd_A L0 hv (show m / L ^ (n - 1 - c) % L + 1 < L by unfold zdg at q'; omega)
        refine k _ (fun i hi => ?_) (fun j hj => ?_)
        · rw [zs_out (zn_beq hi)]; exact hQ i hi
        · show r j = _
          by_cases e : j = c
          · subst e
            rw [er, pk_us]
            show nI (zdg L n m j + 1) = nI ((m + 1) / L ^ (n - 1 - j) % L)
            rw [a1]; rfl
          · rw [er, pk_un e]
            by_cases g : j < c
            · rw [h1 j (by omega)]
              unfold zdg
              have := a2 (c - 1 - j)
              rw [show n - 1 - c + 1 + (c - 1 - j) = n - 1 - j from by omega] at this
              rw [this]
            · exact h2 j (by omega) hj
  intro x ex
  rw [if_neg (nI_nlt3 hn)] at ex
  exact ⟨n + 1, lp n x O (Nat.le_refl _) (by rw [ex, zn_sub (nI_toInt (by omega)) zn_1 (by omega) (by omega)]) (fun _ _ => rfl) hd (fun j h1 h2 => absurd h1 (by omega)) (by rw [Nat.sub_self, Nat.pow_zero]; exact Nat.one_dvd _)⟩
