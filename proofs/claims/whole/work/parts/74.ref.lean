/-! the reference's numbers: limbs of 15 bits in registers -/
def zE (A : Nat) (k : Nat) : Nat := A / 2 ^ (15 * k)
theorem zE_0 (A : Nat) : zE A 0 = A := by unfold zE; simp
theorem zE_succ (A k : Nat) : zE A (k + 1) = zE A k / 32768 := by
  unfold zE
  rw [Nat.div_div_eq_div_mul, show 15 * (k + 1) = 15 * k + 15 from by omega, Nat.pow_add]
theorem zE_add (A i j : Nat) : zE A (i + j) = zE (zE A i) j := by
  unfold zE
  rw [Nat.div_div_eq_div_mul, show 15 * (i + j) = 15 * i + 15 * j from by omega, Nat.pow_add]
theorem zE_of0 (k : Nat) : zE 0 k = 0 := by unfold zE; simp
theorem zE_up {A i : Nat} (h : zE A i = 0) : ∀ k : Nat, i ≤ k → zE A k = 0 := by
  intro k hk
  obtain ⟨j, rfl⟩ : ∃ j, k = i + j := ⟨k - i, by omega⟩
  rw [zE_add, h, zE_of0]
theorem zE_small {A i : Nat} (h : A < 2 ^ (15 * i)) : zE A i = 0 := Nat.div_eq_of_lt h
theorem zE_bound {A i : Nat} (h : zE A i = 0) : A < 2 ^ (15 * i) := by
  unfold zE at h
  rcases Nat.div_eq_zero_iff.mp h with q | q
  · have := Nat.two_pow_pos (15 * i); omega
  · exact q
theorem zE_mono {A B : Nat} (i : Nat) (h : A ≤ B) : zE A i ≤ zE B i := Nat.div_le_div_right h
theorem zE_le {A B i : Nat} (h : zE B i = 0) (hle : A ≤ B) : zE A i = 0 := by have := zE_mono i hle; omega
/-- register c holds X -/
def zN (M : zMem) (c : Nat) (X : Int) : Prop := ∃ n : Nat, n ≤ 200 ∧ M 20 c = nI n ∧ M 21 c = zsg X ∧ (∀ k : Nat, k < n → M 19 (200 * c + k) = nI (zE X.natAbs k % 32768)) ∧ zE X.natAbs n = 0 ∧ (n = 0 ∨ zE X.natAbs (n - 1) ≠ 0)
/-- all but register c is as it was -/
def zO (c : Nat) (M M' : zMem) : Prop := (∀ i : Nat, i ≠ 19 → i ≠ 20 → i ≠ 21 → M' i = M i) ∧ (∀ j : Nat, ¬ (200 * c ≤ j ∧ j < 200 * c + 200) → M' 19 j = M 19 j) ∧ (∀ d : Nat, d ≠ c → M' 20 d = M 20 d ∧ M' 21 d = M 21 d)
theorem zO_refl (c : Nat) (M : zMem) : zO c M M := ⟨fun _ _ _ _ => rfl, fun _ _ => rfl, fun _ _ => ⟨rfl, rfl⟩⟩
theorem zO_trans {c : Nat} {M M1 M2 : zMem} (h : zO c M M1) (g : zO c M1 M2) : zO c M M2 :=
  ⟨fun i a b d => (g.1 i a b d).trans (h.1 i a b d), fun j hj => (g.2.1 j hj).trans (h.2.1 j hj), fun d hd => ⟨(g.2.2 d hd).1.trans (h.2.2 d hd).1, (g.2.2 d hd).2.trans (h.2.2 d hd).2⟩⟩
theorem zn_beq {i j : Nat} (h : i ≠ j) : Nat.beq i j = false := by
  cases e : Nat.beq i j with
  | false => rfl
  | true => exact absurd (Nat.eq_of_beq_eq_true e) h
theorem zO_19 {c k : Nat} {M : zMem} {v : Int32} (hk : k < 200) : zO c M (zset M 19 (upd (M 19) (200 * c + k) v)) := by
  refine ⟨fun i a b d => zs_out (zn_beq a), fun j hj => ?_, fun d _ => ⟨?_, ?_⟩⟩
  · rw [zs_in, pk_un (by omega)]
  · rw [zs_out rfl]
  · rw [zs_out rfl]
theorem zO_20 {c : Nat} {M : zMem} {v : Int32} : zO c M (zset M 20 (upd (M 20) c v)) := by
  refine ⟨fun i a b d => zs_out (zn_beq b), fun j hj => ?_, fun d hd => ⟨?_, ?_⟩⟩
  · rw [zs_out rfl]
  · rw [zs_in, pk_un hd]
  · rw [zs_out rfl]
theorem zO_21 {c : Nat} {M : zMem} {v : Int32} : zO c M (zset M 21 (upd (M 21) c v)) := by
  refine ⟨fun i a b d => zs_out (zn_beq d), fun j hj => ?_, fun d hd => ⟨?_, ?_⟩⟩
  · rw [zs_out rfl]
  · rw [zs_out rfl]
  · rw [zs_in, pk_un hd]
theorem zN_O {c d : Nat} {M M' : zMem} {X : Int} (h : zN M d X) (hO : zO c M M') (hd : d ≠ c) : zN M' d X := by
  obtain ⟨n, h1, h2, h3, h4, h5, h6⟩ := h
  refine ⟨n, h1, by rw [(hO.2.2 d hd).1, h2], by rw [(hO.2.2 d hd).2, h3], fun k hk => ?_, h5, h6⟩
  rw [hO.2.1 _ (by omega)]; exact h4 k hk
theorem zn_ix (c k : Nat) : (200 : Int32) * nI c + nI k = nI (200 * c + k) := by
  rw [show (200 : Int32) = nI 200 from rfl, pk_mul, nI_add]
theorem zr_atr {M : zMem} {a k n x : Nat} {post : Int32 → Prop} (ha : a < 60) (hn : n ≤ 200) (hk : k < 1000) (hs : M 20 a = nI n) (hv : k < n → M 19 (200 * a + k) = nI x) (h0 : n ≤ k → x = 0) (K : post (nI x)) : zw_X6_at M (nI a) (nI k) post := by
  refine And.intro (vp_in_nI ha (by decide)) ?_
  rw [nI_clamp (by omega), hs, zn_ix]
  refine And.intro (fun c => ?_) (fun c => ?_)
  · have c2 := (nI_leI (by omega) (by omega)).mp c
    rw [h0 c2] at K; exact K
  · have c2 : ¬ n ≤ k := fun q => c ((nI_leI (by omega) (by omega)).mpr q)
    refine And.intro (vp_in_nI (by omega) (by decide)) ?_
    rw [nI_clamp (by omega), hv (by omega)]; exact K
theorem zr_at {M : zMem} {a k : Nat} {X : Int} {post : Int32 → Prop} (ha : a < 60) (hk : k < 1000) (h : zN M a X) (K : post (nI (zE X.natAbs k % 32768))) : zw_X6_at M (nI a) (nI k) post := by
  obtain ⟨n, h1, h2, h3, h4, h5, h6⟩ := h
  exact zr_atr ha h1 hk h2 (fun q => h4 k q) (fun q => by rw [zE_up h5 k q]) K
/-- the limbs below n hold A, A has no more -/
def zB (M : zMem) (c n A : Nat) : Prop := (∀ k : Nat, k < n → M 19 (200 * c + k) = nI (zE A k % 32768)) ∧ zE A n = 0
theorem zr_trim_7 {M : zMem} {c A : Nat} (hc : c < 60) {K : zMem → Prop} (hK : ∀ (T : zMem) (n : Nat), n ≤ 200 → zO c M T → T 21 c = M 21 c → T 20 c = nI n → zB T c n A → (n = 0 ∨ zE A (n - 1) ≠ 0) → K T) : ∀ (n : Nat) (M1 : zMem), n ≤ 200 → zO c M M1 → M1 21 c = M 21 c → M1 20 c = nI n → zB M1 c n A → zw_X6_trim_7 (nI c) K (n + 1) M1 := by
  intro n
  induction n with
  | zero =>
    intro M1 hn hO h21 h20 hB
    refine And.intro (vp_in_nI hc (by decide)) ?_
    rw [nI_clamp (by omega), h20]
    exact And.intro (fun _ => hK M1 0 hn hO h21 h20 hB (Or.inl rfl)) (fun q => absurd (by decide) q)
  | succ n ih =>
    intro M1 hn hO h21 h20 hB
    refine And.intro (vp_in_nI hc (by decide)) ?_
    rw [nI_clamp (by omega), h20]
    refine And.intro (fun q => absurd q (nI_nle (by omega) (by omega))) (fun _ => And.intro (vp_in_nI hc (by decide)) ?_)
    rw [show (200 : Int32) = nI 200 from rfl, pk_mul, nI_add, show 200 * c + (n + 1) = 200 * c + n + 1 from by omega, nI_pred, nI_clamp (by omega)]
    refine And.intro (vp_in_nI (by omega) (by decide)) (And.intro (fun q => ?_) (fun q => ?_))
    · have hd : zE A n ≠ 0 := fun w => q (by rw [hB.1 n (by omega), w]; rfl)
      exact hK M1 (n + 1) hn hO h21 h20 hB (Or.inr hd)
    · refine And.intro (vp_in_nI hc (by decide)) (And.intro (vp_in_nI hc (by decide)) ?_)
      intro r e
      rw [nI_pred] at e
      have hd : zE A n % 32768 = 0 := by
        rw [hB.1 n (by omega)] at q
        have := congrArg Int32.toInt q
        rw [nI_toInt (by omega), zn_0] at this
        omega
      have hd2 := hB.2
      rw [zE_succ] at hd2
      rw [e]
      refine ih _ (by omega) (zO_trans hO zO_20) (by rw [zs_out rfl, h21]) (by rw [zs_in, pk_us]) ⟨fun k hk => ?_, by omega⟩
      rw [zs_out rfl]; exact hB.1 k (by omega)
theorem zr_trim {M : zMem} {c n A : Nat} {X : Int} {post : zMem → Prop} (hc : c < 60) (hn : n ≤ 200) (hB : zB M c n A) (hX : X.natAbs = A) (hs : X ≠ 0 → M 21 c = zsg X) (k : ∀ M' : zMem, zO c M M' → zN M' c X → post M') : zw_X6_trim M (nI c) (nI n) post := by
  refine And.intro (vp_in_nI hc (by decide)) ?_
  intro r2 e2
  rw [nI_clamp (by omega)] at e2
  rw [e2]
  refine ⟨_, zr_trim_7 (M := M) (A := A) hc ?_ n _ hn zO_20 (by rw [zs_out rfl]) (by rw [zs_in, pk_us]) ⟨fun k hk => by rw [zs_out rfl]; exact hB.1 k hk, hB.2⟩⟩
  intro T n hn hO h21 h20 hB hl
  refine And.intro (vp_in_nI hc (by decide)) ?_
  rw [nI_clamp (by omega), h20]
  refine And.intro (fun w => ?_) (fun w => And.intro (vp_in_nI hc (by decide)) ?_)
  · have hn0 : n ≠ 0 := fun q => w (by rw [q]; rfl)
    have hX0 : X ≠ 0 := fun q => by
      rcases hl with z | z
      · exact hn0 z
      · exact z (by rw [← hX, q]; exact zE_of0 _)
    exact k T hO ⟨n, hn, h20, by rw [h21]; exact hs hX0, fun k hk => by rw [hX]; exact hB.1 k hk, by rw [hX]; exact hB.2, by rw [hX]; exact hl⟩
  · intro r e
    have hn0 : n = 0 := by
      have := congrArg Int32.toInt w
      rw [nI_toInt (by omega), zn_0] at this
      omega
    subst hn0
    have hA : A = 0 := by have := hB.2; rwa [zE_0] at this
    have hX0 : X = 0 := by omega
    rw [e]
    exact k _ (zO_trans hO zO_21) ⟨0, by omega, by rw [zs_out rfl, h20], by rw [zs_in, pk_us, hX0]; rfl, fun k hk => by omega, by rw [hX, zE_0, hA], Or.inl rfl⟩
theorem zr_rset {M : zMem} {c : Nat} {v : Int64} {X : Int} {post : zMem → Prop} (hc : c < 60) (hv : v.toInt = X) (h1 : -4611686018427387904 ≤ X) (h2 : X ≤ 4611686018427387904) (k : ∀ M' : zMem, zO c M M' → zN M' c X → post M') : zw_X6_set M (nI c) v post := by
  have L : ∀ (f i : Nat) (w : Int64) (M1 : zMem), i + f = 5 → w.toInt = (zE X.natAbs i : Int) → zO c M M1 → M1 21 c = zsg X → M1 20 c = nI i → (∀ k : Nat, k < i → M1 19 (200 * c + k) = nI (zE X.natAbs k % 32768)) → (i = 0 ∨ zE X.natAbs (i - 1) ≠ 0) → zw_X6_set_48 (nI c) (fun (T_19 : zMem) => post T_19) (f + 1) w M1 := by
    intro f
    induction f with
    | zero =>
      intro i w M1 hi hw hO h21 h20 hB hl
      have hi5 : i = 5 := by omega
      have hz : zE X.natAbs i = 0 := by
        rw [hi5]
        exact zE_small (by omega)
      refine And.intro (fun _ => k M1 hO ⟨i, by omega, h20, h21, hB, hz, hl⟩) (fun q => absurd ((lg_cmp_le _ _).mpr (zn_leL.mpr (by rw [hw, hz, zn_0L]; decide))) q)
    | succ f ih =>
      intro i w M1 hi hw hO h21 h20 hB hl
      refine And.intro (fun q => ?_) (fun q => And.intro (vp_in_nI hc (by decide)) ?_)
      · have q2 := zn_leL.mp ((lg_cmp_le _ _).mp q)
        rw [hw, zn_0L] at q2
        exact k M1 hO ⟨i, by omega, h20, h21, hB, by omega, hl⟩
      · have q2 : zE X.natAbs i ≠ 0 := fun h0 => q ((lg_cmp_le _ _).mpr (zn_leL.mpr (by rw [hw, h0, zn_0L]; decide)))
        rw [nI_clamp (by omega), h20, zn_ix]
        refine And.intro (vp_in_nI (by omega) (by decide)) ?_
        intro r14 e14
        rw [nI_clamp (by omega)] at e14
        refine And.intro (vp_in_nI hc (by decide)) (And.intro (vp_in_nI hc (by decide)) ?_)
        intro r17 e17 x4 e4
        rw [nI_1] at e17
        rw [e14, e17]
        have hd : Int64.toInt32 (w &&& (32767 : Int64)) = nI (zE X.natAbs i % 32768) := zn_ofI (by rw [zn_nar (zn_mk15L hw) (by omega) (by omega)]; omega)
        have hO2 : zO c M1 (zset (zset M1 19 (upd (M1 19) (200 * c + i) (Int64.toInt32 (w &&& (32767 : Int64))))) 20 (upd (M1 20) c (nI (i + 1)))) := by
          refine zO_trans (zO_19 (k := i) (v := Int64.toInt32 (w &&& (32767 : Int64))) (by omega)) ?_
          have := zO_20 (c := c) (M := zset M1 19 (upd (M1 19) (200 * c + i) (Int64.toInt32 (w &&& (32767 : Int64))))) (v := nI (i + 1))
          rwa [zs_out (M := M1) (i := 19) (j := 20) rfl] at this
        refine ih (i + 1) x4 _ (by omega) ?_ (zO_trans hO hO2) ?_ ?_ (fun k hk => ?_) (Or.inr q2)
        · rw [e4, zn_sr15L hw, zE_succ]; omega
        · rw [zs_out rfl, zs_out rfl, h21]
        · rw [zs_in, pk_us]
        · rw [zs_out rfl, zs_in]
          by_cases w2 : k = i
          · subst w2; rw [pk_us]; exact hd
          · rw [pk_un (by omega)]; exact hB k (by omega)
  have rest : ∀ (w : Int64) (sg : Int32), w.toInt = (X.natAbs : Int) → sg = zsg X → (vp_in (nI c) 60 ∧ ∀ r_8 : zRow, r_8 = (upd (M 21) (Int32.toNatClampNeg (nI c)) sg) → ((vp_in (nI c) 60 ∧ ∀ r_10 : zRow, r_10 = (upd (M 20) (Int32.toNatClampNeg (nI c)) (0 : Int32)) → ((∃ kf, zw_X6_set_48 (nI c) (fun (T_19 : zMem) => post T_19) kf w (zset (zset M 20 r_10) 21 r_8)))))) := by
    intro w sg hw hs
    refine And.intro (vp_in_nI hc (by decide)) (fun r8 e8 => And.intro (vp_in_nI hc (by decide)) (fun r10 e10 => ?_))
    rw [nI_clamp (by omega)] at e8 e10
    rw [e8, e10]
    have hO : zO c M (zset (zset M 20 (upd (M 20) c 0)) 21 (upd (M 21) c sg)) := by
      refine zO_trans (zO_20 (v := 0)) ?_
      have := zO_21 (c := c) (M := zset M 20 (upd (M 20) c 0)) (v := sg)
      rwa [zs_out (M := M) (i := 20) (j := 21) rfl] at this
    exact ⟨6, L 5 0 w _ (by omega) (by rw [zE_0]; exact hw) hO (by rw [zs_in, pk_us]; exact hs) (by rw [zs_out rfl, zs_in, pk_us]; rfl) (fun k hk => by omega) (Or.inl rfl)⟩
  have cge : 0 ≤ lg_cmp v (0 : Int64) ↔ 0 ≤ X := by rw [lg_cmp_ge, zn_leL, zn_0L, hv]
  have cle : lg_cmp v (0 : Int64) ≤ 0 ↔ X ≤ 0 := by rw [lg_cmp_le, zn_leL, zn_0L, hv]
  refine ⟨fun w => w.toInt = (X.natAbs : Int), ?_, ?_⟩
  · intro w hw
    refine ⟨fun sg => sg = zsg X, fun sg hs => rest w sg hw hs, ?_⟩
    refine And.intro (fun q => And.intro (fun q2 => ?_) (fun q2 => ?_)) (fun q => ?_)
    · exact (zsg_zero (by have := cge.mp q; have := cle.mp q2; omega)).symm
    · exact (zsg_pos (by have := cge.mp q; have : ¬ X ≤ 0 := fun w => q2 (cle.mpr w); omega)).symm
    · exact (zsg_neg (by have : ¬ 0 ≤ X := fun w => q (cge.mpr w); omega)).symm
  · refine And.intro (fun q => ?_) (fun q => ?_)
    · have := cge.mp q
      show v.toInt = _
      rw [hv]; omega
    · have : ¬ 0 ≤ X := fun w => q (cge.mpr w)
      show (-v).toInt = _
      rw [zn_negL hv (by omega) (by omega)]; omega
theorem zr_copy_2 {M : zMem} {c a n : Nat} {A : Nat} {K : zMem → Prop} (hc : c < 60) (ha : a < 60) (h1 : n ≤ 200) (h2 : M 20 a = nI n) (h4 : ∀ k : Nat, k < n → M 19 (200 * a + k) = nI (zE A k % 32768)) (hK : ∀ T : zMem, zO c M T → T 20 = M 20 → T 21 = M 21 → (∀ k : Nat, k < n → T 19 (200 * c + k) = nI (zE A k % 32768)) → K T) : ∀ (d i : Nat) (M1 : zMem), i + d = n → zO c M M1 → M1 20 = M 20 → M1 21 = M 21 → (∀ j : Nat, ¬ (200 * c ≤ j ∧ j < 200 * c + i) → M1 19 j = M 19 j) → (∀ k : Nat, k < i → M1 19 (200 * c + k) = nI (zE A k % 32768)) → zw_X6_copy_2 (nI c) (nI a) K (d + 1) (nI i) M1 := by
  intro d
  induction d with
  | zero =>
    intro i M1 hi hO h20 h21 hs hB
    refine And.intro (vp_in_nI ha (by decide)) ?_
    rw [nI_clamp (by omega), h20, h2]
    exact And.intro (fun _ => hK M1 hO h20 h21 (fun k hk => hB k (by omega))) (fun q => absurd (nI_le (by omega) (by omega)) q)
  | succ d ih =>
    intro i M1 hi hO h20 h21 hs hB
    refine And.intro (vp_in_nI ha (by decide)) ?_
    rw [nI_clamp (by omega), h20, h2]
    refine And.intro (fun q => absurd q (nI_ge (by omega) (by omega))) (fun _ => ?_)
    rw [zn_ix, zn_ix]
    refine And.intro (vp_in_nI (by omega) (by decide)) (And.intro (vp_in_nI (by omega) (by decide)) ?_)
    intro r5 e5 x e
    rw [e, nI_1]
    rw [nI_clamp (by omega), nI_clamp (by omega), hs _ (by omega), h4 i (by omega)] at e5
    rw [e5]
    refine ih (i + 1) _ (by omega) (zO_trans hO (zO_19 (by omega))) (by rw [zs_out rfl, h20]) (by rw [zs_out rfl, h21]) (fun j hj => ?_) (fun k hk => ?_)
    · rw [zs_in, pk_un (by omega)]; exact hs j (by omega)
    · rw [zs_in]
      by_cases w2 : k = i
      · subst w2; rw [pk_us]
      · rw [pk_un (by omega)]; exact hB k (by omega)
theorem zr_rcopy {M : zMem} {c a : Nat} {X : Int} {post : zMem → Prop} (hc : c < 60) (ha : a < 60) (h : zN M a X) (k : ∀ M' : zMem, zO c M M' → zN M' c X → post M') : zw_X6_copy M (nI c) (nI a) post := by
  obtain ⟨n, h1, h2, h3, h4, h5, h6⟩ := h
  refine ⟨_, zr_copy_2 hc ha h1 h2 h4 ?_ n 0 M (by omega) (zO_refl c M) rfl rfl (fun _ _ => rfl) (fun k hk => by omega)⟩
  intro T hO h20 h21 hB
  refine And.intro (vp_in_nI ha (by decide)) (And.intro (vp_in_nI hc (by decide)) ?_)
  intro r10 e10
  refine And.intro (vp_in_nI ha (by decide)) (And.intro (vp_in_nI hc (by decide)) ?_)
  intro r13 e13
  have ca : (nI a).toNatClampNeg = a := nI_clamp (by omega)
  have cc : (nI c).toNatClampNeg = c := nI_clamp (by omega)
  rw [ca, cc, h20, h2] at e10
  rw [ca, cc, h21, h3] at e13
  have hO2 : zO c T (zset (zset T 20 r10) 21 r13) := by
    refine zO_trans (M1 := zset T 20 r10) ?_ ?_
    · rw [e10, ← h20]; exact zO_20
    · have := zO_21 (c := c) (M := zset T 20 r10) (v := zsg X)
      rw [zs_out (M := T) (i := 20) (j := 21) rfl, h21] at this
      rw [e13]; exact this
  refine k _ (zO_trans hO hO2) ⟨n, h1, by rw [zs_out rfl, zs_in, e10, pk_us], by rw [zs_in, e13, pk_us], fun k hk => ?_, h5, h6⟩
  rw [zs_out rfl, zs_out rfl]; exact hB k hk
theorem zE_size {A n m : Nat} (h6 : n = 0 ∨ zE A (n - 1) ≠ 0) (hA : zE A m = 0) : n ≤ m := by
  rcases Nat.lt_or_ge m n with q | q
  · rcases h6 with w | w
    · omega
    · exact absurd (zE_up hA (n - 1) (by omega)) w
  · exact q
theorem zE_lt {A B i : Nat} (h : zE A i < zE B i) : A < B := by
  rcases Nat.lt_or_ge A B with q | q
  · exact q
  · have := zE_mono i q; omega
theorem zr_compareSizes {M : zMem} {a b : Nat} {X Y : Int} {post : Int32 → Prop} (ha : a < 60) (hb : b < 60) (hX : zN M a X) (hY : zN M b Y) (k : post (zsg ((X.natAbs : Int) - Y.natAbs))) : zw_X6_compareSizes M (nI a) (nI b) post := by
  have hX' := hX
  have hY' := hY
  obtain ⟨n, h1, h2, h3, h4, h5, h6⟩ := hX
  obtain ⟨m, g1, g2, g3, g4, g5, g6⟩ := hY
  refine And.intro (vp_in_nI ha (by decide)) (And.intro (vp_in_nI hb (by decide)) ?_)
  rw [nI_clamp (by omega), nI_clamp (by omega), h2, g2]
  refine And.intro (fun q => And.intro (vp_in_nI ha (by decide)) ?_) (fun q => And.intro (vp_in_nI ha (by decide)) (And.intro (vp_in_nI hb (by decide)) ?_))
  · have hnm : n = m := (nI_eq (by omega) (by omega)).mp q
    subst hnm
    intro x e
    have hx : x.toInt = (n : Int) - 1 := by rw [e]; exact zn_sub (nI_toInt (by omega)) zn_1 (by omega) (by omega)
    have L : ∀ (i : Nat) (p : Int32), p.toInt = (i : Int) - 1 → i ≤ n → zE X.natAbs i = zE Y.natAbs i → zw_X6_compareSizes_45 M (nI a) (nI b) (fun (x3_11 : Int32) => zw_X6_at M (nI a) x3_11 (fun (v_12 : Int32) => zw_X6_at M (nI b) x3_11 (fun (v_13 : Int32) => ((v_13 ≤ v_12 → post (1 : Int32) ) ∧ (¬ v_13 ≤ v_12 → post (-1 : Int32) ))))) (post (0 : Int32) ) (i + 1) p := by
      intro i
      induction i with
      | zero =>
        intro p hp hi hz
        refine And.intro (fun _ => ?_) (fun c => absurd (zn_lt.mpr (by rw [hp, zn_0]; omega)) c)
        rw [zE_0, zE_0] at hz
        rw [← zsg_zero (X := (X.natAbs : Int) - Y.natAbs) (by omega)]; exact k
      | succ i ih =>
        intro p hp hi hz
        have ep : p = nI i := zn_ofI (by omega)
        subst ep
        rw [zE_succ, zE_succ] at hz
        refine And.intro (fun c => absurd c (nI_pos (by omega))) (fun _ => ?_)
        refine zr_at ha (by omega) hX' (zr_at hb (by omega) hY' ?_)
        refine And.intro (fun c => ?_) (fun c => ?_)
        · have c2 := (nI_eq (by omega) (by omega)).mp c
          intro x e
          refine ih x ?_ (by omega) (by omega)
          rw [e]; exact zn_add (nI_toInt (by omega)) zn_m1 (by omega) (by omega)
        · have c2 : zE X.natAbs i % 32768 ≠ zE Y.natAbs i % 32768 := fun q => c (by rw [q])
          refine zr_at ha (by omega) hX' (zr_at hb (by omega) hY' ?_)
          refine And.intro (fun w => ?_) (fun w => ?_)
          · have w2 := (nI_leI (by omega) (by omega)).mp w
            have := zE_lt (A := Y.natAbs) (B := X.natAbs) (i := i) (by omega)
            rw [← zsg_pos (X := (X.natAbs : Int) - Y.natAbs) (by omega)]; exact k
          · have w2 : ¬ zE Y.natAbs i % 32768 ≤ zE X.natAbs i % 32768 := fun q => w ((nI_leI (by omega) (by omega)).mpr q)
            have := zE_lt (A := X.natAbs) (B := Y.natAbs) (i := i) (by omega)
            rw [← zsg_neg (X := (X.natAbs : Int) - Y.natAbs) (by omega)]; exact k
    exact ⟨_, L n x hx (Nat.le_refl n) (by rw [h5, g5])⟩
  · have hnm : n ≠ m := fun w => q (by rw [w])
    refine And.intro (fun w => ?_) (fun w => ?_)
    · have w2 : m ≤ n := (nI_leI (by omega) (by omega)).mp w
      have w3 : ¬ zE X.natAbs m = 0 := fun z => by have := zE_size h6 z; omega
      have := zE_lt (A := Y.natAbs) (B := X.natAbs) (i := m) (by omega)
      rw [← zsg_pos (X := (X.natAbs : Int) - Y.natAbs) (by omega)]; exact k
    · have w2 : ¬ m ≤ n := fun z => w ((nI_leI (by omega) (by omega)).mpr z)
      have w3 : ¬ zE Y.natAbs n = 0 := fun z => by have := zE_size g6 z; omega
      have := zE_lt (A := X.natAbs) (B := Y.natAbs) (i := n) (by omega)
      rw [← zsg_neg (X := (X.natAbs : Int) - Y.natAbs) (by omega)]; exact k
theorem zr_rcompare {M : zMem} {a b : Nat} {X Y : Int} {post : Int32 → Prop} (ha : a < 60) (hb : b < 60) (hX : zN M a X) (hY : zN M b Y) (k : post (zsg (X - Y))) : zw_X6_compare M (nI a) (nI b) post := by
  have hX' := hX
  have hY' := hY
  obtain ⟨n, h1, h2, h3, h4, h5, h6⟩ := hX
  obtain ⟨m, g1, g2, g3, g4, g5, g6⟩ := hY
  refine And.intro (vp_in_nI ha (by decide)) (And.intro (vp_in_nI hb (by decide)) ?_)
  rw [nI_clamp (by omega), nI_clamp (by omega), h3, g3]
  have hs : ∀ Z : Int, (zsg Z).toInt = Z.sign := zsg_toInt
  have sg : ∀ Z : Int, (Z < 0 ∧ Z.sign = -1) ∨ (Z = 0 ∧ Z.sign = 0) ∨ (0 < Z ∧ Z.sign = 1) := fun Z => by
    rcases Int.lt_trichotomy Z 0 with h | h | h
    · exact Or.inl ⟨h, Int.sign_eq_neg_one_of_neg h⟩
    · exact Or.inr (Or.inl ⟨h, by rw [h]; rfl⟩)
    · exact Or.inr (Or.inr ⟨h, Int.sign_eq_one_of_pos h⟩)
  refine And.intro (fun q => And.intro (vp_in_nI ha (by decide)) (And.intro (fun q2 => ?_) (fun q2 => ?_))) (fun q => And.intro (vp_in_nI ha (by decide)) (And.intro (vp_in_nI hb (by decide)) (And.intro (fun q2 => ?_) (fun q2 => ?_))))
  · have q := zn_eq.mp q
    have q2 := zn_le.mp q2
    rw [hs, hs] at q
    rw [hs, zn_0] at q2
    refine zr_compareSizes ha hb hX' hY' ?_
    rw [show (X.natAbs : Int) - Y.natAbs = X - Y from by rcases sg X with a | a | a <;> rcases sg Y with b | b | b <;> omega]; exact k
  · have q := zn_eq.mp q
    have q2 : ¬ 0 ≤ X.sign := fun w => q2 (zn_le.mpr (by rw [hs, zn_0]; exact w))
    rw [hs, hs] at q
    refine zr_compareSizes hb ha hY' hX' ?_
    rw [show (Y.natAbs : Int) - X.natAbs = X - Y from by rcases sg X with a | a | a <;> rcases sg Y with b | b | b <;> omega]; exact k
  · have q : X.sign ≠ Y.sign := fun w => q (zn_eq.mpr (by rw [hs, hs, w]))
    have q2 := zn_le.mp q2
    rw [hs, hs] at q2
    rw [← zsg_pos (X := X - Y) (by rcases sg X with a | a | a <;> rcases sg Y with b | b | b <;> omega)]; exact k
  · have q : X.sign ≠ Y.sign := fun w => q (zn_eq.mpr (by rw [hs, hs, w]))
    have q2 : ¬ Y.sign ≤ X.sign := fun w => q2 (zn_le.mpr (by rw [hs, hs]; exact w))
    rw [← zsg_neg (X := X - Y) (by rcases sg X with a | a | a <;> rcases sg Y with b | b | b <;> omega)]; exact k
