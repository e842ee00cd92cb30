/-! all registers together -/
def zj (v : Nat → Int) (c : Nat) (x : Int) : Nat → Int := fun j => cond (Nat.beq j c) x (v j)
theorem zj_in {v : Nat → Int} {c : Nat} {x : Int} : zj v c x c = x := by
  unfold zj; rw [Nat.beq_refl]; rfl
theorem zj_out {v : Nat → Int} {c j : Nat} {x : Int} (h : j ≠ c) : zj v c x j = v j := by
  unfold zj; rw [zn_beq h]; rfl
/-- every register holds its number; all other fields are as they were in M0 -/
def zG (M0 M : zMem) (v : Nat → Int) : Prop := (∀ i : Nat, i ≠ 19 → i ≠ 20 → i ≠ 21 → M i = M0 i) ∧ ∀ c : Nat, c < 60 → zN M c (v c)
theorem zG_set {M0 M M' : zMem} {v : Nat → Int} {c : Nat} {X : Int} (h : zG M0 M v) (hO : zO c M M') (hN : zN M' c X) : zG M0 M' (zj v c X) := by
  refine ⟨fun i a b d => by rw [hO.1 i a b d, h.1 i a b d], fun d hd => ?_⟩
  by_cases q : d = c
  · subst q; rw [zj_in]; exact hN
  · rw [zj_out q]; exact zN_O (h.2 d hd) hO q
theorem zG_set' {M0 M M' : zMem} {v : Nat → Int} {c : Nat} {X : Int} (h : zG M0 M v) (hO : zO c M M') (hN : zN M' c X) (e : X = v c) : zG M0 M' v := by
  refine ⟨fun i a b d => by rw [hO.1 i a b d, h.1 i a b d], fun d hd => ?_⟩
  by_cases q : d = c
  · subst q; rw [← e]; exact hN
  · exact zN_O (h.2 d hd) hO q
theorem zg_set {M0 M : zMem} {v : Nat → Int} (c : Nat) {w : Int64} (X : Int) {post : zMem → Prop} (h : zG M0 M v) (hc : c < 60) (hv : w.toInt = X) (h1 : -4611686018427387904 ≤ X) (h2 : X ≤ 4611686018427387904) (k : ∀ M' : zMem, zG M0 M' (zj v c X) → post M') : zw_X6_set M (nI c) w post :=
  zr_rset hc hv h1 h2 (fun M' hO hN => k M' (zG_set h hO hN))
theorem zg_copy {M0 M : zMem} {v : Nat → Int} (c a : Nat) {post : zMem → Prop} (h : zG M0 M v) (hc : c < 60) (ha : a < 60) (k : ∀ M' : zMem, zG M0 M' (zj v c (v a)) → post M') : zw_X6_copy M (nI c) (nI a) post :=
  zr_rcopy hc ha (h.2 a ha) (fun M' hO hN => k M' (zG_set h hO hN))
theorem zn_pwl {X : Int} {e f : Nat} (h : X.natAbs < 2 ^ e) (hl : e ≤ f) : X.natAbs < 2 ^ f := Nat.lt_of_lt_of_le h (Nat.pow_le_pow_right (by decide) hl)
theorem zg_times {M0 M : zMem} {v : Nat → Int} (c a b : Nat) {e f : Nat} {post : zMem → Prop} (h : zG M0 M v) (hc : c < 60) (ha : a < 60) (hb : b < 60) (hca : a ≠ c) (hcb : b ≠ c) (bX : (v a).natAbs < 2 ^ e) (bY : (v b).natAbs < 2 ^ f) (hef : e + f ≤ 2900) (k : ∀ M' : zMem, zG M0 M' (zj v c (v a * v b)) → post M') : zw_X6_times M (nI c) (nI a) (nI b) post :=
  zr_times (e := e / 15 + 1) (f := f / 15 + 1) hc ha hb hca hcb (h.2 a ha) (h.2 b hb) (by omega) (zn_pwl bX (by omega)) (zn_pwl bY (by omega)) (fun M' hO hN => k M' (zG_set h hO hN))
theorem zg_plus {M0 M : zMem} {v : Nat → Int} (c a b : Nat) {e f : Nat} {post : zMem → Prop} (h : zG M0 M v) (hc : c < 60) (ha : a < 60) (hb : b < 60) (bX : (v a).natAbs < 2 ^ e) (bY : (v b).natAbs < 2 ^ f) (he : e ≤ 2985) (hf : f ≤ 2985) (k : ∀ M' : zMem, zG M0 M' (zj v c (v a + v b)) → post M') : zw_X6_plus M (nI c) (nI a) (nI b) post :=
  zr_plus (e := 199) hc ha hb (h.2 a ha) (h.2 b hb) (by omega) (zn_pwl bX (by omega)) (zn_pwl bY (by omega)) (fun M' hO hN => k M' (zG_set h hO hN))
theorem zg_minus {M0 M : zMem} {v : Nat → Int} (c a b : Nat) {e f : Nat} {post : zMem → Prop} (h : zG M0 M v) (hc : c < 60) (ha : a < 60) (hb : b < 60) (bX : (v a).natAbs < 2 ^ e) (bY : (v b).natAbs < 2 ^ f) (he : e ≤ 2985) (hf : f ≤ 2985) (k : ∀ M' : zMem, zG M0 M' (zj v c (v a - v b)) → post M') : zw_X6_minus M (nI c) (nI a) (nI b) post :=
  zr_minus (e := 199) hc ha hb (h.2 a ha) (h.2 b hb) (by omega) (zn_pwl bX (by omega)) (zn_pwl bY (by omega)) (fun M' hO hN => k M' (zG_set h hO hN))
theorem zg_by {M0 M : zMem} {v : Nat → Int} (c : Nat) {w : Int64} (X : Int) {e : Nat} {post : zMem → Prop} (h : zG M0 M v) (hc : c < 37) (hv : w.toInt = X) (h1 : -4611686018427387904 ≤ X) (h2 : X ≤ 4611686018427387904) (bX : (v c).natAbs < 2 ^ e) (he : e ≤ 2800) (k : ∀ M' : zMem, zG M0 M' (zj (zj (zj v 39 X) 37 (v c * X)) c (v c * X)) → post M') : zw_X6_by M (nI c) w post := by
  refine zg_set 39 X h (by decide) hv h1 h2 (fun M1 g1 => ?_)
  have e1 : zj v 39 X c = v c := zj_out (by omega)
  refine zg_times 37 c 39 (e := e) (f := 63) g1 (by decide) (by omega) (by decide) (by omega) (by decide) (by rw [e1]; exact bX) (by rw [zj_in]; omega) (by omega) (fun M2 g2 => ?_)
  rw [e1, zj_in] at g2
  refine zg_copy c 37 g2 (by omega) (by decide) (fun M3 g3 => ?_)
  rw [zj_in] at g3
  exact k M3 g3
/-! even and half -/
theorem zr_isEven {M : zMem} {a : Nat} {X : Int} {post : Int32 → Prop} (ha : a < 60) (h : zN M a X) (k : post (if X % 2 = 0 then 1 else 0)) : zw_X6_isEven M (nI a) post := by
  refine zr_at (k := 0) ha (by decide) h ?_
  rw [zE_0, show (1 : Int32) = nI (2 ^ 1 - 1) from rfl, pk_andN (by omega) 1 (by decide)]
  refine And.intro (fun q => And.intro rfl ?_) (fun q => And.intro rfl ?_)
  · have : ¬ X % 2 = 0 := fun w => q (by rw [show X.natAbs % 32768 % 2 ^ 1 = 0 from by omega]; rfl)
    rw [if_neg this] at k; exact k
  · have : X % 2 = 0 := by
      have := congrArg Int32.toInt q
      rw [nI_toInt (by omega), zn_0] at this
      omega
    rw [if_pos this] at k; exact k
theorem zn_half {a b : Nat} (ha : a < 32768) : ((nI a >>> ((1 : Int32) &&& 31)) ||| ((nI b &&& (1 : Int32)) <<< ((14 : Int32) &&& 31))) = nI (2 ^ 14 * (b % 4294967296 % 2) + a / 2) := by
  have e1 : nI a >>> ((1 : Int32) &&& 31) = nI (a / 2 ^ 1) := pk_shrN (by omega) _ 1 (by decide)
  have e2 : nI b &&& (1 : Int32) = nI (b % 4294967296 % 2 ^ 1) := by
    rw [pk_and (nI b) 1 (by decide)]
    rfl
  rw [e1, e2, pk_shlN _ 14 (by decide) (by omega), Nat.mul_comm, zn_orI (by omega)]
theorem zr_halve_2 {M : zMem} {c n A : Nat} {K : zMem → Prop} (hc : c < 60) (hn : n ≤ 200) (h20 : M 20 c = nI n) (hA : zB M c n A) (hK : ∀ T : zMem, zO c M T → T 20 = M 20 → T 21 = M 21 → zB T c n (A / 2) → K T) : ∀ (d i : Nat) (M1 : zMem), i + d = n → zO c M M1 → M1 20 = M 20 → M1 21 = M 21 → (∀ j : Nat, i ≤ j → j < n → M1 19 (200 * c + j) = M 19 (200 * c + j)) → (∀ j : Nat, j < i → M1 19 (200 * c + j) = nI (zE (A / 2) j % 32768)) → zw_X6_halve_2 (nI c) K (d + 1) (nI i) M1 := by
  intro d
  induction d with
  | zero =>
    intro i M1 hi hO g20 g21 hs hB
    refine And.intro (vp_in_nI hc (by decide)) ?_
    rw [nI_clamp (by omega), g20, h20]
    refine And.intro (fun _ => hK M1 hO g20 g21 ⟨fun k hk => hB k (by omega), zE_le hA.2 (by omega)⟩) (fun q => absurd (nI_le (by omega) (by omega)) q)
  | succ d ih =>
    intro i M1 hi hO g20 g21 hs hB
    refine And.intro (vp_in_nI hc (by decide)) ?_
    rw [nI_clamp (by omega), g20, h20]
    refine And.intro (fun q => absurd q (nI_ge (by omega) (by omega))) (fun _ => ?_)
    refine zr_atr (n := n) (x := zE A i % 32768) hc hn (by omega) (by rw [g20, h20]) (fun q => by rw [hs i (by omega) q]; exact hA.1 i q) (fun q => by rw [zE_up hA.2 i q]) ?_
    rw [nI_1]
    refine zr_atr (n := n) (x := zE A (i + 1) % 32768) hc hn (by omega) (by rw [g20, h20]) (fun q => by rw [hs (i + 1) (by omega) q]; exact hA.1 (i + 1) q) (fun q => by rw [zE_up hA.2 (i + 1) q]) ?_
    rw [zn_ix]
    refine And.intro (vp_in_nI (by omega) (by decide)) ?_
    intro r e x ex
    rw [nI_clamp (by omega), zn_half (by omega)] at e
    have hd : 2 ^ 14 * (zE A (i + 1) % 32768 % 4294967296 % 2) + zE A i % 32768 / 2 = zE (A / 2) i % 32768 := by
      have e1 : zE (A / 2) i = zE A i / 2 := by
        unfold zE
        rw [Nat.div_div_eq_div_mul, Nat.div_div_eq_div_mul, Nat.mul_comm]
      rw [e1, zE_succ]
      omega
    rw [hd] at e
    rw [ex, e]
    refine ih (i + 1) _ (by omega) (zO_trans hO (zO_19 (by omega))) (by rw [zs_out rfl, g20]) (by rw [zs_out rfl, g21]) (fun j hj hj2 => ?_) (fun j hj => ?_)
    · rw [zs_in, pk_un (by omega)]; exact hs j (by omega) hj2
    · rw [zs_in]
      by_cases w2 : j = i
      · subst w2; rw [pk_us]
      · rw [pk_un (by omega)]; exact hB j (by omega)
theorem zr_halve {M : zMem} {c : Nat} {X : Int} {post : zMem → Prop} (hc : c < 60) (h : zN M c X) (hX : 0 ≤ X) (k : ∀ M' : zMem, zO c M M' → zN M' c (X / 2) → post M') : zw_X6_halve M (nI c) post := by
  obtain ⟨n, h1, h2, h3, h4, h5, h6⟩ := h
  refine ⟨_, zr_halve_2 hc h1 h2 ⟨h4, h5⟩ ?_ n 0 M (by omega) (zO_refl c M) rfl rfl (fun _ _ _ => rfl) (fun j hj => by omega)⟩
  intro T hO t20 t21 tB
  refine And.intro (vp_in_nI hc (by decide)) ?_
  rw [nI_clamp (by omega), t20, h2]
  refine zr_trim (X := X / 2) hc h1 tB (by omega) (fun hne => ?_) (fun M' hO' hN => k M' (zO_trans hO hO') hN)
  rw [t21, h3, zsg_pos (by omega), zsg_pos (by omega)]
theorem zg_halve {M0 M : zMem} {v : Nat → Int} (c : Nat) {post : zMem → Prop} (h : zG M0 M v) (hc : c < 60) (h0 : 0 ≤ v c) (k : ∀ M' : zMem, zG M0 M' (zj v c (v c / 2)) → post M') : zw_X6_halve M (nI c) post :=
  zr_halve hc (h.2 c hc) h0 (fun M' hO hN => k M' (zG_set h hO hN))
/-! the common divisor -/
