/-! the reference's numbers: sums and products -/
theorem zN_size {M : zMem} {c e : Nat} {X : Int} (h : zN M c X) (hX : X.natAbs < 2 ^ (15 * e)) : ∃ n : Nat, n ≤ e ∧ n ≤ 200 ∧ M 20 c = nI n ∧ M 21 c = zsg X ∧ (∀ k : Nat, k < n → M 19 (200 * c + k) = nI (zE X.natAbs k % 32768)) ∧ zE X.natAbs n = 0 := by
  obtain ⟨n, h1, h2, h3, h4, h5, h6⟩ := h
  exact ⟨n, zE_size h6 (zE_small hX), h1, h2, h3, h4, h5⟩
theorem zr_add_84 {M : zMem} {c a b na nb n A B : Nat} {c5 : Int32} {K : Int32 → zMem → Prop} (hc : c < 60) (ha : a < 60) (hb : b < 60) (hna : na ≤ n) (hnb : nb ≤ n) (hn : n ≤ 199) (a20 : M 20 a = nI na) (b20 : M 20 b = nI nb) (aB : zB M a na A) (bB : zB M b nb B) (hK : ∀ (T : zMem) (x : Nat), zO c M T → T 20 = M 20 → T 21 = M 21 → (∀ k : Nat, k < n → T 19 (200 * c + k) = nI (zE (A + B) k % 32768)) → x = zE (A + B) n → K (nI x) T) :
    ∀ (d i : Nat) (m : Nat) (M1 : zMem), i + d = n → m ≤ 1 → zO c M M1 → M1 20 = M 20 → M1 21 = M 21 → (∀ j : Nat, ¬ (200 * c ≤ j ∧ j < 200 * c + i) → M1 19 j = M 19 j) → (∀ k : Nat, k < i → M1 19 (200 * c + k) = nI (zE (A + B) k % 32768)) → zE (A + B) i = m + zE A i + zE B i → zw_X6_add_84 (nI c) (nI a) (nI b) c5 (nI n) K (d + 1) (nI m) (nI i) M1 := by
  intro d
  induction d with
  | zero =>
    intro i m M1 hi hm hO h20 h21 hs hB hz
    have e : i = n := by omega
    subst e
    have hA : zE A i = 0 := zE_up aB.2 i (by omega)
    have hB' : zE B i = 0 := zE_up bB.2 i (by omega)
    exact And.intro (fun _ => hK M1 m hO h20 h21 hB (by omega)) (fun q => absurd (nI_le (Nat.le_refl _) (by omega)) q)
  | succ d ih =>
    intro i m M1 hi hm hO h20 h21 hs hB hz
    refine And.intro (fun q => absurd q (nI_ge (by omega) (by omega))) (fun _ => ?_)
    refine zr_atr (n := na) (x := zE A i % 32768) ha (by omega) (by omega) (by rw [h20, a20]) (fun q => by rw [hs _ (by omega)]; exact aB.1 i q) (fun q => by rw [zE_up aB.2 i q]) ?_
    refine zr_atr (n := nb) (x := zE B i % 32768) hb (by omega) (by omega) (by rw [h20, b20]) (fun q => by rw [hs _ (by omega)]; exact bB.1 i q) (fun q => by rw [zE_up bB.2 i q]) ?_
    intro x9 e9
    rw [nI_add, nI_add] at e9
    rw [zn_ix]
    refine And.intro (vp_in_nI (by omega) (by decide)) ?_
    intro r e x7 e7 x8 e8
    rw [nI_clamp (by omega), e9, show (32767 : Int32) = nI (2 ^ 15 - 1) from rfl] at e
    rw [pk_andN (by omega) 15 (by decide)] at e
    rw [e9, pk_shrN (by omega) _ 15 (by decide)] at e7
    rw [e8, nI_1, e7, e]
    refine ih (i + 1) _ _ (by omega) (by omega) (zO_trans hO (zO_19 (by omega))) (by rw [zs_out rfl, h20]) (by rw [zs_out rfl, h21]) (fun j hj => ?_) (fun k hk => ?_) ?_
    · rw [zs_in, pk_un (by omega)]; exact hs j (by omega)
    · rw [zs_in]
      by_cases w2 : k = i
      · subst w2; rw [pk_us]
        congr 1
        rw [hz]; omega
      · rw [pk_un (by omega)]; exact hB k (by omega)
    · rw [zE_succ, zE_succ, zE_succ, hz]; omega
theorem zr_add_219 {M : zMem} {c a b na nb n A B : Nat} {c4 c5 c8 : Int32} {K : zMem → Prop} (hc : c < 60) (ha : a < 60) (hb : b < 60) (hna : na ≤ n) (hnb : nb ≤ n) (hn : n ≤ 199) (a20 : M 20 a = nI na) (b20 : M 20 b = nI nb) (aB : zB M a na A) (bB : zB M b nb B) (hAB : B ≤ A) (hK : ∀ (T : zMem), zO c M T → T 20 = M 20 → T 21 = M 21 → zB T c n (A - B) → K T) :
    ∀ (d i : Nat) (p : Int32) (m : Int) (M1 : zMem), i + d = n → p.toInt = m → -1 ≤ m → m ≤ 0 → zO c M M1 → M1 20 = M 20 → M1 21 = M 21 → (∀ j : Nat, ¬ (200 * c ≤ j ∧ j < 200 * c + i) → M1 19 j = M 19 j) → (∀ k : Nat, k < i → M1 19 (200 * c + k) = nI (zE (A - B) k % 32768)) → (zE (A - B) i : Int) = m + zE A i - zE B i → zw_X6_add_219 (nI c) c4 c5 (nI n) c8 (nI a) (nI b) K (d + 1) p (nI i) M1 := by
  intro d
  induction d with
  | zero =>
    intro i p m M1 hi hp hm1 hm2 hO h20 h21 hs hB hz
    have e : i = n := by omega
    subst e
    have hA : zE A i = 0 := zE_up aB.2 i (by omega)
    exact And.intro (fun _ => hK M1 hO h20 h21 ⟨hB, zE_le hA (by omega)⟩) (fun q => absurd (nI_le (Nat.le_refl _) (by omega)) q)
  | succ d ih =>
    intro i p m M1 hi hp hm1 hm2 hO h20 h21 hs hB hz
    refine And.intro (fun q => absurd q (nI_ge (by omega) (by omega))) (fun _ => ?_)
    refine zr_atr (n := na) (x := zE A i % 32768) ha (by omega) (by omega) (by rw [h20, a20]) (fun q => by rw [hs _ (by omega)]; exact aB.1 i q) (fun q => by rw [zE_up aB.2 i q]) ?_
    refine zr_atr (n := nb) (x := zE B i % 32768) hb (by omega) (by omega) (by rw [h20, b20]) (fun q => by rw [hs _ (by omega)]; exact bB.1 i q) (fun q => by rw [zE_up bB.2 i q]) ?_
    intro x9 e9
    have ex : x9.toInt = ((zE A i % 32768 : Nat) : Int) - ((zE B i % 32768 : Nat) : Int) + m := by
      rw [e9]; exact zn_add (zn_sub (nI_toInt (by omega)) (nI_toInt (by omega)) (by omega) (by omega)) hp (by omega) (by omega)
    rw [zn_ix]
    refine And.intro (vp_in_nI (by omega) (by decide)) ?_
    intro r e x7 e7 x8 e8
    rw [nI_clamp (by omega)] at e
    have hd : (x9 &&& 32767) = nI (zE (A - B) i % 32768) := zn_ofI (by rw [zn_mk15 ex]; omega)
    rw [hd] at e
    have h7 : x7.toInt = (((zE A i % 32768 : Nat) : Int) - ((zE B i % 32768 : Nat) : Int) + m) / 32768 := by rw [e7]; exact zn_sr15 ex
    rw [e8, nI_1, e]
    refine ih (i + 1) _ _ _ (by omega) h7 (by omega) (by omega) (zO_trans hO (zO_19 (by omega))) (by rw [zs_out rfl, h20]) (by rw [zs_out rfl, h21]) (fun j hj => ?_) (fun k hk => ?_) ?_
    · rw [zs_in, pk_un (by omega)]; exact hs j (by omega)
    · rw [zs_in]
      by_cases w2 : k = i
      · subst w2; rw [pk_us]
      · rw [pk_un (by omega)]; exact hB k (by omega)
    · rw [zE_succ, zE_succ, zE_succ]; omega
theorem zn_szor {n m : Nat} (hn : n ≤ 199) (hm : m ≤ 199) : (nI n ≤ nI m ↔ n ≤ m) := nI_leI (by omega) (by omega)
theorem zr_add {M : zMem} {c a b e : Nat} {X Y Y' : Int} {sb : Int32} {post : zMem → Prop} (hc : c < 60) (ha : a < 60) (hb : b < 60) (hX : zN M a X) (hY : zN M b Y) (he : e ≤ 199) (bX : X.natAbs < 2 ^ (15 * e)) (bY : Y.natAbs < 2 ^ (15 * e)) (hY' : Y'.natAbs = Y.natAbs) (hs : sb = zsg Y') (k : ∀ M' : zMem, zO c M M' → zN M' c (X + Y') → post M') : zw_X6_add M (nI c) (nI a) (nI b) sb post := by
  have hX' := hX
  have hY0 := hY
  obtain ⟨na, h1, h1', h2, h3, h4, h5⟩ := zN_size hX bX
  obtain ⟨nb, g1, g1', g2, g3, g4, g5⟩ := zN_size hY bY
  have ca : (nI a).toNatClampNeg = a := nI_clamp (by omega)
  have cb : (nI b).toNatClampNeg = b := nI_clamp (by omega)
  have cc : (nI c).toNatClampNeg = c := nI_clamp (by omega)
  have sgs : ∀ {U V : Int}, zsg U = zsg V → (U < 0 ∧ V < 0) ∨ (U = 0 ∧ V = 0) ∨ (0 < U ∧ 0 < V) := fun {U V} h => by
    rcases Int.lt_trichotomy U 0 with p | p | p <;> rcases Int.lt_trichotomy V 0 with q | q | q <;> (first | (rw [zsg_neg p] at h) | (rw [zsg_zero p] at h) | (rw [zsg_pos p] at h)) <;> (first | (rw [zsg_neg q] at h) | (rw [zsg_zero q] at h) | (rw [zsg_pos q] at h)) <;> first | exact Or.inl ⟨p, q⟩ | exact Or.inr (Or.inl ⟨p, q⟩) | exact Or.inr (Or.inr ⟨p, q⟩) | exact absurd h (by decide)
  refine And.intro (fun q0 => And.intro (vp_in_nI ha (by decide)) ?_) (fun q0 => ?_)
  · have hY0' : Y' ≠ 0 := fun w => q0 (by rw [hs, zsg_zero w])
    refine ⟨fun s => s = zsg (if X = 0 then Y' else X), ?_, ?_⟩
    · rintro s rfl
      refine And.intro (vp_in_nI ha (by decide)) (And.intro (vp_in_nI hb (by decide)) ?_)
      refine ⟨fun m => ∃ n : Nat, m = nI n ∧ na ≤ n ∧ nb ≤ n ∧ n ≤ e, ?_, ?_⟩
      · rintro m ⟨n, rfl, hna, hnb, hne⟩
        refine And.intro (fun q => ?_) (fun q => ?_)
        · -- the signs differ
          have hX0 : X ≠ 0 := fun w => q (by rw [if_pos w, hs])
          rw [if_neg hX0] at q ⊢
          have hd : (X < 0 ∧ 0 < Y') ∨ (0 < X ∧ Y' < 0) := by
            rcases Int.lt_trichotomy X 0 with p | p | p
            · rcases Int.lt_trichotomy Y' 0 with p2 | p2 | p2
              · exact absurd (by rw [hs, zsg_neg p, zsg_neg p2]) q
              · exact absurd p2 hY0'
              · exact Or.inl ⟨p, p2⟩
            · exact absurd p hX0
            · rcases Int.lt_trichotomy Y' 0 with p2 | p2 | p2
              · exact Or.inr ⟨p, p2⟩
              · exact absurd p2 hY0'
              · exact absurd (by rw [hs, zsg_pos p, zsg_pos p2]) q
          refine zr_compareSizes ha hb hX' hY0 ?_
          have fin : ∀ (less : Bool), (less = true ↔ X.natAbs < Y.natAbs) → ∃ KJ_18 : Int32 → Prop, (∀ (v_17 : Int32), KJ_18 v_17 → (∃ KJ_21 : Int32 → Prop, (∀ (v_20 : Int32), KJ_21 v_20 → (∃ kf, zw_X6_add_219 (nI c) sb (zsg X) (nI n) (if less then 1 else 0) v_17 v_20 (fun (T_30 : zMem) => (((if less then (1 : Int32) else 0) = 0 → (vp_in (nI c) 60 ∧ ∀ r_33 : zRow, r_33 = (upd (T_30 21) (Int32.toNatClampNeg (nI c)) (zsg X)) → (zw_X6_trim (zset T_30 21 r_33) (nI c) (nI n) (fun (T_34 : zMem) => post T_34)))) ∧ (¬ (if less then (1 : Int32) else 0) = 0 → (vp_in (nI c) 60 ∧ ∀ r_36 : zRow, r_36 = (upd (T_30 21) (Int32.toNatClampNeg (nI c)) sb) → (zw_X6_trim (zset T_30 21 r_36) (nI c) (nI n) (fun (T_37 : zMem) => post T_37)))))) kf (0 : Int32) (0 : Int32) M)) ∧ (((if less then (1 : Int32) else 0) = 0 → (KJ_21 (nI b))) ∧ (¬ (if less then (1 : Int32) else 0) = 0 → (KJ_21 (nI a)))))) ∧ (((if less then (1 : Int32) else 0) = 0 → (KJ_18 (nI a))) ∧ (¬ (if less then (1 : Int32) else 0) = 0 → (KJ_18 (nI b)))) := by
            intro less hl
            cases less with
            | true =>
              have hlt := hl.mp rfl
              refine ⟨fun v => v = nI b, ?_, And.intro (fun w => absurd w (by decide)) (fun _ => rfl)⟩
              rintro v rfl
              refine ⟨fun v => v = nI a, ?_, And.intro (fun w => absurd w (by decide)) (fun _ => rfl)⟩
              rintro v rfl
              refine ⟨_, zr_add_219 hc hb ha hnb hna (by omega) g2 h2 ⟨g4, g5⟩ ⟨h4, h5⟩ (by omega) ?_ n 0 0 0 M (by omega) zn_0 (by decide) (by decide) (zO_refl c M) rfl rfl (fun _ _ => rfl) (fun k hk => by omega) (by rw [zE_0, zE_0, zE_0]; omega)⟩
              intro T hO h20 h21 hB
              refine And.intro (fun w => absurd w (by decide)) (fun _ => And.intro (vp_in_nI hc (by decide)) ?_)
              intro r er
              rw [cc] at er
              rw [er]
              refine zr_trim (X := X + Y') hc (by omega) (A := Y.natAbs - X.natAbs) ⟨fun k hk => by rw [zs_out rfl]; exact hB.1 k hk, hB.2⟩ (by omega) (fun _ => ?_) (fun M' hO' hN' => k M' (zO_trans (zO_trans hO zO_21) hO') hN')
              rw [zs_in, pk_us, hs]
              rcases hd with ⟨p, p2⟩ | ⟨p, p2⟩
              · rw [zsg_pos p2, zsg_pos (by omega)]
              · rw [zsg_neg p2, zsg_neg (by omega)]
            | false =>
              have hlt : ¬ X.natAbs < Y.natAbs := fun w => by have := hl.mpr w; cases this
              refine ⟨fun v => v = nI a, ?_, And.intro (fun _ => rfl) (fun w => absurd rfl w)⟩
              rintro v rfl
              refine ⟨fun v => v = nI b, ?_, And.intro (fun _ => rfl) (fun w => absurd rfl w)⟩
              rintro v rfl
              refine ⟨_, zr_add_219 hc ha hb hna hnb (by omega) h2 g2 ⟨h4, h5⟩ ⟨g4, g5⟩ (by omega) ?_ n 0 0 0 M (by omega) zn_0 (by decide) (by decide) (zO_refl c M) rfl rfl (fun _ _ => rfl) (fun k hk => by omega) (by rw [zE_0, zE_0, zE_0]; omega)⟩
              intro T hO h20 h21 hB
              refine And.intro (fun _ => And.intro (vp_in_nI hc (by decide)) ?_) (fun w => absurd rfl w)
              intro r er
              rw [cc] at er
              rw [er]
              refine zr_trim (X := X + Y') hc (by omega) (A := X.natAbs - Y.natAbs) ⟨fun k hk => by rw [zs_out rfl]; exact hB.1 k hk, hB.2⟩ (by omega) (fun hne => ?_) (fun M' hO' hN' => k M' (zO_trans (zO_trans hO zO_21) hO') hN')
              rw [zs_in, pk_us]
              rcases hd with ⟨p, p2⟩ | ⟨p, p2⟩
              · rw [zsg_neg p, zsg_neg (by omega)]
              · rw [zsg_pos p, zsg_pos (by omega)]
          rcases Nat.lt_or_ge X.natAbs Y.natAbs with w | w
          · refine ⟨fun v => v = 1, ?_, ?_⟩
            · rintro v rfl; exact fin true ⟨fun _ => w, fun _ => rfl⟩
            · rw [zsg_neg (by omega)]
              exact And.intro (fun w => absurd w (by decide)) (fun _ => rfl)
          · refine ⟨fun v => v = 0, ?_, ?_⟩
            · rintro v rfl; exact fin false ⟨fun h => absurd h (by decide), fun h => absurd h (by omega)⟩
            · refine And.intro (fun _ => rfl) (fun w2 => absurd ?_ w2)
              rcases Nat.lt_or_ge Y.natAbs X.natAbs with w3 | w3
              · rw [zsg_pos (by omega)]; decide
              · rw [zsg_zero (by omega)]; decide
        · -- the signs are alike
          have hd : X = 0 ∨ (X < 0 ∧ Y' < 0) ∨ (0 < X ∧ 0 < Y') := by
            rcases Int.lt_trichotomy X 0 with p | p | p
            · rw [if_neg (by omega), hs] at q
              rcases sgs q with w | w | w <;> omega
            · exact Or.inl p
            · rw [if_neg (by omega), hs] at q
              rcases sgs q with w | w | w <;> omega
          refine ⟨_, zr_add_84 hc ha hb hna hnb (by omega) h2 g2 ⟨h4, h5⟩ ⟨g4, g5⟩ ?_ n 0 0 M (by omega) (by omega) (zO_refl c M) rfl rfl (fun _ _ => rfl) (fun k hk => by omega) (by rw [zE_0, zE_0, zE_0]; omega)⟩
          intro T x hO h20 h21 hB hx
          rw [zn_ix]
          refine And.intro (vp_in_nI (by omega) (by decide)) ?_
          intro r49 e49
          refine And.intro (vp_in_nI hc (by decide)) ?_
          intro r51 e51
          rw [nI_clamp (by omega)] at e49
          rw [cc] at e51
          rw [e49, e51, nI_1]
          have hA : zE X.natAbs n = 0 := zE_up h5 n hna
          have hBB : zE Y.natAbs n = 0 := zE_up g5 n hnb
          have h6 : X.natAbs + Y.natAbs < 2 ^ (15 * (n + 1)) := by
            have a1 := zE_bound hA
            have a2 := zE_bound hBB
            have a3 : (2 : Nat) ^ (15 * (n + 1)) = 2 ^ (15 * n) * 32768 := by rw [show 15 * (n + 1) = 15 * n + 15 from by omega, Nat.pow_add]
            omega
          have hz := zE_small h6
          have hlast : x % 32768 = x := by
            rw [zE_succ, ← hx] at hz
            omega
          have hO2 : zO c T (zset (zset T 19 (upd (T 19) (200 * c + n) (nI x))) 21 (upd (T 21) c (zsg (if X = 0 then Y' else X)))) := by
            refine zO_trans (zO_19 (k := n) (v := nI x) (by omega)) ?_
            have := zO_21 (c := c) (M := zset T 19 (upd (T 19) (200 * c + n) (nI x))) (v := zsg (if X = 0 then Y' else X))
            rwa [zs_out (M := T) (i := 19) (j := 21) rfl] at this
          refine zr_trim (X := X + Y') hc (by omega) (A := X.natAbs + Y.natAbs) ⟨fun k hk => ?_, hz⟩ (by omega) (fun _ => ?_) (fun M' hO' hN' => k M' (zO_trans (zO_trans hO hO2) hO') hN')
          · rw [zs_out rfl, zs_in]
            by_cases w2 : k = n
            · subst w2
              rw [pk_us, ← hx, hlast]
            · rw [pk_un (by omega)]; exact hB k (by omega)
          · rw [zs_in, pk_us]
            rcases hd with p | ⟨p, p2⟩ | ⟨p, p2⟩
            · rw [if_pos p, p, Int.zero_add]
            · rw [if_neg (by omega), zsg_neg p, zsg_neg (by omega)]
            · rw [if_neg (by omega), zsg_pos p, zsg_pos (by omega)]
      · rw [ca, cb, h2, g2]
        refine And.intro (fun w => And.intro (vp_in_nI hb (by decide)) ⟨nb, rfl, (nI_leI (by omega) (by omega)).mp w, Nat.le_refl _, g1⟩) (fun w => And.intro (vp_in_nI ha (by decide)) ⟨na, rfl, Nat.le_refl _, ?_, h1⟩)
        have : ¬ na ≤ nb := fun z => w ((nI_leI (by omega) (by omega)).mpr z)
        omega
    · rw [ca, h3]
      refine And.intro (fun w => And.intro (vp_in_nI ha (by decide)) ?_) (fun w => ?_)
      · have : X ≠ 0 := fun z => w (by rw [zsg_zero z])
        show zsg X = zsg (if X = 0 then Y' else X)
        rw [if_neg this]
      · have : X = 0 := by
          rcases Int.lt_trichotomy X 0 with p | p | p
          · rw [zsg_neg p] at w; exact absurd w (by decide)
          · exact p
          · rw [zsg_pos p] at w; exact absurd w (by decide)
        show sb = zsg (if X = 0 then Y' else X)
        rw [if_pos this, hs]
  · have hY'0 : Y' = 0 := by
      rcases Int.lt_trichotomy Y' 0 with p | p | p
      · rw [hs, zsg_neg p] at q0; exact absurd q0 (by decide)
      · exact p
      · rw [hs, zsg_pos p] at q0; exact absurd q0 (by decide)
    rw [hY'0, Int.add_zero] at k
    refine And.intro (fun w => ?_) (fun w => zr_rcopy hc ha hX' (fun M' hO hN => k M' hO hN))
    have : c = a := (nI_eq (by omega) (by omega)).mp w
    subst this
    exact k M (zO_refl c M) hX'
theorem zr_plus {M : zMem} {c a b e : Nat} {X Y : Int} {post : zMem → Prop} (hc : c < 60) (ha : a < 60) (hb : b < 60) (hX : zN M a X) (hY : zN M b Y) (he : e ≤ 199) (bX : X.natAbs < 2 ^ (15 * e)) (bY : Y.natAbs < 2 ^ (15 * e)) (k : ∀ M' : zMem, zO c M M' → zN M' c (X + Y) → post M') : zw_X6_plus M (nI c) (nI a) (nI b) post := by
  refine And.intro (vp_in_nI hb (by decide)) ?_
  rw [nI_clamp (by omega)]
  obtain ⟨n, _, _, g3, _⟩ := hY
  exact zr_add hc ha hb hX ⟨n, by assumption, by assumption, g3, by assumption⟩ he bX bY rfl g3 k
theorem zsg_negI (X : Int) : -(zsg X) = zsg (-X) := by
  rcases Int.lt_trichotomy X 0 with h | h | h
  · rw [zsg_neg h, zsg_pos (by omega)]; decide
  · rw [zsg_zero h, zsg_zero (by omega)]; decide
  · rw [zsg_pos h, zsg_neg (by omega)]
theorem zr_minus {M : zMem} {c a b e : Nat} {X Y : Int} {post : zMem → Prop} (hc : c < 60) (ha : a < 60) (hb : b < 60) (hX : zN M a X) (hY : zN M b Y) (he : e ≤ 199) (bX : X.natAbs < 2 ^ (15 * e)) (bY : Y.natAbs < 2 ^ (15 * e)) (k : ∀ M' : zMem, zO c M M' → zN M' c (X - Y) → post M') : zw_X6_minus M (nI c) (nI a) (nI b) post := by
  refine And.intro (vp_in_nI hb (by decide)) ?_
  rw [nI_clamp (by omega)]
  obtain ⟨n, _, _, g3, _⟩ := hY
  exact zr_add (Y' := -Y) hc ha hb hX ⟨n, by assumption, by assumption, g3, by assumption⟩ he bX bY (Int.natAbs_neg Y) (by rw [g3, zsg_negI]) (by rw [← Int.sub_eq_add_neg]; exact k)
