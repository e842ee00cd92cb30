/-! entry, sign, stops, less, share -/
theorem ztd_same {X Y U V : Nat} {be : Int32} {k : Nat} (hY : 0 < Y) (hV : 0 < V) (h : X * V = U * Y) : ztd X Y be k = ztd U V be k := by
  obtain ⟨h1, h2⟩ := zn_same hY hV h
  unfold ztd
  rw [h1, h2]
theorem zk_rk {O P N T : zMem} {b : zAr} {s : zStk} {post : zMem → Prop} (hCR : zCR O N b) (hL : zLiW b) (hP : zCp P s) (hs : zWs s) (k : ∀ T' : zMem, zTs T' b.1.1.toInt b.1.2 (zTS s b.1.1.toInt b.1.2) → post T') : zw_X4_reckon T P (O 12 0) (O 13 0) post := by
  obtain ⟨⟨c1, c2⟩, -⟩ := hCR
  obtain ⟨l1, l2, l3⟩ := hL
  rw [c1, c2]
  exact zr_reckon l3 (by omega) l1 rfl hP hs.1 k
theorem zEn_n {en : Int32} (h : zEn en) : en = nI (zNt en) ∧ zNt en < 4 := by
  obtain ⟨h1, h2⟩ := h
  unfold zNt
  exact ⟨zn_ofI (by omega), by omega⟩
theorem zPt_n {kk : Int32} (h : zPt kk) : kk = nI (zNt kk) ∧ zNt kk < 40 := by
  obtain ⟨h1, h2⟩ := h
  unfold zNt
  exact ⟨zn_ofI (by omega), by omega⟩
theorem zen_b {s : zStk} {u : Int} {v : Nat} (hs : zWs s) (hu : u.natAbs ≤ v) (hv : v ≤ 49) (hv1 : 1 ≤ v) (e : Nat) : (zen (zTS s u v) e).natAbs ≤ 2 ^ 210 ∧ (zTS s u v).2.2.2.2.natAbs ≤ 2 ^ 174 ∧ 0 < (zTS s u v).2.2.2.2 := by
  obtain ⟨b0, b1, b2, b3, b4, b5⟩ := zTB_6 hu hv hv1 hs.1
  refine ⟨?_, b4, b5⟩
  unfold zen
  split
  · exact b0
  · split
    · exact b1
    · split
      · exact b2
      · exact b3
theorem zef_b {v e : Nat} (hv : v ≤ 49) (hv1 : 1 ≤ v) : 1 ≤ zef v e ∧ zef v e ≤ 49 := by
  unfold zef; split <;> omega
noncomputable def zoEn (a : zAb) (st en be kk : Int32) : Int32 × Int32 := zif (zSt st) (zif (zEn en ∧ zPt kk) (0, ztd ((zen (zTS (zgt a (zNt st)) a.2.2.1.1.toInt a.2.2.1.2) (zNt en)).natAbs * zef a.2.2.1.2 (zNt en)) (zTS (zgt a (zNt st)) a.2.2.1.1.toInt a.2.2.1.2).2.2.2.2.natAbs be (zNt kk)) (2, 0)) (1, 0)
theorem zoEn_1 {a : zAb} {st en be kk : Int32} (h : ¬ zSt st) : zoEn a st en be kk = (1, 0) := zif_f h
theorem zoEn_2 {a : zAb} {st en be kk : Int32} (h : zSt st) (g : ¬ (zEn en ∧ zPt kk)) : zoEn a st en be kk = (2, 0) := (zif_t h).trans (zif_f g)
theorem zoEn_0 {a : zAb} {st en be kk : Int32} (h : zSt st) (g : zEn en ∧ zPt kk) : zoEn a st en be kk = (0, ztd ((zen (zTS (zgt a (zNt st)) a.2.2.1.1.toInt a.2.2.1.2) (zNt en)).natAbs * zef a.2.2.1.2 (zNt en)) (zTS (zgt a (zNt st)) a.2.2.1.1.toInt a.2.2.1.2).2.2.2.2.natAbs be (zNt kk)) := (zif_t h).trans (zif_t g)
theorem zk_entryP {O P N T F : zMem} {a : zAb} {s : zStk} {en be kk : Int32} {post : Int32 → zMem → zMem → Prop} (hW : zWA a) (hCR : zCR O N a.2.2) (hP : zCp P s) (hs : zWs s) (he : zEn en) (hk : zPt kk) (k : ∀ T' F' : zMem, post (ztd ((zen (zTS s a.2.2.1.1.toInt a.2.2.1.2) (zNt en)).natAbs * zef a.2.2.1.2 (zNt en)) (zTS s a.2.2.1.1.toInt a.2.2.1.2).2.2.2.2.natAbs be (zNt kk)) T' F') : zw_X4_reckon T P (O 12 0) (O 13 0) (fun (T_1 : zMem) => zw_X4_tellSize T_1 F en (fun (T_2 : zMem) => zw_X0_toLowestTerms T_2 (fun (T_3 : zMem) => zw_X0_part T_3 be kk (fun (v_4 : Int32) => post v_4 T_1 T_3)))) := by
  have hLi := hW.2.2.1
  obtain ⟨l1, l2, l3⟩ := hW.2.2.1
  have l2' : a.2.2.1.2 ≤ 49 := by have l2 : a.2.2.1.2 ≤ 25 := l2; omega
  obtain ⟨b1, b2, b3⟩ := zen_b hs l3 l2' l1 (zNt en)
  obtain ⟨f1, f2⟩ := zef_b (e := zNt en) l2' l1
  obtain ⟨ee, e4⟩ := zEn_n he
  have m1 := Nat.mul_le_mul b1 f2
  have p1 : (2 : Nat) ^ 210 * 49 < 2 ^ 450 := by decide
  have p2 : (2 : Nat) ^ 174 < 2 ^ 450 := by decide
  refine zk_rk hCR hLi hP hs (fun T1 h1 => ?_)
  have A := zr_tellSize (F := F) (e := zNt en) (post := (fun (T_2 : zMem) => zw_X0_toLowestTerms T_2 (fun (T_3 : zMem) => zw_X0_part T_3 be kk (fun (v_4 : Int32) => post v_4 T1 T_3)))) e4 l3 l2' l1 hs.1 h1 (fun r r' g0 g1 => ?_)
  · rwa [← ee] at A
  · refine zk_told (post := fun v T3 => post v T1 T3) (U := (zen (zTS s a.2.2.1.1.toInt a.2.2.1.2) (zNt en)).natAbs * zef a.2.2.1.2 (zNt en)) (V := (zTS s a.2.2.1.1.toInt a.2.2.1.2).2.2.2.2.natAbs) ?_ ?_ (by omega) (by omega) (by omega) hk (fun F' => k T1 F')
    · exact g0
    · exact zL_nat g1 (by omega)
theorem zk_entry {O P0 P1 N T F0 : zMem} {out : zRowL} {a : zAb} {st en be kk : Int32} {post : Int32 → zMem → zMem → zRowL → Prop} (hW : zWA a) (hC : zCA O P0 P1 N a) (k : ∀ (T' F' : zMem) (out' : zRowL), ((zoEn a st en be kk).1 = 0 → out' 0 = Int32.toInt64 (zoEn a st en be kk).2) → post (zoEn a st en be kk).1 T' F' out') : zw_L_entry O P0 P1 T F0 out st en be kk post := by
  have fail : zSt st → ¬ (zEn en ∧ zPt kk) → post 2 T F0 out := fun h1 h2 => by
    rw [zoEn_2 h1 h2] at k; exact k T F0 out (fun q => absurd q (by decide))
  have fin : zSt st → zEn en → zPt kk → ∀ (T' F' : zMem) (r : zRowL), r = vp_updL out (Int32.toNatClampNeg (0 : Int32)) (Int32.toInt64 (ztd ((zen (zTS (zgt a (zNt st)) a.2.2.1.1.toInt a.2.2.1.2) (zNt en)).natAbs * zef a.2.2.1.2 (zNt en)) (zTS (zgt a (zNt st)) a.2.2.1.1.toInt a.2.2.1.2).2.2.2.2.natAbs be (zNt kk))) → post 0 T' F' r := fun h1 h2 h3 T' F' r er => by
    rw [zoEn_0 h1 ⟨h2, h3⟩] at k
    refine k T' F' r (fun _ => ?_)
    rw [er, show (0 : Int32).toNatClampNeg = 0 from rfl, pk_uLs]
  refine zr_pileAt (O := O) (fun c => ?_) (fun c => ?_) (fun c1 c2 => ?_)
  · have e0 : zNt st = 0 := by rw [c]; exact zNt_0
    rw [e0] at fin
    exact zr_needEntry (fun he => zr_needPart (fun hk => zk_entryP hW hC.2.2 hC.1 hW.1 he hk (fun T' F' => fin (Or.inl c) he hk T' F')) (fun hk => fail (Or.inl c) (fun q => hk q.2))) (fun he => fail (Or.inl c) (fun q => he q.1))
  · have e0 : zNt st = 1 := by rw [c]; exact zNt_1
    rw [e0] at fin
    exact zr_needEntry (fun he => zr_needPart (fun hk => zk_entryP hW hC.2.2 hC.2.1 hW.2.1 he hk (fun T' F' => fin (Or.inr c) he hk T' F')) (fun hk => fail (Or.inr c) (fun q => hk q.2))) (fun he => fail (Or.inr c) (fun q => he q.1))
  · rw [zoEn_1 (zSt_no c1 c2)] at k; exact k T F0 out (fun q => absurd q (by decide))
theorem zW_dvd {u : Int} {v : Nat} {up lo wi : Nat → Nat} {n : Nat} (hO : zOk up lo wi n) (hn : n ≠ 0) : ∃ q : Int, (zTb u v up lo wi n).2.2.2.2 = v * q := by
  obtain ⟨i, rfl⟩ : ∃ i, n = i + 1 := ⟨n - 1, by omega⟩
  obtain ⟨-, -, -, -, h1, -⟩ := hO.2 i (by omega)
  obtain ⟨k, hk⟩ : ∃ k, wi i = k + 1 := ⟨wi i - 1, by omega⟩
  refine ⟨(zTb u v up lo wi i).2.2.2.2 * ((v : Int) ^ k * up i * lo i), ?_⟩
  show (zTb u v up lo wi i).2.2.2.2 * ((v : Int) ^ wi i * up i * lo i) = _
  rw [hk, Int.pow_succ]; grind
/-- the reference's table, of a stack at the light -/
theorem zf_tb {M0 M : zMem} {w : Nat → Int} {a : zAb} {st : Int32} {post : zMem → Prop} (hW : zWA a) (hR : zRA M0 a) (hG : zG M0 M w) (hst : zSt st) (k : ∀ (T : zMem) (w' : Nat → Int), zG M0 T w' → zt5 w' = zTS (zgt a (zNt st)) a.2.2.1.1.toInt a.2.2.1.2 → w' 5 = (if (zgt a (zNt st)).1 = 0 then 1 else (zTS (zgt a (zNt st)) a.2.2.1.1.toInt a.2.2.1.2).2.2.2.2 / a.2.2.1.2) → post T) : zw_X6_table M st (M 9 0) (M 10 0) post := by
  obtain ⟨m9, m10⟩ := zl_light hR hG
  rw [m9, m10]
  obtain ⟨e1, hs⟩ := zSt_n hst
  have hWs := zWA_s (s := zNt st) hW
  obtain ⟨l1, l2, l3⟩ := hW.2.2.1
  have l2' : a.2.2.1.2 ≤ 49 := by have l2 : a.2.2.1.2 ≤ 25 := l2; omega
  have := zg_table (post := post) (a2 := a.2.2.1.1) (a3 := nI a.2.2.1.2) hG hs l3 l2' l1 rfl (nI_toInt (by omega)) (zRA_s hs hR) hWs.1 (fun T w' G' t5 h5 _ => k T w' G' t5 h5)
  rwa [← e1] at this
theorem zt5_e {w : Nat → Int} {t : Int × Int × Int × Int × Int} (h : zt5 w = t) {e : Nat} (he : e < 4) : w e = zen t e ∧ w 4 = t.2.2.2.2 := by
  rw [← h]
  refine ⟨?_, rfl⟩
  rcases Nat.lt_or_ge e 1 with q | q
  · rw [show e = 0 from by omega]; rfl
  · rcases Nat.lt_or_ge e 2 with q | q
    · rw [show e = 1 from by omega]; rfl
    · rcases Nat.lt_or_ge e 3 with q | q
      · rw [show e = 2 from by omega]; rfl
      · rw [show e = 3 from by omega]; rfl
theorem zf_entry {M : zMem} {a : zAb} {st en be kk : Int32} {post : Int32 → zMem → Prop} (hW : zWA a) (h : zRA M a) (k : ∀ M' : zMem, M' 0 0 = (zoEn a st en be kk).1 → zRA M' a → post (zoEn a st en be kk).2 M') : zw_X6_entry M st en be kk post := by
  refine zr_isStack (fun hst => ?_) (fun c1 c2 => ?_)
  · have h1 : zRA (zset M 0 (fun _ => 0)) a := zRA_0 h
    have hst : zSt st := hst
    have bad : ¬ (zEn en ∧ zPt kk) → post 0 (zset (zset M 0 (fun _ => 0)) 0 (fun _ => 2)) := fun q => by
      rw [zoEn_2 hst q] at k
      exact k _ rfl (zRA_0 h1)
    refine And.intro (fun q => absurd q (by decide)) (fun _ => And.intro (fun d => ?_) (fun d1 => And.intro (fun d => ?_) (fun d2 => ?_)))
    · exact zr_right0 rfl (by decide) (And.intro (fun q => absurd rfl q) (fun _ => bad (fun q => by have := zi_lt zn_0 d; have := q.1.1; omega)))
    · exact zr_right0 rfl (by decide) (And.intro (fun q => absurd rfl q) (fun _ => bad (fun q => by have := zi_gt zc_3 d; have := q.1.2; omega)))
    · refine zr_isPart (fun hk => ⟨fun v => v = 1, ?_, And.intro (fun q => absurd q (by decide)) (fun _ => rfl)⟩) (fun hk => ⟨fun v => v = 0, ?_, And.intro (fun _ => rfl) (fun q => absurd rfl q)⟩)
      · rintro v rfl
        have he : zEn en := ⟨zi_nlt zn_0 d1, by have := zi_ngt zc_3 d2; omega⟩
        rw [zoEn_0 hst ⟨he, hk⟩] at k
        obtain ⟨ee, e4⟩ := zEn_n he
        obtain ⟨ek, hk40⟩ := zPt_n hk
        obtain ⟨w, hG⟩ := zRA_g h1
        have hs := zWA_s (s := zNt st) hW
        obtain ⟨l1, l2, l3⟩ := hW.2.2.1
        have l2' : a.2.2.1.2 ≤ 49 := by have l2 : a.2.2.1.2 ≤ 25 := l2; omega
        obtain ⟨b1, b2, b3⟩ := zen_b hs l3 l2' l1 (zNt en)
        have p1 : (2 : Nat) ^ 210 < 2 ^ 450 := by decide
        have p2 : (2 : Nat) ^ 174 < 2 ^ 450 := by decide
        refine zr_right1 rfl (by decide) (And.intro (fun _ => ?_) (fun q => absurd q (by decide)))
        refine zf_tb hW h1 hG hst (fun T w' G' t5 h5 => ?_)
        obtain ⟨we, w4⟩ := zt5_e t5 e4
        have fin : ∀ (r Y : Nat), r < 60 → r ≠ 18 → w' r = Y → 0 < Y → Y < 2 ^ 450 → (zen (zTS (zgt a (zNt st)) a.2.2.1.1.toInt a.2.2.1.2) (zNt en)).natAbs * (zTS (zgt a (zNt st)) a.2.2.1.1.toInt a.2.2.1.2).2.2.2.2.natAbs = (zen (zTS (zgt a (zNt st)) a.2.2.1.1.toInt a.2.2.1.2) (zNt en)).natAbs * zef a.2.2.1.2 (zNt en) * Y → zw_X6_toldPart T en (nI r) be kk (fun v T9 => post v T9) := by
          intro r Y hr hr18 hY hY0 hYb heq
          have A := zg_toldPart (f := be) (post := fun v T9 => post v T9) (zNt en) r (kk := zNt kk) (X := zen (zTS (zgt a (zNt st)) a.2.2.1.1.toInt a.2.2.1.2) (zNt en)) (Y := Y) G' (by omega) hr hr18 hk40 we hY hY0 (zn_2800 (by omega)) (zn_2800 hYb) (fun M' w'' G'' => ?_)
          · rwa [← ee, ← ek] at A
          · have e := ztd_same (be := be) (k := zNt kk) hY0 (show 0 < (zTS (zgt a (zNt st)) a.2.2.1.1.toInt a.2.2.1.2).2.2.2.2.natAbs by omega) heq
            have := k M' (by rw [G''.1 0 (by decide) (by decide) (by decide)]; rfl) (zRA_G h1 G'')
            rw [← e] at this
            exact this
        have plain : zef a.2.2.1.2 (zNt en) = 1 → zw_X6_toldPart T en (nI 4) be kk (fun v T9 => post v T9) := fun hz => by
          refine fin 4 (zTS (zgt a (zNt st)) a.2.2.1.1.toInt a.2.2.1.2).2.2.2.2.natAbs (by decide) (by decide) (by rw [w4]; omega) (by omega) (by omega) ?_
          rw [hz, Nat.mul_one]
        refine And.intro (fun q => ?_) (fun q => And.intro (fun q3 => ?_) (fun q3 => ?_))
        · refine plain ?_
          rw [q]; rfl
        · have hz : zNt en = 1 ∨ zNt en = 2 := by
            have n0 : zNt en ≠ 0 := fun z => q (by rw [ee, z]; rfl)
            have n3 : zNt en ≠ 3 := fun z => q3 (by rw [ee, z]; rfl)
            omega
          have hef : zef a.2.2.1.2 (zNt en) = a.2.2.1.2 := by unfold zef; rw [if_pos hz]
          by_cases hn : (zgt a (zNt st)).1 = 0
          · rw [if_pos hn] at h5
            refine fin 5 1 (by decide) (by decide) h5 (by decide) (Nat.lt_of_lt_of_le (by decide) (Nat.pow_le_pow_right (by decide) (show 1 ≤ 450 by decide))) ?_
            have hz0 : zen (zTS (zgt a (zNt st)) a.2.2.1.1.toInt a.2.2.1.2) (zNt en) = 0 := by
              unfold zTS
              rw [hn]
              rcases hz with z | z
              · rw [z]; rfl
              · rw [z]; rfl
            rw [hz0]; simp
          · rw [if_neg hn] at h5
            obtain ⟨Q, hQ⟩ := zW_dvd (u := a.2.2.1.1.toInt) (v := a.2.2.1.2) hs.1 hn
            have hQ : (zTS (zgt a (zNt st)) a.2.2.1.1.toInt a.2.2.1.2).2.2.2.2 = (a.2.2.1.2 : Int) * Q := hQ
            have hv0 : (0 : Int) < a.2.2.1.2 := by have l1 : 1 ≤ a.2.2.1.2 := l1; omega
            rw [hQ, Int.mul_ediv_cancel_left _ (by omega)] at h5
            have hQ0 : 0 < Q := by
              rw [hQ, Int.mul_comm] at b3
              exact Int.pos_of_mul_pos_left b3 hv0
            have hWn : (zTS (zgt a (zNt st)) a.2.2.1.1.toInt a.2.2.1.2).2.2.2.2.natAbs = a.2.2.1.2 * Q.natAbs := by rw [hQ, Int.natAbs_mul, Int.natAbs_natCast]
            have hQl : Q.natAbs ≤ a.2.2.1.2 * Q.natAbs := Nat.le_mul_of_pos_left _ (by have l1 : 1 ≤ a.2.2.1.2 := l1; omega)
            refine fin 5 Q.natAbs (by decide) (by decide) (by rw [h5]; omega) (by omega) (by omega) ?_
            rw [hWn, hef, Nat.mul_assoc]
        · refine plain ?_
          rw [q3]; rfl
      · rintro v rfl
        exact zr_right0 rfl (by decide) (And.intro (fun q => absurd rfl q) (fun _ => bad (fun q => hk q.2)))
  · rw [zoEn_1 (zSt_no c1 c2)] at k
    exact And.intro (fun _ => k _ rfl (zRA_0 (zRA_0 h))) (fun q => absurd rfl q)
/-! sign -/
noncomputable def zoSg (a : zAb) (st en : Int32) : Int32 × Int32 := zif (zSt st) (zif (zEn en) (0, zsg (zen (zTS (zgt a (zNt st)) a.2.2.1.1.toInt a.2.2.1.2) (zNt en))) (2, 0)) (1, 0)
theorem zoSg_1 {a : zAb} {st en : Int32} (h : ¬ zSt st) : zoSg a st en = (1, 0) := zif_f h
theorem zoSg_2 {a : zAb} {st en : Int32} (h : zSt st) (g : ¬ zEn en) : zoSg a st en = (2, 0) := (zif_t h).trans (zif_f g)
theorem zoSg_0 {a : zAb} {st en : Int32} (h : zSt st) (g : zEn en) : zoSg a st en = (0, zsg (zen (zTS (zgt a (zNt st)) a.2.2.1.1.toInt a.2.2.1.2) (zNt en))) := (zif_t h).trans (zif_t g)
theorem zk_signP {O P N T : zMem} {a : zAb} {s : zStk} {en : Int32} {post : Int32 → zMem → Prop} (hW : zWA a) (hCR : zCR O N a.2.2) (hP : zCp P s) (hs : zWs s) (he : zEn en) (k : ∀ T' : zMem, post (zsg (zen (zTS s a.2.2.1.1.toInt a.2.2.1.2) (zNt en))) T') : zw_X4_reckon T P (O 12 0) (O 13 0) (fun (T_1 : zMem) => zw_X4_rowOf T_1 en (zw_X1_signOf 8 (T_1 0) (fun (v_2 : Int32) => post v_2 T_1)) (zw_X1_signOf 8 (T_1 1) (fun (v_3 : Int32) => post v_3 T_1)) (zw_X1_signOf 8 (T_1 2) (fun (v_4 : Int32) => post v_4 T_1)) (zw_X1_signOf 8 (T_1 3) (fun (v_5 : Int32) => post v_5 T_1))) := by
  have hLi := hW.2.2.1
  obtain ⟨l1, l2, l3⟩ := hW.2.2.1
  have l2' : a.2.2.1.2 ≤ 49 := by have l2 : a.2.2.1.2 ≤ 25 := l2; omega
  obtain ⟨ee, e4⟩ := zEn_n he
  refine zk_rk hCR hLi hP hs (fun T1 h1 => ?_)
  obtain ⟨-, -, -, g0, g1, g2, g3, -⟩ := h1
  have kk := k T1
  have R : ∀ {r : zRow} {X : Int}, zL 8 r X → X.natAbs ≤ 2 ^ 210 → post (zsg X) T1 → zw_X1_signOf 8 r (fun v => post v T1) := fun hr hX hp => zr_signOf (by decide) hr (zn_239 (e := 210) hX (by decide)) hp
  have B := fun e => (zen_b hs l3 l2' l1 e).1
  rcases Nat.lt_or_ge (zNt en) 1 with q | q
  · have e0 : zNt en = 0 := by omega
    rw [e0] at kk ee
    rw [ee]
    exact And.intro (fun c => absurd rfl c) (fun _ => R g0 (B 0) kk)
  · rcases Nat.lt_or_ge (zNt en) 2 with q | q
    · have e0 : zNt en = 1 := by omega
      rw [e0] at kk ee
      rw [ee]
      exact And.intro (fun _ => And.intro (fun c => absurd rfl c) (fun _ => R g1 (B 1) kk)) (fun c => absurd c (by decide))
    · rcases Nat.lt_or_ge (zNt en) 3 with q | q
      · have e0 : zNt en = 2 := by omega
        rw [e0] at kk ee
        rw [ee]
        exact And.intro (fun _ => And.intro (fun _ => And.intro (fun c => absurd rfl c) (fun _ => R g2 (B 2) kk)) (fun c => absurd c (by decide))) (fun c => absurd c (by decide))
      · have e0 : zNt en = 3 := by omega
        rw [e0] at kk ee
        rw [ee]
        exact And.intro (fun _ => And.intro (fun _ => And.intro (fun _ => R g3 (B 3) kk) (fun c => absurd c (by decide))) (fun c => absurd c (by decide))) (fun c => absurd c (by decide))
theorem zk_sign {O P0 P1 N T : zMem} {out : zRowL} {a : zAb} {st en : Int32} {post : Int32 → zMem → zRowL → Prop} (hW : zWA a) (hC : zCA O P0 P1 N a) (k : ∀ (T' : zMem) (out' : zRowL), ((zoSg a st en).1 = 0 → out' 0 = Int32.toInt64 (zoSg a st en).2) → post (zoSg a st en).1 T' out') : zw_L_sign O P0 P1 T out st en post := by
  have fail : zSt st → ¬ zEn en → post 2 T out := fun h1 h2 => by
    rw [zoSg_2 h1 h2] at k; exact k T out (fun q => absurd q (by decide))
  have fin : zSt st → zEn en → ∀ (T' : zMem) (r : zRowL), r = vp_updL out (Int32.toNatClampNeg (0 : Int32)) (Int32.toInt64 (zsg (zen (zTS (zgt a (zNt st)) a.2.2.1.1.toInt a.2.2.1.2) (zNt en)))) → post 0 T' r := fun h1 h2 T' r er => by
    rw [zoSg_0 h1 h2] at k
    refine k T' r (fun _ => ?_)
    rw [er, show (0 : Int32).toNatClampNeg = 0 from rfl, pk_uLs]
  refine zr_pileAt (O := O) (fun c => ?_) (fun c => ?_) (fun c1 c2 => ?_)
  · have e0 : zNt st = 0 := by rw [c]; exact zNt_0
    rw [e0] at fin
    exact zr_needEntry (fun he => zk_signP hW hC.2.2 hC.1 hW.1 he (fun T' => fin (Or.inl c) he T')) (fun he => fail (Or.inl c) he)
  · have e0 : zNt st = 1 := by rw [c]; exact zNt_1
    rw [e0] at fin
    exact zr_needEntry (fun he => zk_signP hW hC.2.2 hC.2.1 hW.2.1 he (fun T' => fin (Or.inr c) he T')) (fun he => fail (Or.inr c) he)
  · rw [zoSg_1 (zSt_no c1 c2)] at k; exact k T out (fun q => absurd q (by decide))
theorem zf_sign {M : zMem} {a : zAb} {st en : Int32} {post : Int32 → zMem → Prop} (hW : zWA a) (h : zRA M a) (k : ∀ M' : zMem, M' 0 0 = (zoSg a st en).1 → zRA M' a → post (zoSg a st en).2 M') : zw_X6_sign M st en post := by
  refine zr_isStack (fun hst => ?_) (fun c1 c2 => ?_)
  · have h1 : zRA (zset M 0 (fun _ => 0)) a := zRA_0 h
    have hst : zSt st := hst
    have bad : ¬ zEn en → post 0 (zset (zset M 0 (fun _ => 0)) 0 (fun _ => 2)) := fun q => by
      rw [zoSg_2 hst q] at k
      exact k _ rfl (zRA_0 h1)
    refine And.intro (fun q => absurd q (by decide)) (fun _ => And.intro (fun d => ?_) (fun d1 => ?_))
    · exact zr_right0 rfl (by decide) (And.intro (fun q => absurd rfl q) (fun _ => bad (fun q => by have := zi_lt zn_0 d; have := q.1; omega)))
    · by_cases hlt : (3 : Int32) < en
      · refine ⟨fun v => v = 0, ?_, And.intro (fun _ => rfl) (fun q => absurd hlt q)⟩
        rintro v rfl
        exact zr_right0 rfl (by decide) (And.intro (fun q => absurd rfl q) (fun _ => bad (fun q => by have := zi_gt zc_3 hlt; have := q.2; omega)))
      · refine ⟨fun v => v = 1, ?_, And.intro (fun q => absurd q hlt) (fun _ => rfl)⟩
        rintro v rfl
        have he : zEn en := ⟨zi_nlt zn_0 d1, by have := zi_ngt zc_3 hlt; omega⟩
        rw [zoSg_0 hst he] at k
        obtain ⟨ee, e4⟩ := zEn_n he
        obtain ⟨w, hG⟩ := zRA_g h1
        refine zr_right1 rfl (by decide) (And.intro (fun _ => ?_) (fun q => absurd q (by decide)))
        refine zf_tb hW h1 hG hst (fun T w' G' t5 _ => ?_)
        obtain ⟨we, -⟩ := zt5_e t5 e4
        refine And.intro (by rw [ee]; exact vp_in_nI (by omega) (by decide)) ?_
        have ce : en.toNatClampNeg = zNt en := by rw [ee, nI_clamp (by omega), zNt_n (by omega)]
        rw [ce, zN_sg (G'.2 (zNt en) (by omega)), we]
        exact k T (by rw [G'.1 0 (by decide) (by decide) (by decide)]; rfl) (zRA_G h1 G')
  · rw [zoSg_1 (zSt_no c1 c2)] at k
    exact And.intro (fun _ => k _ rfl (zRA_0 (zRA_0 h))) (fun q => absurd rfl q)
