/-! choose: the class -/
theorem zcpy3 {f g : zRow} {x : Nat} (hx : x < 3) : va_cpy f g 0 0 3 x = f x := by
  unfold va_cpy
  rw [if_pos (by omega)]
  congr 1; omega
theorem zk_ways {O : zMem} {L n : Nat} {post : Int32 → Prop} (h14 : O 14 0 = nI L) (hL : L ≤ 6) (hn : n ≤ 3) (k : post (nI (L ^ n))) : zw_X5_waysToChoose O (nI n) post := by
  have lp : ∀ (d i : Nat), i + d = n → zw_X5_waysToChoose_4 O (nI n) (fun x => post x) (d + 1) (nI (L ^ i)) (nI i) := by
    intro d
    induction d with
    | zero =>
      intro i hi
      have e : i = n := by omega
      subst e
      exact And.intro (fun _ => k) (fun q => absurd (nI_le (Nat.le_refl _) (by omega)) q)
    | succ d ih =>
      intro i hi
      refine And.intro (fun q => absurd q (nI_ge (by omega) (by omega))) (fun _ => ?_)
      intro x ex y ey
      rw [h14, pk_mul, ← Nat.pow_succ] at ex
      rw [ex, ey, nI_1]
      exact ih (i + 1) (by omega)
  exact ⟨n + 1, lp n 0 (by omega)⟩
/-- one number has been laid and told -/
theorem zk_try {O P2 T F2 : zMem} {s : zStk} {b : zAr} {n m : Nat} {post : zMem → zMem → zMem → Prop} (hs : zWs s) (hLi : zLiW b) (hO : zOb O b) (hb : zLsW b) (hn : n ≤ 3) (hL : 1 ≤ n → 1 ≤ b.2.1.1) (hE : zEdP P2 s) (hd : ∀ j : Nat, j < n → O 5 j = nI (zdg b.2.1.1 n m j)) (k : ∀ P' T' F' : zMem, zEdP P' s → zFh F' (zcs s b n m) b.1.1.toInt b.1.2 → post P' T' F') : zw_X5_layNumbers_tr O P2 (nI n) (fun (T_8 : zMem) => zw_X4_tellBack T F2 T_8 (O 12 0) (O 13 0) (fun (T_9 : zMem) (T_10 : zMem) => post T_8 T_9 T_10)) := by
  refine zk_lay_tr hO hb hn hL hE hd (fun P' hP' => ?_)
  obtain ⟨l1, l2, l3⟩ := hLi
  rw [hO.1.1, hO.1.2]
  refine zk_tbu (u := b.1.1.toInt) hP' (zcs_W hs hb hn hL) l3 (by omega) l1 rfl (fun T' F' hF' => k P' T' F' ⟨hP'.2.2.1, hP'.2.2.2.1, hP'.2.2.2.2.1, hP'.2.2.2.2.2⟩ hF')
theorem zk_find34 {P : zMem} {s : zStk} {b : zAr} {n : Nat} {K : zMem → zMem → zMem → zMem → zMem → Prop} (hs : zWs s) (hLi : zLiW b) (hb : zLsW b) (hn : n ≤ 3) (hL : 1 ≤ n → 1 ≤ b.2.1.1) (hK : ∀ O P2 T F1 F2 : zMem, zOb O b → (∀ j : Nat, j < n → O 6 j = nI (zdg b.2.1.1 n (zbc s b n (b.2.1.1 ^ n - 1)) j)) → K O P2 T F1 F2) : ∀ (d i : Nat) (O P2 T F1 F2 : zMem), i + 1 + d = b.2.1.1 ^ n → zOb O b → (∀ j : Nat, j < n → O 5 j = nI (zdg b.2.1.1 n (i + 1) j)) → (∀ j : Nat, j < n → O 6 j = nI (zdg b.2.1.1 n (zbc s b n i) j)) → zEdP P2 s → zFh F1 (zcs s b n (zbc s b n i)) b.1.1.toInt b.1.2 → zw_X5_findBestNumbers_34 P (nI n) (nI (b.2.1.1 ^ n)) K (d + 1) (nI (i + 1)) O P2 T F1 F2 := by
  have h6 : b.2.1.1 ≤ 6 := hb.1
  have hw := zn_w h6 hn
  obtain ⟨l1, l2, l3⟩ := hLi
  have l2' : b.1.2 ≤ 49 := by omega
  intro d
  induction d with
  | zero =>
    intro i O P2 T F1 F2 hi hO h5 h6' hE hF
    refine And.intro (fun _ => hK O P2 T F1 F2 hO ?_) (fun q => absurd (nI_le (by omega) (by omega)) q)
    rw [show b.2.1.1 ^ n - 1 = i from by omega]
    exact h6'
  | succ d ih =>
    intro i O P2 T F1 F2 hi hO h5 h6' hE hF
    refine And.intro (fun q => absurd q (nI_ge (by omega) (by omega))) (fun _ => ?_)
    refine zk_try hs ⟨l1, l2, l3⟩ hO hb hn hL hE h5 (fun P' T' F' hE' hF' => ?_)
    have wn := zcs_W (m := i + 1) hs hb hn hL
    have wb := zcs_W (m := zbc s b n i) hs hb hn hL
    refine And.intro (fun q => absurd q (nI_ne0 (by omega) (by omega))) (fun _ => ?_)
    refine zk_cmp hF' hF wn wb l3 l2' l1 l3 l2' l1 (fun F3 hF3 => ?_)
    obtain ⟨z1, z2, z3, z4⟩ := zsg_c (zcm (zcs s b n (i + 1)) b.1.1.toInt b.1.2 (zcs s b n (zbc s b n i)) b.1.1.toInt b.1.2)
    refine And.intro (fun c => ?_) (fun c => ?_)
    · have e := zbc_st (s := s) (b := b) (n := n) (i := i) (fun q => by have := z2.mp c; omega)
      refine zk_adv (L := b.2.1.1) (m := i + 1) hO.2.1 h6 hL hn h5 (fun O' k5 d5 y ey => ?_)
      rw [ey, nI_1]
      refine ih (i + 1) O' P' T' F1 F3 (by omega) (zOb_k (fun i h _ => k5 i h) hO) d5 (fun j hj => ?_) hE' (by rw [e]; exact hF)
      rw [e, k5 6 (by decide)]; exact h6' j hj
    · have c' := mt z2.mpr c
      have e := zbc_go (s := s) (b := b) (n := n) (i := i) (by omega)
      refine zFh_like hF3 (fun F1' hF1' r er => ?_)
      have hO2 : zOb (zset O 6 r) b := zOb_k (fun i _ h => zs_out (zn_beq h)) hO
      refine zk_adv (L := b.2.1.1) (m := i + 1) hO2.2.1 h6 hL hn h5 (fun O' k5 d5 y ey => ?_)
      rw [ey, nI_1]
      refine ih (i + 1) O' P' T' F1' F3 (by omega) (zOb_k (fun i h _ => k5 i h) hO2) d5 (fun j hj => ?_) hE' (by rw [e]; exact hF1')
      rw [e, k5 6 (by decide)]
      show r j = _
      rw [er, zcpy3 (by omega)]; exact h5 j hj
theorem zk_find {O P P2 T F1 F2 : zMem} {s : zStk} {b : zAr} {n : Nat} {post : zMem → zMem → zMem → zMem → zMem → Prop} (hP : zCp P s) (hs : zWs s) (hLi : zLiW b) (hO : zOb O b) (hb : zLsW b) (hn : n ≤ 3) (hL : 1 ≤ n → 1 ≤ b.2.1.1) (hK : ∀ O P2 T F1 F2 : zMem, zOb O b → (∀ j : Nat, j < n → O 6 j = nI (zdg b.2.1.1 n (zbc s b n (b.2.1.1 ^ n - 1)) j)) → post O P2 T F1 F2) : zw_X5_findBestNumbers O P P2 T F1 F2 (nI n) (nI (b.2.1.1 ^ n)) post := by
  have h6 : b.2.1.1 ≤ 6 := hb.1
  have hw := zn_w h6 hn
  have w1 : 1 ≤ b.2.1.1 ^ n := by
    rcases Nat.eq_zero_or_pos n with z | z
    · rw [z, Nat.pow_zero]; exact Nat.le_refl 1
    · exact Nat.pow_pos (hL z)
  refine zr_likeP hP hs.1.1 (fun Q hQ => ?_)
  have hE : zEdP Q s := ⟨hQ.2.2.1, hQ.2.2.2.1, hQ.2.2.2.2.1, hQ.2.2.2.2.2⟩
  have z0 : ∀ j : Nat, zdg b.2.1.1 n 0 j = 0 := fun j => by unfold zdg; rw [Nat.zero_div, Nat.zero_mod]
  have main : ∀ O1 : zMem, zOb O1 b → (∀ j : Nat, j < 3 → O1 5 j = 0) → ∃ kf, zw_X5_findBestNumbers_34 P (nI n) (nI (b.2.1.1 ^ n)) (fun (T_25 : zMem) (T_26 : zMem) (T_27 : zMem) (T_28 : zMem) (T_29 : zMem) => post T_25 T_26 T_27 T_28 T_29) kf (0 : Int32) O1 Q T F1 F2 := fun O1 hO1 h5 => by
    have h5' : ∀ j : Nat, j < n → O1 5 j = nI (zdg b.2.1.1 n 0 j) := fun j hj => by rw [z0]; exact h5 j (by omega)
    refine ⟨b.2.1.1 ^ n - 1 + 1 + 1, ?_⟩
    refine And.intro (fun q => absurd (zn_le.mp q) (by rw [zn_0, nI_toInt (by omega)]; omega)) (fun _ => ?_)
    refine zk_try hs hLi hO1 hb hn hL hE h5' (fun P' T' F' hE' hF' => ?_)
    refine And.intro (fun _ => ?_) (fun q => absurd rfl q)
    refine zFh_like hF' (fun F1' hF1' r er => ?_)
    have hO2 : zOb (zset O1 6 r) b := zOb_k (fun i _ h => zs_out (zn_beq h)) hO1
    refine zk_adv (L := b.2.1.1) (m := 0) hO2.2.1 h6 hL hn h5' (fun O' k5 d5 y ey => ?_)
    rw [ey]
    refine zk_find34 hs hLi hb hn hL hK (b.2.1.1 ^ n - 1) 0 O' P' T' F1' F' (by omega) (zOb_k (fun i h _ => k5 i h) hO2) d5 (fun j hj => ?_) hE' hF1'
    rw [k5 6 (by decide)]
    show r j = _
    rw [er, zcpy3 (by omega)]; exact h5' j hj
  have lp : ∀ (d j : Nat) (O1 : zMem), j + d = 3 → zOb O1 b → (∀ i : Nat, i < j → O1 5 i = 0) → zw_X5_findBestNumbers_11 P Q T F1 F2 (nI n) (nI (b.2.1.1 ^ n)) (fun (T_6 : zMem) => (∃ kf, zw_X5_findBestNumbers_34 P (nI n) (nI (b.2.1.1 ^ n)) (fun (T_25 : zMem) (T_26 : zMem) (T_27 : zMem) (T_28 : zMem) (T_29 : zMem) => post T_25 T_26 T_27 T_28 T_29) kf (0 : Int32) T_6 Q T F1 F2)) (d + 1) (nI j) O1 := by
    intro d
    induction d with
    | zero =>
      intro j O1 hj hO1 h5
      have e : j = 3 := by omega
      subst e
      exact And.intro (fun _ => main O1 hO1 h5) (fun q => absurd (show (3 : Int32) ≤ nI 3 by decide) q)
    | succ d ih =>
      intro j O1 hj hO1 h5
      refine And.intro (fun q => absurd q (nI_ge (b := 3) (by omega) (by omega))) (fun _ => And.intro (vp_in_nI (by omega) (by decide)) ?_)
      intro r er y ey
      rw [nI_clamp (by omega)] at er
      rw [ey, nI_1]
      refine ih (j + 1) _ (by omega) (zOb_k (fun i h _ => zs_out (zn_beq h)) hO1) (fun i hi => ?_)
      show r i = 0
      rw [er]
      by_cases e : i = j
      · subst e; rw [pk_us]
      · rw [pk_un e]; exact h5 i (by omega)
  exact ⟨4, lp 3 0 O (by decide) hO (fun i hi => absurd hi (by omega))⟩
theorem zk_choose {O P0 P1 P2 N T F1 F2 : zMem} {out : zRowL} {a : zAb} {st x : Int32} {post : Int32 → zMem → zMem → zMem → zMem → zMem → zMem → zMem → zRowL → Prop} (hW : zWA a) (hC : zCA O P0 P1 N a) (k : ∀ (O' P0' P1' P2' T' F1' F2' : zMem) (out' : zRowL), ((zoCh a st x).1 = 0 → out' 0 = Int32.toInt64 (zoCh a st x).2.1) → zCA O' P0' P1' N (zoCh a st x).2.2 → post (zoCh a st x).1 O' P0' P1' P2' T' F1' F2' out') : zw_L_choose O P0 P1 P2 T F1 F2 out st x post := by
  have fail : zSt st → ¬ zokN x → post 2 O P0 P1 P2 T F1 F2 out := fun h1 h2 => by
    rw [zoCh_2 h1 h2] at k; exact k O P0 P1 P2 T F1 F2 out (fun q => absurd (show (2 : Int32) = 0 from q) (by decide)) hC
  have hCR := hC.2.2
  have hO : zOb O a.2.2 := ⟨hCR.1, hCR.2.1⟩
  have h6 : a.2.2.2.1.1 ≤ 6 := hW.2.2.2.1.1
  refine zr_pileAt (O := O) (fun c => ?_) (fun c => ?_) (fun c1 c2 => ?_)
  · have hst : zSt st := Or.inl c
    have e0 : zNt st = 0 := by rw [c]; exact zNt_0
    refine And.intro (fun d => fail hst (fun q => by have := zi_lt zn_0 d; have := q.1; omega)) (fun d1 => And.intro (fun d2 => ?_) (fun d => fail hst (fun q => by have := zi_nle zc_3 d; have := q.2; omega)))
    have hok : zokN x := ⟨zi_nlt zn_0 d1, zi_le zc_3 d2⟩
    obtain ⟨ex, hn⟩ := zt_n (n := 3) hok.1 hok.2
    refine ⟨¬ (1 ≤ zNt x ∧ a.2.2.2.1.1 = 0), fun hne => ?_, And.intro (fun d => ?_) (fun d => And.intro (fun e => ?_) (fun e => ?_))⟩
    · rw [zoCh_0 hst hok hne, e0] at k
      have hL : 1 ≤ zNt x → 1 ≤ a.2.2.2.1.1 := fun q => by omega
      have A := zk_ways (O := O) (L := a.2.2.2.1.1) (n := zNt x) (post := (fun (v_5 : Int32) => zw_X5_findBestNumbers O P0 P2 T F1 F2 (nI (zNt x)) v_5 (fun (T_6 : zMem) (T_7 : zMem) (T_8 : zMem) (T_9 : zMem) (T_10 : zMem) => zw_X5_layNumbers_pi T_6 P0 (nI (zNt x)) (fun (T_11 : zMem) => ∀ r_9 : zRowL, r_9 = (vp_updL out (Int32.toNatClampNeg (0 : Int32)) (Int32.toInt64 v_5)) → (post (0 : Int32) T_6 T_11 P1 T_7 T_8 T_9 T_10 r_9))))) hO.2.1 h6 hn (zk_find hC.1 hW.1 hW.2.2.1 hO hW.2.2.2.1 hn hL (fun O5 P6 T6 F5 F6 hO5 hd5 => zk_lay_pi (s := zgt a 0) hO5 hW.2.2.2.1 hn hL ⟨hC.1.2.2.1, hC.1.2.2.2.1, hC.1.2.2.2.2.1, hC.1.2.2.2.2.2⟩ hd5 (fun P5 hP5 r er => k O5 P5 P1 P6 T6 F5 F6 r (fun _ => by rw [er, show (0 : Int32).toNatClampNeg = 0 from rfl, pk_uLs]) (zCA_up0 (O := O5) (N := N) ⟨hC.1, hC.2.1, hO5.1, hO5.2, hCR.2.2⟩ hP5))))
      rw [← ex] at A
      exact A
    · have d' := zi_le zn_0 d
      exact fun q => by have : zNt x = 0 := (by unfold zNt; omega); omega
    · exact fun q => e (by rw [hO.2.1, q.2]; rfl)
    · have e' : a.2.2.2.1.1 = 0 := by
        have := congrArg Int32.toInt e
        rw [hO.2.1, nI_toInt (by omega), zn_0] at this
        omega
      have d' := zi_nle zn_0 d
      have hx : 1 ≤ zNt x := by unfold zNt; omega
      rw [zoCh_n hst hok ⟨hx, e'⟩] at k
      intro r er
      refine k O P0 P1 P2 T F1 F2 r (fun _ => ?_) hC
      rw [er, show (0 : Int32).toNatClampNeg = 0 from rfl, pk_uLs]
  · have hst : zSt st := Or.inr c
    have e0 : zNt st = 1 := by rw [c]; exact zNt_1
    refine And.intro (fun d => fail hst (fun q => by have := zi_lt zn_0 d; have := q.1; omega)) (fun d1 => And.intro (fun d2 => ?_) (fun d => fail hst (fun q => by have := zi_nle zc_3 d; have := q.2; omega)))
    have hok : zokN x := ⟨zi_nlt zn_0 d1, zi_le zc_3 d2⟩
    obtain ⟨ex, hn⟩ := zt_n (n := 3) hok.1 hok.2
    refine ⟨¬ (1 ≤ zNt x ∧ a.2.2.2.1.1 = 0), fun hne => ?_, And.intro (fun d => ?_) (fun d => And.intro (fun e => ?_) (fun e => ?_))⟩
    · rw [zoCh_0 hst hok hne, e0] at k
      have hL : 1 ≤ zNt x → 1 ≤ a.2.2.2.1.1 := fun q => by omega
      have A := zk_ways (O := O) (L := a.2.2.2.1.1) (n := zNt x) (post := (fun (v_5 : Int32) => zw_X5_findBestNumbers O P1 P2 T F1 F2 (nI (zNt x)) v_5 (fun (T_6 : zMem) (T_7 : zMem) (T_8 : zMem) (T_9 : zMem) (T_10 : zMem) => zw_X5_layNumbers_pi T_6 P1 (nI (zNt x)) (fun (T_11 : zMem) => ∀ r_9 : zRowL, r_9 = (vp_updL out (Int32.toNatClampNeg (0 : Int32)) (Int32.toInt64 v_5)) → (post (0 : Int32) T_6 P0 T_11 T_7 T_8 T_9 T_10 r_9))))) hO.2.1 h6 hn (zk_find hC.2.1 hW.2.1 hW.2.2.1 hO hW.2.2.2.1 hn hL (fun O5 P6 T6 F5 F6 hO5 hd5 => zk_lay_pi (s := zgt a 1) hO5 hW.2.2.2.1 hn hL ⟨hC.2.1.2.2.1, hC.2.1.2.2.2.1, hC.2.1.2.2.2.2.1, hC.2.1.2.2.2.2.2⟩ hd5 (fun P5 hP5 r er => k O5 P0 P5 P6 T6 F5 F6 r (fun _ => by rw [er, show (0 : Int32).toNatClampNeg = 0 from rfl, pk_uLs]) (zCA_up1 (O := O5) (N := N) ⟨hC.1, hC.2.1, hO5.1, hO5.2, hCR.2.2⟩ hP5))))
      rw [← ex] at A
      exact A
    · have d' := zi_le zn_0 d
      exact fun q => by have : zNt x = 0 := (by unfold zNt; omega); omega
    · exact fun q => e (by rw [hO.2.1, q.2]; rfl)
    · have e' : a.2.2.2.1.1 = 0 := by
        have := congrArg Int32.toInt e
        rw [hO.2.1, nI_toInt (by omega), zn_0] at this
        omega
      have d' := zi_nle zn_0 d
      have hx : 1 ≤ zNt x := by unfold zNt; omega
      rw [zoCh_n hst hok ⟨hx, e'⟩] at k
      intro r er
      refine k O P0 P1 P2 T F1 F2 r (fun _ => ?_) hC
      rw [er, show (0 : Int32).toNatClampNeg = 0 from rfl, pk_uLs]
  · rw [zoCh_1 (zSt_no c1 c2)] at k; exact k O P0 P1 P2 T F1 F2 out (fun q => absurd (show (1 : Int32) = 0 from q) (by decide)) hC
