/-! same -/
theorem zn_inj9 {a b : Nat} (ha : a ≤ 9) (hb : b ≤ 9) (h : nI a = nI b) : a = b := by
  have := congrArg Int32.toInt h
  rw [nI_toInt (by omega), nI_toInt (by omega)] at this
  omega
def zEqs (s t : zStk) : Prop := s.2.2.2.2.1 = t.2.2.2.2.1 ∧ s.2.2.2.2.2.1 = t.2.2.2.2.2.1 ∧ s.2.2.2.2.2.2.1 = t.2.2.2.2.2.2.1 ∧ s.2.2.2.2.2.2.2 = t.2.2.2.2.2.2.2
def zAll (s t : zStk) : Prop := ∀ j : Nat, j ≤ 49 → zcm s j 49 t j 49 = 0
noncomputable def zoSm (a : zAb) : Int32 := zif (zEqs a.1 a.2.1 ∧ zAll a.1 a.2.1) 1 0
theorem zoSm_1 {a : zAb} (h : zEqs a.1 a.2.1) (g : zAll a.1 a.2.1) : zoSm a = 1 := zif_t ⟨h, g⟩
theorem zoSm_e {a : zAb} (h : ¬ zEqs a.1 a.2.1) : zoSm a = 0 := zif_f (fun q => h q.1)
theorem zoSm_a {a : zAb} (h : ¬ zAll a.1 a.2.1) : zoSm a = 0 := zif_f (fun q => h q.2)
theorem zr_hasEdges {P O : zMem} {s t : zStk} {post : Int32 → Prop} (hP : zCp P s) (hO : zCp O t) (hs : zWs s) (ht : zWs t) (k : zEqs s t → post 1) (x : ¬ zEqs s t → post 0) : zw_X3_hasEdgesOf P O post := by
  obtain ⟨-, -, p1, p2, p3, p4⟩ := hP
  obtain ⟨-, -, o1, o2, o3, o4⟩ := hO
  obtain ⟨-, ⟨-, s1⟩, ⟨-, s2⟩, ⟨-, s3⟩, ⟨-, s4⟩⟩ := hs
  obtain ⟨-, ⟨-, t1⟩, ⟨-, t2⟩, ⟨-, t3⟩, ⟨-, t4⟩⟩ := ht
  have v0 : vp_in (0 : Int32) 2 := vp_in_nI (n := 0) (by decide) (by decide)
  have v1 : vp_in (1 : Int32) 2 := vp_in_nI (n := 1) (by decide) (by decide)
  unfold zw_X3_hasEdgesOf
  rw [show (0 : Int32).toNatClampNeg = 0 from rfl, show (1 : Int32).toNatClampNeg = 1 from rfl, p1, p2, p3, p4, o1, o2, o3, o4]
  refine And.intro v0 (And.intro v0 (And.intro (fun c => And.intro rfl (x (fun q => c (by rw [q.1])))) (fun c1 => And.intro v0 (And.intro v0 (And.intro (fun c => And.intro rfl (x (fun q => c (by rw [q.2.1])))) (fun c2 => And.intro v1 (And.intro v1 (And.intro (fun c => And.intro rfl (x (fun q => c (by rw [q.2.2.1])))) (fun c3 => And.intro v1 (And.intro v1 (And.intro (fun c => And.intro rfl (x (fun q => c (by rw [q.2.2.2])))) (fun c4 => And.intro rfl (k ⟨zn_inj9 s1 t1 c1, zn_inj9 s2 t2 c2, zn_inj9 s3 t3 c3, zn_inj9 s4 t4 c4⟩)))))))))))))
theorem zk_same18 {O P0 P1 : zMem} {s t : zStk} {K74 K82 : zMem → zMem → zMem → Prop} (hP : zCp P0 s) (hO : zCp P1 t) (hs : zWs s) (ht : zWs t) (h0 : ¬ zAll s t → ∀ T F1 F2 : zMem, K74 T F1 F2) (h1 : zAll s t → ∀ T F1 F2 : zMem, K82 T F1 F2) : ∀ (d j : Nat) (T F1 F2 : zMem), j + d = 50 → (∀ i : Nat, i < j → zcm s i 49 t i 49 = 0) → zw_X5_same_18 O P0 P1 K74 K82 (d + 1) (nI j) T F1 F2 := by
  intro d
  induction d with
  | zero =>
    intro j T F1 F2 hj ha
    have e : j = 50 := by omega
    subst e
    exact And.intro (fun _ => h1 (fun i hi => ha i (by omega)) T F1 F2) (fun c => absurd (show (49 : Int32) < nI 50 by decide) c)
  | succ d ih =>
    intro j T F1 F2 hj ha
    have hp : (nI j).toInt = (j : Int) := nI_toInt (by omega)
    have c49 : (49 : Int32).toInt = 49 := by decide
    refine And.intro (fun c => absurd (zn_lt.mp c) (by rw [hp, c49]; omega)) (fun _ => ?_)
    refine zk_tbu (u := (j : Int)) (v := 49) hP hs (by omega) (by decide) (by decide) hp (fun T1 F3 g1 => ?_)
    refine zk_tbu (u := (j : Int)) (v := 49) hO ht (by omega) (by decide) (by decide) hp (fun T2 F4 g2 => ?_)
    refine zk_cmp g1 g2 hs ht (by omega) (by decide) (by decide) (by omega) (by decide) (by decide) (fun F5 g5 => ?_)
    refine And.intro (fun c x ex => ?_) (fun c => h0 (fun q => c (zsg_0.mpr (q j (by omega)))) _ _ _)
    rw [ex, nI_1]
    refine ih (j + 1) _ _ _ (by omega) (fun i hi => ?_)
    by_cases e : i = j
    · subst e; exact zsg_0.mp c
    · exact ha i (by omega)
theorem zk_same {O P0 P1 N T F1 F2 : zMem} {a : zAb} {post : Int32 → zMem → zMem → zMem → Prop} (hW : zWA a) (hC : zCA O P0 P1 N a) (k : ∀ T' F1' F2' : zMem, post (zoSm a) T' F1' F2') : zw_X5_same O P0 P1 T F1 F2 post := by
  refine zr_hasEdges hC.1 hC.2.1 hW.1 hW.2.1 (fun h => ?_) (fun h => ?_)
  · refine And.intro (fun _ => ⟨51, ?_⟩) (fun q => absurd q (by decide))
    refine zk_same18 hC.1 hC.2.1 hW.1 hW.2.1 (fun g T' A B => ?_) (fun g T' A B => ?_) 50 0 T F1 F2 (by decide) (fun i hi => absurd hi (by omega))
    · rw [zoSm_a g] at k; exact And.intro rfl (k _ _ _)
    · rw [zoSm_1 h g] at k; exact And.intro rfl (k _ _ _)
  · rw [zoSm_e h] at k
    exact And.intro (fun q => absurd rfl q) (fun _ => And.intro rfl (k _ _ _))
theorem zcm_neg {s t : zStk} {u : Int} {v : Nat} : zcm s (-u) v t (-u) v = zcm s u v t u v := by
  unfold zcm
  rw [zBk_neg, zBk_neg, zBk_neg, zBk_neg]
theorem zcm_abs {s t : zStk} {u : Int} {v : Nat} : zcm s (u.natAbs : Int) v t (u.natAbs : Int) v = zcm s u v t u v := by
  rcases Int.natAbs_eq u with q | q
  · rw [← q]
  · have e : (u.natAbs : Int) = -u := by omega
    rw [e, zcm_neg]
theorem zf_same74 {M0 : zMem} {a : zAb} {K : Int32 → zMem → Prop} (hW : zWA a) (hR : zRA M0 a) (h0 : ¬ zAll a.1 a.2.1 → ∀ (M : zMem) (w : Nat → Int), zG M0 M w → K 0 M) (h1 : zAll a.1 a.2.1 → ∀ (M : zMem) (w : Nat → Int), zG M0 M w → K 1 M) : ∀ (d i : Nat) (p : Int32) (M : zMem) (w : Nat → Int), i + d = 99 → p.toInt = -49 + (i : Int) → zG M0 M w → (∀ u : Int, -49 ≤ u → u < -49 + (i : Int) → zcm a.1 u 49 a.2.1 u 49 = 0) → zw_X6_same_74 K (d + 1) 1 p M := by
  have c49 : (49 : Int32).toInt = ((49 : Nat) : Int) := by decide
  intro d
  induction d with
  | zero =>
    intro i p M w hi hp hG ha
    refine And.intro (fun _ => h1 (fun j hj => ha j (by omega) (by omega)) M w hG) (fun c => absurd (zn_lt.mpr (by rw [hp, c49]; omega)) c)
  | succ d ih =>
    intro i p M w hi hp hG ha
    refine And.intro (fun c => absurd (zn_lt.mp c) (by rw [hp, c49]; omega)) (fun _ => And.intro (fun q => absurd q (by decide)) (fun _ => ?_))
    refine zf_bo (st := 0) hW hR hG (Or.inl rfl) hp c49 (by omega) (by decide) (by decide) (fun T1 w1 G1 e14 e15 _ => ?_)
    have e14 : w1 14 = zBk (-1) a.1 (-49 + (i : Int)) 49 := e14
    have e15 : w1 15 = zBk 1 a.1 (-49 + (i : Int)) 49 := e15
    refine zg_copy 24 14 G1 (by decide) (by decide) (fun T2 G2 => ?_)
    refine zg_copy 25 15 G2 (by decide) (by decide) (fun T3 G3 => ?_)
    refine zf_bo (st := 1) hW hR G3 (Or.inr rfl) hp c49 (by omega) (by decide) (by decide) (fun T4 w4 G4 f14 f15 kp => ?_)
    have f14 : w4 14 = zBk (-1) a.2.1 (-49 + (i : Int)) 49 := f14
    have f15 : w4 15 = zBk 1 a.2.1 (-49 + (i : Int)) 49 := f15
    have f24 : w4 24 = zBk (-1) a.1 (-49 + (i : Int)) 49 := by rw [kp 24 (by decide)]; exact e14
    have f25 : w4 25 = zBk 1 a.1 (-49 + (i : Int)) 49 := by rw [kp 25 (by decide)]; exact e15
    have bb : ∀ (g : Int) (s : zStk), zWs s → g.natAbs ≤ 1 → (zBk g s (-49 + (i : Int)) 49).natAbs < 2 ^ 450 := fun g s hs hg => zBk_l hs (by omega) (by decide) (by decide) hg
    have eD : zBk (-1) a.2.1 (-49 + (i : Int)) 49 * zBk 1 a.1 (-49 + (i : Int)) 49 - zBk (-1) a.1 (-49 + (i : Int)) 49 * zBk 1 a.2.1 (-49 + (i : Int)) 49 = -(zcm a.1 (-49 + (i : Int)) 49 a.2.1 (-49 + (i : Int)) 49) := by unfold zcm; omega
    refine zg_against 24 25 G4 (by decide) (by decide) (by rw [f14]; exact bb _ _ hW.2.1 (by decide)) (by rw [f15]; exact bb _ _ hW.2.1 (by decide)) (by rw [f24]; exact bb _ _ hW.1 (by decide)) (by rw [f25]; exact bb _ _ hW.1 (by decide)) (fun T5 w5 G5 _ => ?_)
    rw [f14, f15, f24, f25, eD]
    have hp' : (p + 1).toInt = -49 + ((i + 1 : Nat) : Int) := by rw [zn_add hp zn_1 (by omega) (by omega)]; omega
    refine And.intro (fun c x ex => ?_) (fun c x ex => ?_)
    · have hn : ¬ zAll a.1 a.2.1 := fun q => c (zsg_0.mpr (by
        have := q (-49 + (i : Int)).natAbs (by omega)
        rw [zcm_abs] at this
        omega))
      exact And.intro (fun _ => h0 hn _ _ G5) (fun _ => And.intro (fun _ => h0 hn _ _ G5) (fun q => absurd rfl q))
    · rw [ex]
      refine ih (i + 1) _ _ _ (by omega) hp' G5 (fun u h1 h2 => ?_)
      by_cases e : u = -49 + (i : Int)
      · rw [e]
        have := zsg_0.mp c
        omega
      · exact ha u h1 (by omega)
theorem zf_same {M : zMem} {a : zAb} {post : Int32 → zMem → Prop} (hW : zWA a) (h : zRA M a) (k : ∀ M' : zMem, zRA M' a → post (zoSm a) M') : zw_X6_same M post := by
  have h1 : zRA (zset M 0 (fun _ => 0)) a := zRA_0 h
  obtain ⟨w, hG⟩ := zRA_g h1
  obtain ⟨⟨-, -, p1, p2, p3, p4⟩, ⟨-, -, o1, o2, o3, o4⟩, -⟩ := h
  obtain ⟨-, ⟨-, s1⟩, ⟨-, s2⟩, ⟨-, s3⟩, ⟨-, s4⟩⟩ := hW.1
  obtain ⟨-, ⟨-, t1⟩, ⟨-, t2⟩, ⟨-, t3⟩, ⟨-, t4⟩⟩ := hW.2.1
  have v0 : vp_in (0 : Int32) 2 := vp_in_nI (n := 0) (by decide) (by decide)
  have v1 : vp_in (1 : Int32) 2 := vp_in_nI (n := 1) (by decide) (by decide)
  have no : ¬ zEqs a.1 a.2.1 → (∃ kf, zw_X6_same_74  (fun (x1_15 : Int32) (T_16 : zMem) => (narrow .boolean (.int x1_15) = .int x1_15 ∧ post x1_15 T_16)) kf (0 : Int32) (-49 : Int32) (zset M 0 (fun _ => (0 : Int32)))) := fun q => by
    rw [zoSm_e q] at k
    exact ⟨1, And.intro (fun _ => And.intro rfl (k _ h1)) (fun _ => And.intro (fun _ => And.intro rfl (k _ h1)) (fun q => absurd rfl q))⟩
  unfold zw_X6_same
  rw [show (0 : Int32).toNatClampNeg = 0 from rfl, show (1 : Int32).toNatClampNeg = 1 from rfl, p1, p2, p3, p4, o1, o2, o3, o4]
  refine And.intro v0 (And.intro v1 (And.intro (fun c => no (fun q => c (by rw [q.1]))) (fun c1 => And.intro v0 (And.intro v1 (And.intro (fun c => no (fun q => c (by rw [q.2.1]))) (fun c2 => And.intro v0 (And.intro v1 (And.intro (fun c => no (fun q => c (by rw [q.2.2.1]))) (fun c3 => And.intro v0 (And.intro v1 ?_))))))))))
  by_cases c4 : nI a.1.2.2.2.2.2.2.2 = nI a.2.1.2.2.2.2.2.2.2
  · have hE : zEqs a.1 a.2.1 := ⟨zn_inj9 s1 t1 c1, zn_inj9 s2 t2 c2, zn_inj9 s3 t3 c3, zn_inj9 s4 t4 c4⟩
    refine ⟨fun x => x = 1, ?_, And.intro (fun q => absurd c4 q) (fun _ => rfl)⟩
    rintro x rfl
    refine ⟨100, ?_⟩
    refine zf_same74 hW h1 (fun g M' w' G' => ?_) (fun g M' w' G' => ?_) 99 0 (-49) _ w (by decide) (by decide) hG (fun u h1 h2 => absurd h1 (by omega))
    · rw [zoSm_a g] at k; exact And.intro rfl (k _ (zRA_G h1 G'))
    · rw [zoSm_1 hE g] at k; exact And.intro rfl (k _ (zRA_G h1 G'))
  · refine ⟨fun x => x = 0, ?_, And.intro (fun _ => rfl) (fun q => absurd q c4)⟩
    rintro x rfl
    exact no (fun q => c4 (by rw [q.2.2.2]))
