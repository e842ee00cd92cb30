/-! the law's cases hold -/
theorem zlg (x : Int64) : lg_cmp x x = 0 := (lg_cmp_eq x x).mpr rfl
theorem zt_v {T : zMem} {c : Int32} {A : Prop} (h : T 0 0 = c) (k : A) : zw_X6_thrown T (fun v => ((v = c → A) ∧ (¬ v = c → False))) := And.intro (fun _ => k) (fun q => absurd h q)
theorem zt_a {T : zMem} {c v : Int32} {r : zRowL} {A : Prop} (h : T 0 0 = c) (hr : c = 0 → r 0 = Int32.toInt64 v) (k : A) : zw_X6_thrown T (fun x => ((x = c → ((¬ c = 0 → A) ∧ (c = 0 → (((lg_cmp (r (Int32.toNatClampNeg (0 : Int32))) (Int32.toInt64 v)) = 0 → A) ∧ (¬ (lg_cmp (r (Int32.toNatClampNeg (0 : Int32))) (Int32.toInt64 v)) = 0 → False))))) ∧ (¬ x = c → False))) := by
  refine And.intro (fun _ => And.intro (fun _ => k) (fun z => And.intro (fun _ => k) (fun q => q ?_))) (fun q => absurd h q)
  rw [show (0 : Int32).toNatClampNeg = 0 from rfl, hr z]; exact zlg _
theorem zt_b {T : zMem} {c v : Int32} {r : zRowL} {A : Prop} (h : T 0 0 = c) (hr : c = 0 → r 0 = Int32.toInt64 v) (hv : v = 0 ∨ v = 1) (k : A) : zw_X6_thrown T (fun x => ((x = c → ((¬ c = 0 → A) ∧ (c = 0 → ((v = 0 → (((lg_cmp (r (Int32.toNatClampNeg (0 : Int32))) (0 : Int64)) = 0 → A) ∧ (¬ (lg_cmp (r (Int32.toNatClampNeg (0 : Int32))) (0 : Int64)) = 0 → False))) ∧ (¬ v = 0 → (((lg_cmp (r (Int32.toNatClampNeg (0 : Int32))) (1 : Int64)) = 0 → A) ∧ (¬ (lg_cmp (r (Int32.toNatClampNeg (0 : Int32))) (1 : Int64)) = 0 → False))))))) ∧ (¬ x = c → False))) := by
  refine And.intro (fun _ => And.intro (fun _ => k) (fun z => And.intro (fun w => And.intro (fun _ => k) (fun q => q ?_)) (fun w => And.intro (fun _ => k) (fun q => q ?_)))) (fun q => absurd h q)
  · rw [show (0 : Int32).toNatClampNeg = 0 from rfl, hr z, w]; exact zlg 0
  · rcases hv with e | e
    · exact absurd e w
    · rw [show (0 : Int32).toNatClampNeg = 0 from rfl, hr z, e]; exact zlg 1
/-- what the law's loop keeps -/
def zI (O P0 P1 N M : zMem) : Prop := ∃ a : zAb, zWA a ∧ zCA O P0 P1 N a ∧ zRA M a
theorem zoSp_b {a : zAb} {st : Int32} : (zoSp a st).2 = 0 ∨ (zoSp a st).2 = 1 := by 
  by_cases h : zSt st
  · rw [zoSp_0 h]
    show zbS _ = 0 ∨ zbS _ = 1
    unfold zbS
    split
    · exact Or.inr rfl
    · exact Or.inl rfl
  · rw [zoSp_1 h]; exact Or.inl rfl
theorem zp_law_140 {L : Nat} {xs : Nat → Int32} {O P0 P1 P2 N T F0 F1 F2 M : zMem} {out : zRowL} {i : Int32} {K : zMem → zMem → zMem → zMem → zMem → zMem → zMem → zMem → zMem → zMem → zRowL → Prop} (v1 : vp_in (i + (1 : Int32)) L) (v2 : vp_in (i + (2 : Int32)) L) (v3 : vp_in (i + (3 : Int32)) L) (v4 : vp_in (i + (4 : Int32)) L) (v5 : vp_in (i + (5 : Int32)) L) (h : zI O P0 P1 N M) (hK : ∀ (O P0 P1 P2 N T F0 F1 F2 M : zMem) (out : zRowL), zI O P0 P1 N M → K O P0 P1 P2 N T F0 F1 F2 M out) : zw_law_140 L xs O P0 P1 P2 N T F0 F1 F2 M out i K := by
  obtain ⟨a, hW, hC, hR⟩ := h
  refine (And.intro v1 (And.intro v2 (And.intro v3 (And.intro v4 ?_))))
  refine zk_edge hC (fun P0x P1x hC' => ?_)
  refine (And.intro v1 (And.intro v2 (And.intro v3 (And.intro v4 ?_))))
  refine zf_edge hW hR (fun M' hM hR' => ?_)
  exact zt_v hM (hK _ _ _ _ _ _ _ _ _ _ _ ⟨_, zoE_W hW, hC', hR'⟩)
theorem zp_law_212 {L : Nat} {xs : Nat → Int32} {O P0 P1 P2 N T F0 F1 F2 M : zMem} {out : zRowL} {i : Int32} {K : zMem → zMem → zMem → zMem → zMem → zMem → zMem → zMem → zMem → zMem → zRowL → Prop} (v1 : vp_in (i + (1 : Int32)) L) (v2 : vp_in (i + (2 : Int32)) L) (v3 : vp_in (i + (3 : Int32)) L) (v4 : vp_in (i + (4 : Int32)) L) (v5 : vp_in (i + (5 : Int32)) L) (h : zI O P0 P1 N M) (hK : ∀ (O P0 P1 P2 N T F0 F1 F2 M : zMem) (out : zRowL), zI O P0 P1 N M → K O P0 P1 P2 N T F0 F1 F2 M out) : zw_law_212 L xs O P0 P1 P2 N T F0 F1 F2 M out i K := by
  obtain ⟨a, hW, hC, hR⟩ := h
  refine (And.intro v1 (And.intro v2 (And.intro v3 (And.intro v4 (And.intro v5 ?_)))))
  refine zk_layer hW hC (fun P0x P1x ox hr hC' => ?_)
  refine (And.intro v1 (And.intro v2 (And.intro v3 (And.intro v4 (And.intro v5 ?_)))))
  refine zf_layer hW hR (fun M' hM hR' => ?_)
  exact zt_a hM hr (hK _ _ _ _ _ _ _ _ _ _ _ ⟨_, zoL_W hW, hC', hR'⟩)
theorem zp_law_316 {L : Nat} {xs : Nat → Int32} {O P0 P1 P2 N T F0 F1 F2 M : zMem} {out : zRowL} {i : Int32} {K : zMem → zMem → zMem → zMem → zMem → zMem → zMem → zMem → zMem → zMem → zRowL → Prop} (v1 : vp_in (i + (1 : Int32)) L) (v2 : vp_in (i + (2 : Int32)) L) (v3 : vp_in (i + (3 : Int32)) L) (v4 : vp_in (i + (4 : Int32)) L) (v5 : vp_in (i + (5 : Int32)) L) (h : zI O P0 P1 N M) (hK : ∀ (O P0 P1 P2 N T F0 F1 F2 M : zMem) (out : zRowL), zI O P0 P1 N M → K O P0 P1 P2 N T F0 F1 F2 M out) : zw_law_316 L xs O P0 P1 P2 N T F0 F1 F2 M out i K := by
  obtain ⟨a, hW, hC, hR⟩ := h
  refine (And.intro v1 (And.intro v2 ?_))
  refine zk_drop hW hC (fun P0x P1x ox hr hC' => ?_)
  refine (And.intro v1 (And.intro v2 ?_))
  refine zf_drop hW hR (fun M' hM hR' => ?_)
  exact zt_a hM hr (hK _ _ _ _ _ _ _ _ _ _ _ ⟨_, zoD_W hW, hC', hR'⟩)
theorem zp_law_384 {L : Nat} {xs : Nat → Int32} {O P0 P1 P2 N T F0 F1 F2 M : zMem} {out : zRowL} {i : Int32} {K : zMem → zMem → zMem → zMem → zMem → zMem → zMem → zMem → zMem → zMem → zRowL → Prop} (v1 : vp_in (i + (1 : Int32)) L) (v2 : vp_in (i + (2 : Int32)) L) (v3 : vp_in (i + (3 : Int32)) L) (v4 : vp_in (i + (4 : Int32)) L) (v5 : vp_in (i + (5 : Int32)) L) (h : zI O P0 P1 N M) (hK : ∀ (O P0 P1 P2 N T F0 F1 F2 M : zMem) (out : zRowL), zI O P0 P1 N M → K O P0 P1 P2 N T F0 F1 F2 M out) : zw_law_384 L xs O P0 P1 P2 N T F0 F1 F2 M out i K := by
  obtain ⟨a, hW, hC, hR⟩ := h
  refine (And.intro v1 (And.intro v2 (And.intro v3 ?_)))
  refine zk_about hW hC (fun ox hr => ?_)
  refine (And.intro v1 (And.intro v2 (And.intro v3 ?_)))
  refine zf_about hW hR (fun M' hM hR' => ?_)
  exact zt_a hM hr (hK _ _ _ _ _ _ _ _ _ _ _ ⟨_, hW, hC, hR'⟩)
theorem zp_law_464 {L : Nat} {xs : Nat → Int32} {O P0 P1 P2 N T F0 F1 F2 M : zMem} {out : zRowL} {i : Int32} {K : zMem → zMem → zMem → zMem → zMem → zMem → zMem → zMem → zMem → zMem → zRowL → Prop} (v1 : vp_in (i + (1 : Int32)) L) (v2 : vp_in (i + (2 : Int32)) L) (v3 : vp_in (i + (3 : Int32)) L) (v4 : vp_in (i + (4 : Int32)) L) (v5 : vp_in (i + (5 : Int32)) L) (h : zI O P0 P1 N M) (hK : ∀ (O P0 P1 P2 N T F0 F1 F2 M : zMem) (out : zRowL), zI O P0 P1 N M → K O P0 P1 P2 N T F0 F1 F2 M out) : zw_law_464 L xs O P0 P1 P2 N T F0 F1 F2 M out i K := by
  obtain ⟨a, hW, hC, hR⟩ := h
  refine (And.intro v1 ?_)
  refine zk_turn hW hC (fun P0x P1x hC' => ?_)
  refine (And.intro v1 ?_)
  refine zf_turn hW hR (fun M' hM hR' => ?_)
  exact zt_v hM (hK _ _ _ _ _ _ _ _ _ _ _ ⟨_, zoT_W hW, hC', hR'⟩)
theorem zp_law_500 {L : Nat} {xs : Nat → Int32} {O P0 P1 P2 N T F0 F1 F2 M : zMem} {out : zRowL} {i : Int32} {K : zMem → zMem → zMem → zMem → zMem → zMem → zMem → zMem → zMem → zMem → zRowL → Prop} (v1 : vp_in (i + (1 : Int32)) L) (v2 : vp_in (i + (2 : Int32)) L) (v3 : vp_in (i + (3 : Int32)) L) (v4 : vp_in (i + (4 : Int32)) L) (v5 : vp_in (i + (5 : Int32)) L) (h : zI O P0 P1 N M) (hK : ∀ (O P0 P1 P2 N T F0 F1 F2 M : zMem) (out : zRowL), zI O P0 P1 N M → K O P0 P1 P2 N T F0 F1 F2 M out) : zw_law_500 L xs O P0 P1 P2 N T F0 F1 F2 M out i K := by
  obtain ⟨a, hW, hC, hR⟩ := h
  refine (And.intro v1 ?_)
  refine zk_copy hW hC (fun P0x P1x hC' => ?_)
  refine (And.intro v1 ?_)
  refine zf_copy hW hR (fun M' hM hR' => ?_)
  exact zt_v hM (hK _ _ _ _ _ _ _ _ _ _ _ ⟨_, zoC_W hW, hC', hR'⟩)
theorem zp_law_536 {L : Nat} {xs : Nat → Int32} {O P0 P1 P2 N T F0 F1 F2 M : zMem} {out : zRowL} {i : Int32} {K : zMem → zMem → zMem → zMem → zMem → zMem → zMem → zMem → zMem → zMem → zRowL → Prop} (v1 : vp_in (i + (1 : Int32)) L) (v2 : vp_in (i + (2 : Int32)) L) (v3 : vp_in (i + (3 : Int32)) L) (v4 : vp_in (i + (4 : Int32)) L) (v5 : vp_in (i + (5 : Int32)) L) (h : zI O P0 P1 N M) (hK : ∀ (O P0 P1 P2 N T F0 F1 F2 M : zMem) (out : zRowL), zI O P0 P1 N M → K O P0 P1 P2 N T F0 F1 F2 M out) : zw_law_536 L xs O P0 P1 P2 N T F0 F1 F2 M out i K := by
  obtain ⟨a, hW, hC, hR⟩ := h
  refine (And.intro v1 (And.intro v2 ?_))
  refine zk_light hC (fun Ox hC' _ => ?_)
  refine (And.intro v1 (And.intro v2 ?_))
  refine zf_light hR (fun M' hM hR' => ?_)
  exact zt_v hM (hK _ _ _ _ _ _ _ _ _ _ _ ⟨_, zoI_W hW, hC', hR'⟩)
theorem zp_law_584 {L : Nat} {xs : Nat → Int32} {O P0 P1 P2 N T F0 F1 F2 M : zMem} {out : zRowL} {i : Int32} {K : zMem → zMem → zMem → zMem → zMem → zMem → zMem → zMem → zMem → zMem → zRowL → Prop} (v1 : vp_in (i + (1 : Int32)) L) (v2 : vp_in (i + (2 : Int32)) L) (v3 : vp_in (i + (3 : Int32)) L) (v4 : vp_in (i + (4 : Int32)) L) (v5 : vp_in (i + (5 : Int32)) L) (h : zI O P0 P1 N M) (hK : ∀ (O P0 P1 P2 N T F0 F1 F2 M : zMem) (out : zRowL), zI O P0 P1 N M → K O P0 P1 P2 N T F0 F1 F2 M out) : zw_law_584 L xs O P0 P1 P2 N T F0 F1 F2 M out i K := by
  obtain ⟨a, hW, hC, hR⟩ := h
  refine (And.intro v1 (And.intro v2 (And.intro (fun h => ?_) (fun h => ?_))))
  · refine (And.intro v3 ?_)
    refine zk_back hW hC (fun Tx F0x ox hr => ?_)
    refine (And.intro v1 (And.intro v2 (And.intro (fun _ => ?_) (fun q => absurd h q))))
    refine (And.intro v3 ?_)
    refine zf_back hW hR (fun M' hM hR' => ?_)
    exact zt_a hM hr (hK _ _ _ _ _ _ _ _ _ _ _ ⟨_, hW, hC, hR'⟩)
  · refine (And.intro v3 ?_)
    refine zk_back hW hC (fun Tx F0x ox hr => ?_)
    refine (And.intro v1 (And.intro v2 (And.intro (fun q => absurd q h) (fun _ => ?_))))
    refine (And.intro v3 ?_)
    refine zf_back hW hR (fun M' hM hR' => ?_)
    exact zt_a hM hr (hK _ _ _ _ _ _ _ _ _ _ _ ⟨_, hW, hC, hR'⟩)
theorem zp_law_680 {L : Nat} {xs : Nat → Int32} {O P0 P1 P2 N T F0 F1 F2 M : zMem} {out : zRowL} {i : Int32} {K : zMem → zMem → zMem → zMem → zMem → zMem → zMem → zMem → zMem → zMem → zRowL → Prop} (v1 : vp_in (i + (1 : Int32)) L) (v2 : vp_in (i + (2 : Int32)) L) (v3 : vp_in (i + (3 : Int32)) L) (v4 : vp_in (i + (4 : Int32)) L) (v5 : vp_in (i + (5 : Int32)) L) (h : zI O P0 P1 N M) (hK : ∀ (O P0 P1 P2 N T F0 F1 F2 M : zMem) (out : zRowL), zI O P0 P1 N M → K O P0 P1 P2 N T F0 F1 F2 M out) : zw_law_680 L xs O P0 P1 P2 N T F0 F1 F2 M out i K := by
  obtain ⟨a, hW, hC, hR⟩ := h
  refine (And.intro v1 (And.intro v2 (And.intro (fun h => ?_) (fun h => ?_))))
  · refine (And.intro v3 ?_)
    refine zk_on hW hC (fun Tx F0x ox hr => ?_)
    refine (And.intro v1 (And.intro v2 (And.intro (fun _ => ?_) (fun q => absurd h q))))
    refine (And.intro v3 ?_)
    refine zf_on hW hR (fun M' hM hR' => ?_)
    exact zt_a hM hr (hK _ _ _ _ _ _ _ _ _ _ _ ⟨_, hW, hC, hR'⟩)
  · refine (And.intro v3 ?_)
    refine zk_on hW hC (fun Tx F0x ox hr => ?_)
    refine (And.intro v1 (And.intro v2 (And.intro (fun q => absurd q h) (fun _ => ?_))))
    refine (And.intro v3 ?_)
    refine zf_on hW hR (fun M' hM hR' => ?_)
    exact zt_a hM hr (hK _ _ _ _ _ _ _ _ _ _ _ ⟨_, hW, hC, hR'⟩)
theorem zp_law_776 {L : Nat} {xs : Nat → Int32} {O P0 P1 P2 N T F0 F1 F2 M : zMem} {out : zRowL} {i : Int32} {K : zMem → zMem → zMem → zMem → zMem → zMem → zMem → zMem → zMem → zMem → zRowL → Prop} (v1 : vp_in (i + (1 : Int32)) L) (v2 : vp_in (i + (2 : Int32)) L) (v3 : vp_in (i + (3 : Int32)) L) (v4 : vp_in (i + (4 : Int32)) L) (v5 : vp_in (i + (5 : Int32)) L) (h : zI O P0 P1 N M) (hK : ∀ (O P0 P1 P2 N T F0 F1 F2 M : zMem) (out : zRowL), zI O P0 P1 N M → K O P0 P1 P2 N T F0 F1 F2 M out) : zw_law_776 L xs O P0 P1 P2 N T F0 F1 F2 M out i K := by
  obtain ⟨a, hW, hC, hR⟩ := h
  refine (And.intro v1 (And.intro v2 (And.intro v3 (And.intro (fun h => ?_) (fun h => ?_)))))
  · refine (And.intro v4 ?_)
    refine zk_entry hW hC (fun Tx F0x ox hr => ?_)
    refine (And.intro v1 (And.intro v2 (And.intro v3 (And.intro (fun _ => ?_) (fun q => absurd h q)))))
    refine (And.intro v4 ?_)
    refine zf_entry hW hR (fun M' hM hR' => ?_)
    exact zt_a hM hr (hK _ _ _ _ _ _ _ _ _ _ _ ⟨_, hW, hC, hR'⟩)
  · refine (And.intro v4 ?_)
    refine zk_entry hW hC (fun Tx F0x ox hr => ?_)
    refine (And.intro v1 (And.intro v2 (And.intro v3 (And.intro (fun q => absurd q h) (fun _ => ?_)))))
    refine (And.intro v4 ?_)
    refine zf_entry hW hR (fun M' hM hR' => ?_)
    exact zt_a hM hr (hK _ _ _ _ _ _ _ _ _ _ _ ⟨_, hW, hC, hR'⟩)
theorem zp_law_884 {L : Nat} {xs : Nat → Int32} {O P0 P1 P2 N T F0 F1 F2 M : zMem} {out : zRowL} {i : Int32} {K : zMem → zMem → zMem → zMem → zMem → zMem → zMem → zMem → zMem → zMem → zRowL → Prop} (v1 : vp_in (i + (1 : Int32)) L) (v2 : vp_in (i + (2 : Int32)) L) (v3 : vp_in (i + (3 : Int32)) L) (v4 : vp_in (i + (4 : Int32)) L) (v5 : vp_in (i + (5 : Int32)) L) (h : zI O P0 P1 N M) (hK : ∀ (O P0 P1 P2 N T F0 F1 F2 M : zMem) (out : zRowL), zI O P0 P1 N M → K O P0 P1 P2 N T F0 F1 F2 M out) : zw_law_884 L xs O P0 P1 P2 N T F0 F1 F2 M out i K := by
  obtain ⟨a, hW, hC, hR⟩ := h
  refine (And.intro v1 (And.intro v2 ?_))
  refine zk_sign hW hC (fun Tx ox hr => ?_)
  refine (And.intro v1 (And.intro v2 ?_))
  refine zf_sign hW hR (fun M' hM hR' => ?_)
  exact zt_a hM hr (hK _ _ _ _ _ _ _ _ _ _ _ ⟨_, hW, hC, hR'⟩)
theorem zp_law_952 {L : Nat} {xs : Nat → Int32} {O P0 P1 P2 N T F0 F1 F2 M : zMem} {out : zRowL} {i : Int32} {K : zMem → zMem → zMem → zMem → zMem → zMem → zMem → zMem → zMem → zMem → zRowL → Prop} (v1 : vp_in (i + (1 : Int32)) L) (v2 : vp_in (i + (2 : Int32)) L) (v3 : vp_in (i + (3 : Int32)) L) (v4 : vp_in (i + (4 : Int32)) L) (v5 : vp_in (i + (5 : Int32)) L) (h : zI O P0 P1 N M) (hK : ∀ (O P0 P1 P2 N T F0 F1 F2 M : zMem) (out : zRowL), zI O P0 P1 N M → K O P0 P1 P2 N T F0 F1 F2 M out) : zw_law_952 L xs O P0 P1 P2 N T F0 F1 F2 M out i K := by
  obtain ⟨a, hW, hC, hR⟩ := h
  refine (And.intro v1 ?_)
  refine zk_stops hW hC (fun Tx ox hr => ?_)
  refine (And.intro v1 ?_)
  refine zf_stops hW hR (fun M' hM hR' => ?_)
  exact zt_b hM hr zoSp_b (hK _ _ _ _ _ _ _ _ _ _ _ ⟨_, hW, hC, hR'⟩)
theorem zp_law_1028 {L : Nat} {xs : Nat → Int32} {O P0 P1 P2 N T F0 F1 F2 M : zMem} {out : zRowL} {i : Int32} {K : zMem → zMem → zMem → zMem → zMem → zMem → zMem → zMem → zMem → zMem → zRowL → Prop} (v1 : vp_in (i + (1 : Int32)) L) (v2 : vp_in (i + (2 : Int32)) L) (v3 : vp_in (i + (3 : Int32)) L) (v4 : vp_in (i + (4 : Int32)) L) (v5 : vp_in (i + (5 : Int32)) L) (h : zI O P0 P1 N M) (hK : ∀ (O P0 P1 P2 N T F0 F1 F2 M : zMem) (out : zRowL), zI O P0 P1 N M → K O P0 P1 P2 N T F0 F1 F2 M out) : zw_law_1028 L xs O P0 P1 P2 N T F0 F1 F2 M out i K := by
  obtain ⟨a, hW, hC, hR⟩ := h
  refine (And.intro v1 (And.intro v2 (And.intro v3 (And.intro (fun h => ?_) (fun h => ?_)))))
  · refine zk_extreme hW hC (fun Tx F1x F2x ox hr => ?_)
    refine (And.intro v1 (And.intro v2 (And.intro v3 (And.intro (fun _ => ?_) (fun q => absurd h q)))))
    refine zf_extreme hW hR (fun M' hM hR' => ?_)
    exact zt_a hM hr (hK _ _ _ _ _ _ _ _ _ _ _ ⟨_, hW, hC, hR'⟩)
  · refine zk_extreme hW hC (fun Tx F1x F2x ox hr => ?_)
    refine (And.intro v1 (And.intro v2 (And.intro v3 (And.intro (fun q => absurd q h) (fun _ => ?_)))))
    refine zf_extreme hW hR (fun M' hM hR' => ?_)
    exact zt_a hM hr (hK _ _ _ _ _ _ _ _ _ _ _ ⟨_, hW, hC, hR'⟩)
theorem zp_law_1137 {L : Nat} {xs : Nat → Int32} {O P0 P1 P2 N T F0 F1 F2 M : zMem} {out : zRowL} {i : Int32} {K : zMem → zMem → zMem → zMem → zMem → zMem → zMem → zMem → zMem → zMem → zRowL → Prop} (v1 : vp_in (i + (1 : Int32)) L) (v2 : vp_in (i + (2 : Int32)) L) (v3 : vp_in (i + (3 : Int32)) L) (v4 : vp_in (i + (4 : Int32)) L) (v5 : vp_in (i + (5 : Int32)) L) (h : zI O P0 P1 N M) (hK : ∀ (O P0 P1 P2 N T F0 F1 F2 M : zMem) (out : zRowL), zI O P0 P1 N M → K O P0 P1 P2 N T F0 F1 F2 M out) : zw_law_1137 L xs O P0 P1 P2 N T F0 F1 F2 M out i K := by
  obtain ⟨a, hW, hC, hR⟩ := h
  refine (And.intro v1 (And.intro v2 ?_))
  refine zk_list hW hC (fun Ox ox hr hC' _ => ?_)
  refine (And.intro v1 (And.intro v2 ?_))
  refine zf_list hW hR (fun M' hM hR' => ?_)
  exact zt_a hM hr (hK _ _ _ _ _ _ _ _ _ _ _ ⟨_, zoS_W hW, hC', hR'⟩)
theorem zp_law_1216 {L : Nat} {xs : Nat → Int32} {O P0 P1 P2 N T F0 F1 F2 M : zMem} {out : zRowL} {i : Int32} {K : zMem → zMem → zMem → zMem → zMem → zMem → zMem → zMem → zMem → zMem → zRowL → Prop} (v1 : vp_in (i + (1 : Int32)) L) (v2 : vp_in (i + (2 : Int32)) L) (v3 : vp_in (i + (3 : Int32)) L) (v4 : vp_in (i + (4 : Int32)) L) (v5 : vp_in (i + (5 : Int32)) L) (h : zI O P0 P1 N M) (hK : ∀ (O P0 P1 P2 N T F0 F1 F2 M : zMem) (out : zRowL), zI O P0 P1 N M → K O P0 P1 P2 N T F0 F1 F2 M out) : zw_law_1216 L xs O P0 P1 P2 N T F0 F1 F2 M out i K := by
  obtain ⟨a, hW, hC, hR⟩ := h
  refine (And.intro v1 (And.intro v2 ?_))
  refine zk_choose hW hC (fun Ox P0x P1x P2x Tx F1x F2x ox hr hC' => ?_)
  refine (And.intro v1 (And.intro v2 ?_))
  refine zf_choose hW hR (fun M' hM hR' => ?_)
  exact zt_a hM hr (hK _ _ _ _ _ _ _ _ _ _ _ ⟨_, zoCh_W hW, hC', hR'⟩)
theorem zp_law_1284 {L : Nat} {xs : Nat → Int32} {O P0 P1 P2 N T F0 F1 F2 M : zMem} {out : zRowL} {i : Int32} {K : zMem → zMem → zMem → zMem → zMem → zMem → zMem → zMem → zMem → zMem → zRowL → Prop} (v1 : vp_in (i + (1 : Int32)) L) (v2 : vp_in (i + (2 : Int32)) L) (v3 : vp_in (i + (3 : Int32)) L) (v4 : vp_in (i + (4 : Int32)) L) (v5 : vp_in (i + (5 : Int32)) L) (h : zI O P0 P1 N M) (hK : ∀ (O P0 P1 P2 N T F0 F1 F2 M : zMem) (out : zRowL), zI O P0 P1 N M → K O P0 P1 P2 N T F0 F1 F2 M out) : zw_law_1284 L xs O P0 P1 P2 N T F0 F1 F2 M out i K := by
  obtain ⟨a, hW, hC, hR⟩ := h
  refine (And.intro v1 (And.intro v2 (And.intro v3 (And.intro v4 ?_))))
  refine zk_pane hW hC (fun Nx ox hr hC' => ?_)
  refine (And.intro v1 (And.intro v2 (And.intro v3 (And.intro v4 ?_))))
  refine zf_pane hW hR (fun M' hM hR' => ?_)
  exact zt_a hM hr (hK _ _ _ _ _ _ _ _ _ _ _ ⟨_, zoP_W hW, hC', hR'⟩)
theorem zp_law_1389 {L : Nat} {xs : Nat → Int32} {O P0 P1 P2 N T F0 F1 F2 M : zMem} {out : zRowL} {i : Int32} {K : zMem → zMem → zMem → zMem → zMem → zMem → zMem → zMem → zMem → zMem → zRowL → Prop} (v1 : vp_in (i + (1 : Int32)) L) (v2 : vp_in (i + (2 : Int32)) L) (v3 : vp_in (i + (3 : Int32)) L) (v4 : vp_in (i + (4 : Int32)) L) (v5 : vp_in (i + (5 : Int32)) L) (h : zI O P0 P1 N M) (hK : ∀ (O P0 P1 P2 N T F0 F1 F2 M : zMem) (out : zRowL), zI O P0 P1 N M → K O P0 P1 P2 N T F0 F1 F2 M out) : zw_law_1389 L xs O P0 P1 P2 N T F0 F1 F2 M out i K := by
  obtain ⟨a, hW, hC, hR⟩ := h
  refine (And.intro v1 (And.intro v2 (And.intro (fun h => ?_) (fun h => ?_))))
  · refine (And.intro v3 ?_)
    refine zk_share hW hC (fun Nx F0x ox hr hC' => ?_)
    refine (And.intro v1 (And.intro v2 (And.intro (fun _ => ?_) (fun q => absurd h q))))
    refine (And.intro v3 ?_)
    refine zf_share hW hR (fun M' hM hR' => ?_)
    exact zt_a hM hr (hK _ _ _ _ _ _ _ _ _ _ _ ⟨_, hW, hC', hR'⟩)
  · refine (And.intro v3 ?_)
    refine zk_share hW hC (fun Nx F0x ox hr hC' => ?_)
    refine (And.intro v1 (And.intro v2 (And.intro (fun q => absurd q h) (fun _ => ?_))))
    refine (And.intro v3 ?_)
    refine zf_share hW hR (fun M' hM hR' => ?_)
    exact zt_a hM hr (hK _ _ _ _ _ _ _ _ _ _ _ ⟨_, hW, hC', hR'⟩)
theorem zp_law_1015 {L : Nat} {xs : Nat → Int32} {O P0 P1 P2 N T F0 F1 F2 M : zMem} {out : zRowL} {i : Int32} {K : zMem → zMem → zMem → zMem → zMem → zMem → zMem → zMem → zMem → zMem → zRowL → Prop} (v1 : vp_in (i + (1 : Int32)) L) (v2 : vp_in (i + (2 : Int32)) L) (v3 : vp_in (i + (3 : Int32)) L) (v4 : vp_in (i + (4 : Int32)) L) (v5 : vp_in (i + (5 : Int32)) L) (h : zI O P0 P1 N M) (hK : ∀ (O P0 P1 P2 N T F0 F1 F2 M : zMem) (out : zRowL), zI O P0 P1 N M → K O P0 P1 P2 N T F0 F1 F2 M out) : zw_law_1015 L xs O P0 P1 P2 N T F0 F1 F2 M out i K := by
  obtain ⟨a, hW, hC, hR⟩ := h
  refine zk_less hW hC (fun Tx F1x F2x => ?_)
  refine zf_less hW hR (fun M' hR' => ?_)
  exact And.intro (fun _ => hK _ _ _ _ _ _ _ _ _ _ _ ⟨_, hW, hC, hR'⟩) (fun q => q rfl)
theorem zp_law_1124 {L : Nat} {xs : Nat → Int32} {O P0 P1 P2 N T F0 F1 F2 M : zMem} {out : zRowL} {i : Int32} {K : zMem → zMem → zMem → zMem → zMem → zMem → zMem → zMem → zMem → zMem → zRowL → Prop} (v1 : vp_in (i + (1 : Int32)) L) (v2 : vp_in (i + (2 : Int32)) L) (v3 : vp_in (i + (3 : Int32)) L) (v4 : vp_in (i + (4 : Int32)) L) (v5 : vp_in (i + (5 : Int32)) L) (h : zI O P0 P1 N M) (hK : ∀ (O P0 P1 P2 N T F0 F1 F2 M : zMem) (out : zRowL), zI O P0 P1 N M → K O P0 P1 P2 N T F0 F1 F2 M out) : zw_law_1124 L xs O P0 P1 P2 N T F0 F1 F2 M out i K := by
  obtain ⟨a, hW, hC, hR⟩ := h
  refine zk_same hW hC (fun Tx F1x F2x => ?_)
  refine zf_same hW hR (fun M' hR' => ?_)
  exact And.intro (fun _ => hK _ _ _ _ _ _ _ _ _ _ _ ⟨_, hW, hC, hR'⟩) (fun q => q rfl)
theorem zp_law_1205 {L : Nat} {xs : Nat → Int32} {O P0 P1 P2 N T F0 F1 F2 M : zMem} {out : zRowL} {i : Int32} {K : zMem → zMem → zMem → zMem → zMem → zMem → zMem → zMem → zMem → zMem → zRowL → Prop} (v1 : vp_in (i + (1 : Int32)) L) (v2 : vp_in (i + (2 : Int32)) L) (v3 : vp_in (i + (3 : Int32)) L) (v4 : vp_in (i + (4 : Int32)) L) (v5 : vp_in (i + (5 : Int32)) L) (h : zI O P0 P1 N M) (hK : ∀ (O P0 P1 P2 N T F0 F1 F2 M : zMem) (out : zRowL), zI O P0 P1 N M → K O P0 P1 P2 N T F0 F1 F2 M out) : zw_law_1205 L xs O P0 P1 P2 N T F0 F1 F2 M out i K := by
  obtain ⟨a, hW, hC, hR⟩ := h
  refine zk_unlist hC (fun Ox hC' _ => ?_)
  refine zf_unlist hR (fun M' _ hR' => ?_)
  exact hK _ _ _ _ _ _ _ _ _ _ _ ⟨_, zoU_W hW, hC', hR'⟩
theorem zp_law_1376 {L : Nat} {xs : Nat → Int32} {O P0 P1 P2 N T F0 F1 F2 M : zMem} {out : zRowL} {i : Int32} {K : zMem → zMem → zMem → zMem → zMem → zMem → zMem → zMem → zMem → zMem → zRowL → Prop} (v1 : vp_in (i + (1 : Int32)) L) (v2 : vp_in (i + (2 : Int32)) L) (v3 : vp_in (i + (3 : Int32)) L) (v4 : vp_in (i + (4 : Int32)) L) (v5 : vp_in (i + (5 : Int32)) L) (h : zI O P0 P1 N M) (hK : ∀ (O P0 P1 P2 N T F0 F1 F2 M : zMem) (out : zRowL), zI O P0 P1 N M → K O P0 P1 P2 N T F0 F1 F2 M out) : zw_law_1376 L xs O P0 P1 P2 N T F0 F1 F2 M out i K := by
  obtain ⟨a, hW, hC, hR⟩ := h
  refine zk_clear hC (fun Nx hC' => ?_)
  refine zf_clear hR (fun M' _ hR' => ?_)
  exact And.intro (fun _ => hK _ _ _ _ _ _ _ _ _ _ _ ⟨_, zoR_W hW, hC', hR'⟩) (fun q => q rfl)
