/-! the whole state, as both sides hold it -/
abbrev zAr : Type := (Int32 × Nat) × (Nat × (Nat → Nat) × (Nat → Nat)) × (Nat × (Nat → Nat) × (Nat → Nat) × (Nat → Nat) × (Nat → Nat))
abbrev zAb : Type := zStk × zStk × zAr
def zLiW (b : zAr) : Prop := 1 ≤ b.1.2 ∧ b.1.2 ≤ 25 ∧ b.1.1.toInt.natAbs ≤ b.1.2
def zLsW (b : zAr) : Prop := b.2.1.1 ≤ 6 ∧ ∀ j : Nat, j < b.2.1.1 → 1 ≤ b.2.1.2.1 j ∧ b.2.1.2.1 j ≤ 9 ∧ 1 ≤ b.2.1.2.2 j ∧ b.2.1.2.2 j ≤ 9 ∧ Nat.gcd (b.2.1.2.1 j) (b.2.1.2.2 j) = 1
def zPnW (b : zAr) : Prop := b.2.2.1 ≤ 8 ∧ ∀ i : Nat, i < b.2.2.1 → zSh (b.2.2.2.1 i) (b.2.2.2.2.1 i) (b.2.2.2.2.2.1 i) (b.2.2.2.2.2.2 i)
def zWA (a : zAb) : Prop := zWs a.1 ∧ zWs a.2.1 ∧ zLiW a.2.2 ∧ zLsW a.2.2 ∧ zPnW a.2.2
/-- the class: O the object, N its panes -/
def zCR (O N : zMem) (b : zAr) : Prop := (O 12 0 = b.1.1 ∧ O 13 0 = nI b.1.2) ∧ (O 14 0 = nI b.2.1.1 ∧ ∀ j : Nat, j < b.2.1.1 → O 3 j = nI (b.2.1.2.1 j) ∧ O 4 j = nI (b.2.1.2.2 j)) ∧ N 6 0 = nI b.2.2.1 ∧ zNs N (zPs b.2.2.2.1 b.2.2.2.2.1 b.2.2.2.2.2.1 b.2.2.2.2.2.2 b.2.2.1)
def zCA (O P0 P1 N : zMem) (a : zAb) : Prop := zCp P0 a.1 ∧ zCp P1 a.2.1 ∧ zCR O N a.2.2
/-- the reference -/
def zRR (M : zMem) (b : zAr) : Prop := (M 9 0 = b.1.1 ∧ M 10 0 = nI b.1.2) ∧ (M 11 0 = nI b.2.1.1 ∧ ∀ j : Nat, j < b.2.1.1 → M 12 j = nI (b.2.1.2.1 j) ∧ M 13 j = nI (b.2.1.2.2 j)) ∧ zRp M b.2.2.1 b.2.2.2.1 b.2.2.2.2.1 b.2.2.2.2.2.1 b.2.2.2.2.2.2 ∧ ∃ w : Nat → Int, ∀ c : Nat, c < 60 → zN M c (w c)
def zRA (M : zMem) (a : zAb) : Prop := zRt M 0 a.1 ∧ zRt M 1 a.2.1 ∧ zRR M a.2.2
theorem zRR_k {M M' : zMem} {b : zAr} (h : ∀ i : Nat, 9 ≤ i → i < 22 → M' i = M i) (g : zRR M b) : zRR M' b := by
  obtain ⟨⟨g1, g2⟩, ⟨g3, g4⟩, ⟨g5, g6⟩, w, g7⟩ := g
  refine ⟨⟨by rw [h 9 (by decide) (by decide)]; exact g1, by rw [h 10 (by decide) (by decide)]; exact g2⟩, ⟨by rw [h 11 (by decide) (by decide)]; exact g3, fun j hj => ?_⟩, ⟨by rw [h 14 (by decide) (by decide)]; exact g5, fun i hi => ?_⟩, w, fun c hc => ?_⟩
  · rw [h 12 (by decide) (by decide), h 13 (by decide) (by decide)]; exact g4 j hj
  · rw [h 15 (by decide) (by decide), h 16 (by decide) (by decide), h 17 (by decide) (by decide), h 18 (by decide) (by decide)]; exact g6 i hi
  · unfold zN
    rw [h 19 (by decide) (by decide), h 20 (by decide) (by decide), h 21 (by decide) (by decide)]; exact g7 c hc
theorem zRt_k {M M' : zMem} {k : Nat} {s : zStk} (h : ∀ i : Nat, 1 ≤ i → i < 9 → M' i = M i) (g : zRt M k s) : zRt M' k s := by
  obtain ⟨g1, g2, g3, g4, g5, g6⟩ := g
  refine ⟨by rw [h 5 (by decide) (by decide)]; exact g1, fun i hi => ?_, by rw [h 1 (by decide) (by decide)]; exact g3, by rw [h 2 (by decide) (by decide)]; exact g4, by rw [h 3 (by decide) (by decide)]; exact g5, by rw [h 4 (by decide) (by decide)]; exact g6⟩
  rw [h 6 (by decide) (by decide), h 7 (by decide) (by decide), h 8 (by decide) (by decide)]; exact g2 i hi
theorem zRA_0 {M : zMem} {a : zAb} {r : zRow} (h : zRA M a) : zRA (zset M 0 r) a :=
  ⟨zRt_k (fun i h1 _ => zs_out (zn_beq (by omega))) h.1, zRt_k (fun i h1 _ => zs_out (zn_beq (by omega))) h.2.1, zRR_k (fun i h1 _ => zs_out (zn_beq (by omega))) h.2.2⟩
/-- numbers have been reckoned: the state is as it was -/
theorem zRA_G {M0 M : zMem} {a : zAb} {w : Nat → Int} (h : zRA M0 a) (g : zG M0 M w) : zRA M a := by
  obtain ⟨h1, h2, ⟨⟨g1, g2⟩, ⟨g3, g4⟩, ⟨g5, g6⟩, w0, g7⟩⟩ := h
  refine ⟨zRt_k (fun i h1 h2 => g.1 i (by omega) (by omega) (by omega)) h1, zRt_k (fun i h1 h2 => g.1 i (by omega) (by omega) (by omega)) h2, ⟨⟨?_, ?_⟩, ⟨?_, fun j hj => ?_⟩, ⟨?_, fun i hi => ?_⟩, w, g.2⟩⟩
  · rw [g.1 9 (by decide) (by decide) (by decide)]; exact g1
  · rw [g.1 10 (by decide) (by decide) (by decide)]; exact g2
  · rw [g.1 11 (by decide) (by decide) (by decide)]; exact g3
  · rw [g.1 12 (by decide) (by decide) (by decide), g.1 13 (by decide) (by decide) (by decide)]; exact g4 j hj
  · rw [g.1 14 (by decide) (by decide) (by decide)]; exact g5
  · rw [g.1 15 (by decide) (by decide) (by decide), g.1 16 (by decide) (by decide) (by decide), g.1 17 (by decide) (by decide) (by decide), g.1 18 (by decide) (by decide) (by decide)]; exact g6 i hi
theorem zRA_g {M : zMem} {a : zAb} (h : zRA M a) : ∃ w : Nat → Int, zG M M w := by
  obtain ⟨-, -, -, -, -, w, g7⟩ := h
  exact ⟨w, fun _ _ _ _ => rfl, g7⟩
/-! comparisons -/
theorem zi_lt {x y : Int32} {b : Int} (hy : y.toInt = b) (c : x < y) : x.toInt < b := by rw [← hy]; exact zn_lt.mp c
theorem zi_nlt {x y : Int32} {b : Int} (hy : y.toInt = b) (c : ¬ x < y) : b ≤ x.toInt := by
  rcases Int.lt_or_le x.toInt b with q | q
  · exact absurd (zn_lt.mpr (by rw [hy]; exact q)) c
  · exact q
theorem zi_gt {x y : Int32} {a : Int} (hx : x.toInt = a) (c : x < y) : a < y.toInt := by rw [← hx]; exact zn_lt.mp c
theorem zi_ngt {x y : Int32} {a : Int} (hx : x.toInt = a) (c : ¬ x < y) : y.toInt ≤ a := by
  rcases Int.lt_or_le a y.toInt with q | q
  · exact absurd (zn_lt.mpr (by rw [hx]; exact q)) c
  · exact q
theorem zi_le {x y : Int32} {b : Int} (hy : y.toInt = b) (c : x ≤ y) : x.toInt ≤ b := by rw [← hy]; exact zn_le.mp c
theorem zi_nle {x y : Int32} {b : Int} (hy : y.toInt = b) (c : ¬ x ≤ y) : b < x.toInt := by
  rcases Int.lt_or_le b x.toInt with q | q
  · exact q
  · exact absurd (zn_le.mpr (by rw [hy]; exact q)) c
theorem zi_ge {x y : Int32} {a : Int} (hx : x.toInt = a) (c : x ≤ y) : a ≤ y.toInt := by rw [← hx]; exact zn_le.mp c
theorem zi_nge {x y : Int32} {a : Int} (hx : x.toInt = a) (c : ¬ x ≤ y) : y.toInt < a := by
  rcases Int.lt_or_le y.toInt a with q | q
  · exact q
  · exact absurd (zn_le.mpr (by rw [hx]; exact q)) c
theorem zc_1 : (1 : Int32).toInt = 1 := by decide
theorem zc_2 : (2 : Int32).toInt = 2 := by decide
theorem zc_3 : (3 : Int32).toInt = 3 := by decide
theorem zc_4 : (4 : Int32).toInt = 4 := by decide
theorem zc_6 : (6 : Int32).toInt = 6 := by decide
theorem zc_8 : (8 : Int32).toInt = 8 := by decide
theorem zc_9 : (9 : Int32).toInt = 9 := by decide
theorem zc_25 : (25 : Int32).toInt = 25 := by decide
theorem zc_40 : (40 : Int32).toInt = 40 := by decide
theorem zc_100 : (100 : Int32).toInt = 100 := by decide
theorem zc_nI {x : Int32} (h : 0 ≤ x.toInt) : ∃ n : Nat, x = nI n ∧ x.toInt = n := by
  obtain ⟨n, hn⟩ : ∃ n : Nat, x.toInt = n := ⟨x.toInt.toNat, by omega⟩
  exact ⟨n, zn_ofI hn, hn⟩
/-! what both sides ask of their arguments -/
def zIx (a b : Int32) : Prop := (1 ≤ a.toInt ∧ a.toInt ≤ 9) ∧ (1 ≤ b.toInt ∧ b.toInt ≤ 9)
theorem zr_needIndex {a b : Int32} {post PXA : Prop} (k : zIx a b → post) (x : ¬ zIx a b → PXA) : zw_X5_needIndex a b post PXA :=
  And.intro (fun c => x (fun h => by have := zi_lt zc_1 c; have := h.1; omega)) (fun c1 => And.intro (fun c => x (fun h => by have := zi_gt zc_9 c; have := h.1; omega)) (fun c2 => And.intro (fun c => x (fun h => by have := zi_lt zc_1 c; have := h.2; omega)) (fun c3 => And.intro (fun c4 => k ⟨⟨zi_nlt zc_1 c1, zi_ngt zc_9 c2⟩, ⟨zi_nlt zc_1 c3, zi_le zc_9 c4⟩⟩) (fun c => x (fun h => by have := zi_nle zc_9 c; have := h.2; omega)))))
theorem zr_isIndex {a b : Int32} {post : Int32 → Prop} (k : zIx a b → post 1) (x : ¬ zIx a b → post 0) : zw_X6_isIndex a b post :=
  And.intro (fun c => And.intro rfl (x (fun h => by have := zi_lt zc_1 c; have := h.1; omega))) (fun c1 => And.intro (fun c => And.intro rfl (x (fun h => by have := zi_gt zc_9 c; have := h.1; omega))) (fun c2 => And.intro (fun c => And.intro rfl (x (fun h => by have := zi_lt zc_1 c; have := h.2; omega))) (fun c3 => And.intro (fun c => And.intro rfl (x (fun h => by have := zi_gt zc_9 c; have := h.2; omega))) (fun c4 => And.intro rfl (k ⟨⟨zi_nlt zc_1 c1, zi_ngt zc_9 c2⟩, ⟨zi_nlt zc_1 c3, zi_ngt zc_9 c4⟩⟩)))))
theorem zIx_n {a b : Int32} (h : zIx a b) : ∃ n m : Nat, a = nI n ∧ b = nI m ∧ 1 ≤ n ∧ n ≤ 9 ∧ 1 ≤ m ∧ m ≤ 9 := by
  obtain ⟨n, e1, f1⟩ := zc_nI (x := a) (by have := h.1; omega)
  obtain ⟨m, e2, f2⟩ := zc_nI (x := b) (by have := h.2; omega)
  exact ⟨n, m, e1, e2, by have := h.1; omega, by have := h.1; omega, by have := h.2; omega, by have := h.2; omega⟩
def zPt (k : Int32) : Prop := 0 ≤ k.toInt ∧ k.toInt < 40
theorem zr_needPart {x : Int32} {post PXA : Prop} (k : zPt x → post) (n : ¬ zPt x → PXA) : zw_X5_needPart x post PXA :=
  And.intro (fun c => n (fun h => by have := zi_lt zn_0 c; have := h.1; omega)) (fun c1 => And.intro (fun c2 => k ⟨zi_nlt zn_0 c1, zi_lt zc_40 c2⟩) (fun c => n (fun h => by have := zi_nlt zc_40 c; have := h.2; omega)))
theorem zr_isPart {x : Int32} {post : Int32 → Prop} (k : zPt x → post 1) (n : ¬ zPt x → post 0) : zw_X6_isPart x post :=
  And.intro (fun c => And.intro rfl (n (fun h => by have := zi_lt zn_0 c; have := h.1; omega))) (fun c1 => And.intro (fun c => And.intro rfl (n (fun h => by have := zi_ge zc_40 c; have := h.2; omega))) (fun c2 => And.intro rfl (k ⟨zi_nlt zn_0 c1, zi_nge zc_40 c2⟩)))
def zEn (k : Int32) : Prop := 0 ≤ k.toInt ∧ k.toInt < 4
theorem zr_needEntry {x : Int32} {post PXA : Prop} (k : zEn x → post) (n : ¬ zEn x → PXA) : zw_X5_needEntry x post PXA :=
  And.intro (fun c => n (fun h => by have := zi_lt zn_0 c; have := h.1; omega)) (fun c1 => And.intro (fun c2 => k ⟨zi_nlt zn_0 c1, zi_lt zc_4 c2⟩) (fun c => n (fun h => by have := zi_nlt zc_4 c; have := h.2; omega)))
def zLB (k : Int32) : Prop := 1 ≤ k.toInt ∧ k.toInt ≤ 25
theorem zr_needLB {x : Int32} {post PXA : Prop} (k : zLB x → post) (n : ¬ zLB x → PXA) : zw_X5_needLightBelow x post PXA :=
  And.intro (fun c => n (fun h => by have := zi_lt zc_1 c; have := h.1; omega)) (fun c1 => And.intro (fun c2 => k ⟨zi_nlt zc_1 c1, zi_le zc_25 c2⟩) (fun c => n (fun h => by have := zi_nle zc_25 c; have := h.2; omega)))
theorem zr_pileAt {O : zMem} {st : Int32} {A B X : Prop} (k0 : st = 0 → A) (k1 : st = 1 → B) (x : ¬ st = 0 → ¬ st = 1 → X) : zw_X5_pileAt O st A B X :=
  And.intro (fun c => And.intro (fun d => absurd c d) (fun _ => k0 c)) (fun c => And.intro (fun d => And.intro (fun _ => k1 d) (fun e => absurd e c)) (fun d => x c d))
theorem zr_right1 {T : zMem} {a what : Int32} {post : Int32 → zMem → Prop} (h : T 0 0 = 0) (ha : ¬ a = 0) (k : post 1 T) : zw_X6_right T a what post :=
  And.intro (fun c => absurd h c) (fun _ => And.intro (fun _ => And.intro (fun c => absurd h c) (fun _ => And.intro rfl k)) (fun c => absurd c ha))
theorem zr_right0 {T : zMem} {what : Int32} {post : Int32 → zMem → Prop} (h : T 0 0 = 0) (hw : ¬ what = 0) (k : post 0 (zset T 0 (fun _ => what))) : zw_X6_right T 0 what post :=
  And.intro (fun c => absurd h c) (fun _ => And.intro (fun c => absurd rfl c) (fun _ => And.intro (fun _ => And.intro rfl k) (fun c => absurd c hw)))
theorem zr_isStack {M : zMem} {st : Int32} {post : Int32 → zMem → Prop} (k : (st = 0 ∨ st = 1) → post 1 (zset M 0 (fun _ => 0))) (x : ¬ st = 0 → ¬ st = 1 → post 0 (zset (zset M 0 (fun _ => 0)) 0 (fun _ => 1))) : zw_X6_isStack M st post := by
  refine And.intro (fun c => zr_right1 rfl (by decide) (And.intro rfl (k (Or.inl c)))) (fun c => And.intro (fun d => zr_right0 rfl (by decide) (And.intro rfl (x c d))) (fun d => zr_right1 rfl (by decide) (And.intro rfl (k (Or.inr d)))))
theorem zr_shared {a b : Nat} {post : Int32 → Prop} (ha : a < 2147483648) (hb : b < 2147483648) (k : post (nI (Nat.gcd a b))) : zw_X6_shared (nI a) (nI b) post := by
  have L : ∀ (f x y : Nat), y < f → x < 2147483648 → y < 2147483648 → Nat.gcd x y = Nat.gcd a b → zw_X6_shared_4 (fun r => post r) f (nI x) (nI y) := by
    intro f
    induction f with
    | zero => intro x y h; omega
    | succ f ih =>
      intro x y hf hx hy hg
      refine And.intro (fun c => ?_) (fun c => ?_)
      · have : y = 0 := by
          have := zi_le zn_0 c
          rw [nI_toInt (by omega)] at this
          omega
        subst this
        rw [Nat.gcd_zero_right] at hg
        show post (nI x)
        rw [hg]; exact k
      · have y0 : 0 < y := by
          rcases Nat.eq_zero_or_pos y with q | q
          · subst q; exact absurd (by decide) c
          · exact q
        refine And.intro (nI_ne0 y0 (by omega)) ?_
        intro z ez
        rw [pk_rem (by omega) y0 (by omega)] at ez
        rw [ez]
        have hl := Nat.mod_lt x y0
        refine ih y (x % y) (by omega) hy (by omega) ?_
        rw [← hg, Nat.gcd_comm x y, Nat.gcd_rec y x, Nat.gcd_comm]
  exact ⟨b + 1, L (b + 1) a b (by omega) ha hb rfl⟩
/-- a / c for c the common divisor -/
theorem zn_dv {a b : Nat} (ha : 1 ≤ a) (ha9 : a ≤ 9) : nI a / nI (Nat.gcd a b) = nI (a / Nat.gcd a b) ∧ ¬ nI (Nat.gcd a b) = 0 := by
  obtain ⟨g1, g2⟩ := zn_g9 (b := b) ha ha9
  exact ⟨pk_div (by omega) (by omega) (by omega), nI_ne0 (by omega) (by omega)⟩
theorem zn_dv' {a b : Nat} (ha : 1 ≤ a) (ha9 : a ≤ 9) (hb9 : b ≤ 9) : nI b / nI (Nat.gcd a b) = nI (b / Nat.gcd a b) := by
  obtain ⟨g1, g2⟩ := zn_g9 (b := b) ha ha9
  exact pk_div (by omega) (by omega) (by omega)
