/-! stacks: the class's piles -/
abbrev zStk : Type := Nat × (Nat → Nat) × (Nat → Nat) × (Nat → Nat) × Nat × Nat × Nat × Nat
def zCp (P : zMem) (s : zStk) : Prop := zPl P s.1 s.2.1 s.2.2.1 s.2.2.2.1 s.2.2.2.2.1 s.2.2.2.2.2.1 s.2.2.2.2.2.2.1 s.2.2.2.2.2.2.2
def zRt (M : zMem) (k : Nat) (s : zStk) : Prop := zRs M k s.1 s.2.1 s.2.2.1 s.2.2.2.1 s.2.2.2.2.1 s.2.2.2.2.2.1 s.2.2.2.2.2.2.1 s.2.2.2.2.2.2.2
def zWs (s : zStk) : Prop := zOk s.2.1 s.2.2.1 s.2.2.2.1 s.1 ∧ zEd s.2.2.2.2.1 s.2.2.2.2.2.1 s.2.2.2.2.2.2.1 s.2.2.2.2.2.2.2
def zins (f : Nat → Nat) (i x : Nat) : Nat → Nat := fun j => if j < i then f j else if j = i then x else f (j - 1)
def zdel (f : Nat → Nat) (i : Nat) : Nat → Nat := fun j => if j < i then f j else f (j + 1)
def zrev (f : Nat → Nat) (n : Nat) : Nat → Nat := fun j => f (n - 1 - j)
def zsE (s : zStk) (what a b : Nat) : zStk := if what = 0 then (s.1, s.2.1, s.2.2.1, s.2.2.2.1, a, b, s.2.2.2.2.2.2.1, s.2.2.2.2.2.2.2) else (s.1, s.2.1, s.2.2.1, s.2.2.2.1, s.2.2.2.2.1, s.2.2.2.2.2.1, a, b)
def zsI (s : zStk) (i a b w : Nat) : zStk := (s.1 + 1, zins s.2.1 i a, zins s.2.2.1 i b, zins s.2.2.2.1 i w, s.2.2.2.2)
def zsD (s : zStk) (i : Nat) : zStk := (s.1 - 1, zdel s.2.1 i, zdel s.2.2.1 i, zdel s.2.2.2.1 i, s.2.2.2.2)
def zsR (s : zStk) : zStk := (s.1, zrev s.2.1 s.1, zrev s.2.2.1 s.1, zrev s.2.2.2.1 s.1, s.2.2.2.2.2.2.1, s.2.2.2.2.2.2.2, s.2.2.2.2.1, s.2.2.2.2.2.1)
/-! lowest terms of an index -/
theorem zn_g9 {a b : Nat} (ha : 1 ≤ a) (ha9 : a ≤ 9) : 1 ≤ Nat.gcd a b ∧ Nat.gcd a b ≤ 9 := ⟨Nat.gcd_pos_of_pos_left _ ha, Nat.le_trans (Nat.gcd_le_left _ ha) ha9⟩
theorem zn_q9 {a b : Nat} (ha : 1 ≤ a) (ha9 : a ≤ 9) : 1 ≤ a / Nat.gcd a b ∧ a / Nat.gcd a b ≤ 9 := ⟨Nat.div_pos (Nat.gcd_le_left _ ha) (Nat.gcd_pos_of_pos_left _ ha), Nat.le_trans (Nat.div_le_self _ _) ha9⟩
theorem zr_low9 {a b : Nat} {post : Int32 → Prop} (ha : 1 ≤ a) (ha9 : a ≤ 9) (hb : 1 ≤ b) (hb9 : b ≤ 9) (k : post (nI (a / Nat.gcd a b))) : zw_X3_lowest (nI a) (nI b) post := by
  have L : ∀ d : Nat, d ≤ 9 → 1 ≤ d → (∀ e : Nat, d < e → ¬ (e ∣ a ∧ e ∣ b)) → zw_X3_lowest_3 (nI a) (nI b) (fun (x2_8 : Int32) => (¬ x2_8 = 0 ∧ post ((nI a) / x2_8) )) (post (nI a) ) d (nI d) := by
    intro d
    induction d with
    | zero => intro _ h; omega
    | succ d ih =>
      intro hd _ hno
      have gle : Nat.gcd a b ≤ d + 1 := by
        rcases Nat.lt_or_ge (d + 1) (Nat.gcd a b) with q | q
        · exact absurd ⟨Nat.gcd_dvd_left a b, Nat.gcd_dvd_right a b⟩ (hno _ q)
        · exact q
      refine And.intro (fun c => ?_) (fun c => ?_)
      · have c1 : d + 1 ≤ 1 := (nI_leI (b := 1) (by omega) (by omega)).mp c
        have : Nat.gcd a b = 1 := by have := (zn_g9 (b := b) ha ha9).1; omega
        rw [this, Nat.div_one] at k; exact k
      · have c1 : ¬ d + 1 ≤ 1 := fun q => c ((nI_leI (b := 1) (by omega) (by omega)).mpr q)
        have nz : ¬ nI (d + 1) = 0 := nI_ne0 (by omega) (by omega)
        have next : ¬ ((d + 1) ∣ a ∧ (d + 1) ∣ b) → ∀ x2_4 : Int32, x2_4 = nI (d + 1) + (-1 : Int32) → zw_X3_lowest_3 (nI a) (nI b) (fun (x2_8 : Int32) => (¬ x2_8 = 0 ∧ post ((nI a) / x2_8) )) (post (nI a) ) d x2_4 := fun hn x ex => by
          rw [pk_m1] at ex
          rw [ex]
          refine ih (by omega) (by omega) (fun e he => ?_)
          by_cases q : e = d + 1
          · rw [q]; exact hn
          · exact hno e (by omega)
        refine And.intro nz ?_
        rw [pk_rem (by omega) (by omega) (by omega), pk_rem (by omega) (by omega) (by omega)]
        refine And.intro (fun q => next (fun w => q ?_)) (fun q => And.intro nz (And.intro (fun q2 => next (fun w => q2 ?_)) (fun q2 => And.intro nz ?_)))
        · rw [Nat.mod_eq_zero_of_dvd w.1]; rfl
        · rw [Nat.mod_eq_zero_of_dvd w.2]; rfl
        · have d1 : (d + 1) ∣ a := by
            rw [show (0 : Int32) = nI 0 from rfl] at q
            exact Nat.dvd_of_mod_eq_zero ((nI_eq (Nat.lt_of_le_of_lt (Nat.mod_le _ _) (by omega)) (by omega)).mp q)
          have d2 : (d + 1) ∣ b := by
            rw [show (0 : Int32) = nI 0 from rfl] at q2
            exact Nat.dvd_of_mod_eq_zero ((nI_eq (Nat.lt_of_le_of_lt (Nat.mod_le _ _) (by omega)) (by omega)).mp q2)
          have : Nat.gcd a b = d + 1 := by
            have := Nat.le_of_dvd (Nat.gcd_pos_of_pos_left _ ha) (Nat.dvd_gcd d1 d2)
            omega
          rw [this] at k
          rw [pk_div (by omega) (by omega) (by omega)]; exact k
  refine ⟨9, L 9 (by omega) (by omega) (fun e he w => ?_)⟩
  have := Nat.le_of_dvd (by omega) w.1
  omega
theorem zr_setEdge {P : zMem} {s : zStk} {what a b : Nat} {post : zMem → Prop} (h : zCp P s) (hw : what < 2) (ha : 1 ≤ a) (ha9 : a ≤ 9) (hb : 1 ≤ b) (hb9 : b ≤ 9) (k : ∀ P' : zMem, zCp P' (zsE s what (a / Nat.gcd a b) (b / Nat.gcd a b)) → post P') : zw_X3_setEdge P (nI what) (nI a) (nI b) post := by
  obtain ⟨p5, pi, p0, p1, p2, p3⟩ := h
  refine ⟨fun v => v = nI what, ?_, ?_⟩
  · rintro v rfl
    refine zr_low9 ha ha9 hb hb9 (And.intro (vp_in_nI hw (by decide)) ?_)
    intro r6 e6
    refine zr_low9 hb hb9 ha ha9 (And.intro (vp_in_nI hw (by decide)) ?_)
    intro r9 e9
    rw [nI_clamp (by omega)] at e6 e9
    rw [Nat.gcd_comm b a] at e9
    refine k _ ?_
    rcases Nat.lt_or_ge what 1 with q | q
    · have : what = 0 := by omega
      subst this
      refine ⟨p5, pi, ?_, ?_, ?_, ?_⟩
      · show r6 0 = _
        rw [e6, pk_us]; rfl
      · show r9 0 = _
        rw [e9, pk_us]; rfl
      · show r6 1 = _
        rw [e6, pk_un (by decide)]; exact p2
      · show r9 1 = _
        rw [e9, pk_un (by decide)]; exact p3
    · have : what = 1 := by omega
      subst this
      refine ⟨p5, pi, ?_, ?_, ?_, ?_⟩
      · show r6 0 = _
        rw [e6, pk_un (by decide)]; exact p0
      · show r9 0 = _
        rw [e9, pk_un (by decide)]; exact p1
      · show r6 1 = _
        rw [e6, pk_us]; rfl
      · show r9 1 = _
        rw [e9, pk_us]; rfl
  · rcases Nat.lt_or_ge what 1 with q | q
    · have : what = 0 := by omega
      subst this
      exact And.intro (fun c => absurd rfl c) (fun _ => rfl)
    · have : what = 1 := by omega
      subst this
      exact And.intro (fun _ => rfl) (fun c => absurd c (by decide))
/-! a layer comes: rows move up -/
def zsh (f : zRow) (j n : Nat) : zRow := fun x => if j < x ∧ x ≤ n then f (x - 1) else f x
theorem zsh_n (f : zRow) (n : Nat) : zsh f n n = f := by
  funext x; unfold zsh; rw [if_neg (by omega)]
theorem zsh_step (f : zRow) {j n : Nat} (h : j < n) : upd (zsh f (j + 1) n) (j + 1) (zsh f (j + 1) n j) = zsh f j n := by
  funext x
  unfold upd zsh
  by_cases q : x = j + 1
  · subst q
    rw [if_pos rfl, if_neg (by omega), if_pos (by omega), Nat.add_sub_cancel]
  · rw [if_neg q]
    by_cases w : j + 1 < x ∧ x ≤ n
    · rw [if_pos w, if_pos (by omega)]
    · rw [if_neg w, if_neg (by omega)]
theorem zsh_ins {f : zRow} {g : Nat → Nat} {i n x : Nat} (hf : ∀ j : Nat, j < n → f j = nI (g j)) (hi : i ≤ n) : ∀ j : Nat, j < n + 1 → upd (zsh f i n) i (nI x) j = nI (zins g i x j) := fun j hj => by
  unfold upd zsh zins
  by_cases q : j = i
  · subst q; rw [if_pos rfl, if_neg (by omega), if_pos rfl]
  · rw [if_neg q]
    by_cases w : j < i
    · rw [if_neg (by omega), if_pos w]; exact hf j (by omega)
    · rw [if_pos (by omega), if_neg w, if_neg q]; exact hf (j - 1) (by omega)
theorem zr_move {P : zMem} {a b : Nat} {post : zMem → Prop} (ha : a < 6) (hb : b < 6) (k : post (zset (zset (zset P 2 (upd (P 2) b (P 2 a))) 3 (upd (P 3) b (P 3 a))) 4 (upd (P 4) b (P 4 a)))) : zw_X3_moveLayer P (nI a) (nI b) post := by
  refine And.intro (fun c => absurd c (nI_pos (by omega))) (fun _ => And.intro (fun c => absurd c (nI_ge (b := 6) (by omega) (by omega))) (fun _ => And.intro (fun c => absurd c (nI_pos (by omega))) (fun _ => And.intro (fun _ => ?_) (fun c => absurd (nI_lt (b := 6) (by omega) (by omega)) c))))
  refine And.intro (vp_in_nI ha (by decide)) (And.intro (vp_in_nI hb (by decide)) (fun r7 e7 => And.intro (vp_in_nI ha (by decide)) (And.intro (vp_in_nI hb (by decide)) (fun r10 e10 => And.intro (vp_in_nI ha (by decide)) (And.intro (vp_in_nI hb (by decide)) (fun r13 e13 => ?_))))))
  rw [nI_clamp (by omega), nI_clamp (by omega)] at e7 e10 e13
  rw [e7, e10, e13]; exact k
theorem zr_insert {P : zMem} {s : zStk} {i a b w : Nat} {post : Int32 → zMem → Prop} (h : zCp P s) (hn : s.1 ≤ 6) (hi : i ≤ s.1) (ha : 1 ≤ a) (ha9 : a ≤ 9) (hb : 1 ≤ b) (hb9 : b ≤ 9) (k1 : s.1 < 6 → ∀ P' : zMem, zCp P' (zsI s i (a / Nat.gcd a b) (b / Nat.gcd a b) w) → post 1 P') (k0 : s.1 = 6 → post 0 P) : zw_X3_insert P (nI i) (nI a) (nI b) (nI w) post := by
  obtain ⟨p5, pi, p0, p1, p2, p3⟩ := h
  unfold zw_X3_insert
  rw [p5]
  refine And.intro (fun c => And.intro rfl (k0 ?_)) (fun c => And.intro (fun c => absurd c (nI_pos (by omega))) (fun _ => And.intro (fun _ => ?_) (fun c => absurd (nI_le hi (by omega)) c)))
  · have := (nI_leI (a := 6) (by omega) (by omega)).mp c
    omega
  have hn6 : s.1 < 6 := by
    rcases Nat.lt_or_ge s.1 6 with q | q
    · exact q
    · exact absurd ((nI_leI (a := 6) (by omega) (by omega)).mpr q) c
  intro x ex
  rw [ex]
  have L : ∀ (d j : Nat) (P1 : zMem), i + d = j → j ≤ s.1 → (P1 2 = zsh (P 2) j s.1 ∧ P1 3 = zsh (P 3) j s.1 ∧ P1 4 = zsh (P 4) j s.1 ∧ P1 0 = P 0 ∧ P1 1 = P 1 ∧ P1 5 = P 5) → zw_X3_insert_29 (nI i) (nI a) (nI b) (nI w) (fun (T_10 : zMem) => zw_X3_lowest (nI a) (nI b) (fun (v_11 : Int32) => (vp_in (nI i) 6 ∧ ∀ r_13 : zRow, r_13 = (upd (T_10 2) (Int32.toNatClampNeg (nI i)) v_11) → (zw_X3_lowest (nI b) (nI a) (fun (v_14 : Int32) => (vp_in (nI i) 6 ∧ ∀ r_16 : zRow, r_16 = (upd (T_10 3) (Int32.toNatClampNeg (nI i)) v_14) → ((vp_in (nI i) 6 ∧ ∀ r_18 : zRow, r_18 = (upd (T_10 4) (Int32.toNatClampNeg (nI i)) (nI w)) → (∀ y_19 : Int32, y_19 = ((T_10 5 0) + (1 : Int32)) → ((narrow .boolean (.int (1 : Int32)) = .int (1 : Int32) ∧ post (1 : Int32) (zset (zset (zset (zset T_10 2 r_13) 3 r_16) 4 r_18) 5 (fun _ => y_19))))))))))))) (d + 1) (nI j) P1 := by
    intro d
    induction d with
    | zero =>
      intro j P1 hj hjn hP1
      have e : j = i := by omega
      subst e
      obtain ⟨q2, q3, q4, q0, q1, q5⟩ := hP1
      refine And.intro (fun _ => ?_) (fun c => absurd (nI_le (Nat.le_refl _) (by omega)) c)
      refine zr_low9 ha ha9 hb hb9 (And.intro (vp_in_nI (by omega) (by decide)) ?_)
      intro r13 e13
      refine zr_low9 hb hb9 ha ha9 (And.intro (vp_in_nI (by omega) (by decide)) ?_)
      intro r16 e16
      refine And.intro (vp_in_nI (by omega) (by decide)) ?_
      intro r18 e18 y ey
      refine And.intro rfl (k1 hn6 _ ⟨?_, fun t ht => ⟨?_, ?_, ?_⟩, ?_, ?_, ?_, ?_⟩)
      · show y = nI (s.1 + 1)
        rw [ey, q5, p5, nI_1]
      · show r13 t = _
        rw [e13, nI_clamp (by omega), q2]
        exact zsh_ins (fun j hj => (pi j hj).1) hi t ht
      · show r16 t = _
        rw [e16, nI_clamp (by omega), q3, Nat.gcd_comm b a]
        exact zsh_ins (fun j hj => (pi j hj).2.1) hi t ht
      · show r18 t = _
        rw [e18, nI_clamp (by omega), q4]
        exact zsh_ins (fun j hj => (pi j hj).2.2) hi t ht
      · show P1 0 0 = _
        rw [q0]; exact p0
      · show P1 1 0 = _
        rw [q1]; exact p1
      · show P1 0 1 = _
        rw [q0]; exact p2
      · show P1 1 1 = _
        rw [q1]; exact p3
    | succ d ih =>
      intro j P1 hj hjn hP1
      obtain ⟨j', rfl⟩ : ∃ j', j = j' + 1 := ⟨j - 1, by omega⟩
      obtain ⟨q2, q3, q4, q0, q1, q5⟩ := hP1
      refine And.intro (fun c => absurd c (nI_ge (by omega) (by omega))) (fun _ => ?_)
      rw [nI_pred]
      refine zr_move (by omega) (by omega) ?_
      intro x ex
      rw [pk_m1] at ex
      rw [ex]
      refine ih j' _ (by omega) (by omega) ⟨?_, ?_, ?_, q0, q1, q5⟩
      · show upd (P1 2) (j' + 1) (P1 2 j') = _
        rw [q2]; exact zsh_step _ (by omega)
      · show upd (P1 3) (j' + 1) (P1 3 j') = _
        rw [q3]; exact zsh_step _ (by omega)
      · show upd (P1 4) (j' + 1) (P1 4 j') = _
        rw [q4]; exact zsh_step _ (by omega)
  exact ⟨_, L (s.1 - i) s.1 P (by omega) (Nat.le_refl _) ⟨(zsh_n _ _).symm, (zsh_n _ _).symm, (zsh_n _ _).symm, rfl, rfl, rfl⟩⟩
/-! a layer goes: rows move down -/
def zdl (f : zRow) (i j : Nat) : zRow := fun x => if i ≤ x ∧ x < j then f (x + 1) else f x
theorem zdl_0 (f : zRow) (i : Nat) : zdl f i i = f := by
  funext x; unfold zdl; rw [if_neg (by omega)]
theorem zdl_step (f : zRow) {i j : Nat} (h : i ≤ j) : upd (zdl f i j) j (zdl f i j (j + 1)) = zdl f i (j + 1) := by
  funext x
  unfold upd zdl
  by_cases q : x = j
  · subst q
    rw [if_pos rfl, if_neg (by omega), if_pos (by omega)]
  · rw [if_neg q]
    by_cases w : i ≤ x ∧ x < j
    · rw [if_pos w, if_pos (by omega)]
    · rw [if_neg w, if_neg (by omega)]
theorem zdl_del {f : zRow} {g : Nat → Nat} {i n : Nat} (hf : ∀ j : Nat, j < n → f j = nI (g j)) (hi : i < n) : ∀ j : Nat, j < n - 1 → zdl f i (n - 1) j = nI (zdel g i j) := fun j hj => by
  unfold zdl zdel
  by_cases w : j < i
  · rw [if_neg (by omega), if_pos w]; exact hf j (by omega)
  · rw [if_pos (by omega), if_neg w]; exact hf (j + 1) (by omega)
theorem zr_remove {P : zMem} {s : zStk} {i : Nat} {post : zMem → Prop} (h : zCp P s) (hn : s.1 ≤ 6) (hi : i < s.1) (k : ∀ P' : zMem, zCp P' (zsD s i) → post P') : zw_X3_remove P (nI i) post := by
  obtain ⟨p5, pi, p0, p1, p2, p3⟩ := h
  unfold zw_X3_remove
  rw [p5]
  refine And.intro (fun c => absurd c (nI_pos (by omega))) (fun _ => And.intro (fun _ => ?_) (fun c => absurd (nI_lt hi (by omega)) c))
  intro y ey
  obtain ⟨m, hm⟩ : ∃ m, s.1 = m + 1 := ⟨s.1 - 1, by omega⟩
  rw [hm, nI_pred] at ey
  have L : ∀ (d j : Nat) (P1 : zMem), j + d = m → i ≤ j → (P1 2 = zdl (P 2) i j ∧ P1 3 = zdl (P 3) i j ∧ P1 4 = zdl (P 4) i j ∧ P1 0 = P 0 ∧ P1 1 = P 1 ∧ P1 5 0 = nI m) → zw_X3_remove_25 (fun T => post T) (d + 1) (nI j) P1 := by
    intro d
    induction d with
    | zero =>
      intro j P1 hj hij hP1
      have e : j = m := by omega
      subst e
      obtain ⟨q2, q3, q4, q0, q1, q5⟩ := hP1
      unfold zw_X3_remove_25
      rw [q5]
      refine And.intro (fun _ => k P1 ⟨?_, fun t ht => ⟨?_, ?_, ?_⟩, ?_, ?_, ?_, ?_⟩) (fun c => absurd (nI_le (Nat.le_refl _) (by omega)) c)
      · show P1 5 0 = nI (s.1 - 1)
        rw [q5, hm]; rfl
      · have := zdl_del (fun j hj => (pi j hj).1) hi t ht
        rw [q2]; rwa [hm, Nat.add_sub_cancel] at this
      · have := zdl_del (fun j hj => (pi j hj).2.1) hi t ht
        rw [q3]; rwa [hm, Nat.add_sub_cancel] at this
      · have := zdl_del (fun j hj => (pi j hj).2.2) hi t ht
        rw [q4]; rwa [hm, Nat.add_sub_cancel] at this
      · rw [q0]; exact p0
      · rw [q1]; exact p1
      · rw [q0]; exact p2
      · rw [q1]; exact p3
    | succ d ih =>
      intro j P1 hj hij hP1
      obtain ⟨q2, q3, q4, q0, q1, q5⟩ := hP1
      unfold zw_X3_remove_25
      rw [q5]
      refine And.intro (fun c => absurd c (nI_ge (by omega) (by omega))) (fun _ => ?_)
      rw [nI_1]
      refine zr_move (by omega) (by omega) ?_
      intro x ex
      rw [ex]
      refine ih (j + 1) _ (by omega) (by omega) ⟨?_, ?_, ?_, q0, q1, q5⟩
      · show upd (P1 2) j (P1 2 (j + 1)) = _
        rw [q2]; exact zdl_step _ hij
      · show upd (P1 3) j (P1 3 (j + 1)) = _
        rw [q3]; exact zdl_step _ hij
      · show upd (P1 4) j (P1 4 (j + 1)) = _
        rw [q4]; exact zdl_step _ hij
  exact ⟨_, L (m - i) i _ (by omega) (Nat.le_refl _) ⟨(zdl_0 _ _).symm, (zdl_0 _ _).symm, (zdl_0 _ _).symm, rfl, rfl, ey⟩⟩
/-! a stack is turned about -/
def zrv (f : zRow) (n i : Nat) : zRow := fun x => if x < n ∧ (x < i ∨ n ≤ x + i) then f (n - 1 - x) else f x
theorem zrv_0 (f : zRow) (n : Nat) : zrv f n 0 = f := by
  funext x; unfold zrv; rw [if_neg (by omega)]
theorem zrv_step (f : zRow) {i n : Nat} (h : 2 * i + 1 < n) : upd (upd (zrv f n i) i (zrv f n i (n - 1 - i))) (n - 1 - i) (zrv f n i i) = zrv f n (i + 1) := by
  funext x
  unfold upd zrv
  by_cases q : x = n - 1 - i
  · subst q
    rw [if_pos rfl, if_neg (by omega), if_pos (by omega)]
    congr 1; omega
  · rw [if_neg q]
    by_cases q2 : x = i
    · subst q2
      rw [if_pos rfl, if_neg (by omega), if_pos (by omega)]
    · rw [if_neg q2]
      by_cases w : x < n ∧ (x < i ∨ n ≤ x + i)
      · rw [if_pos w, if_pos (by omega)]
      · rw [if_neg w, if_neg (by omega)]
theorem zrv_end {f : zRow} {g : Nat → Nat} {n i : Nat} (hf : ∀ j : Nat, j < n → f j = nI (g j)) (hi : n ≤ 2 * i + 1) : ∀ j : Nat, j < n → zrv f n i j = nI (zrev g n j) := fun j hj => by
  unfold zrv zrev
  by_cases w : j < n ∧ (j < i ∨ n ≤ j + i)
  · rw [if_pos w]; exact hf _ (by omega)
  · rw [if_neg w, show n - 1 - j = j from by omega]; exact hf j hj
theorem zr_swap {nr i j : Nat} {r : zRow} {post : zRow → Prop} (hn : nr < 2147483648) (hi : i < nr) (hj : j < nr) (k : post (upd (upd r i (r j)) j (r i))) : zw_X3_swap nr r (nI i) (nI j) post := by
  refine And.intro (fun c => absurd c (nI_pos (by omega))) (fun _ => And.intro (fun c => absurd c (nI_ge hi (by omega))) (fun _ => And.intro (fun c => absurd c (nI_pos (by omega))) (fun _ => And.intro (fun _ => ?_) (fun c => absurd (nI_lt hj (by omega)) c))))
  refine And.intro (vp_in_nI hi (by omega)) (fun x ex => And.intro (vp_in_nI hj (by omega)) (And.intro (vp_in_nI hi (by omega)) (fun r9 e9 => And.intro (vp_in_nI hj (by omega)) (fun r11 e11 => ?_))))
  rw [nI_clamp (by omega)] at ex
  rw [nI_clamp (by omega), nI_clamp (by omega)] at e9
  rw [nI_clamp (by omega), ex, e9] at e11
  rw [e11]; exact k
theorem zr_reverse {P : zMem} {s : zStk} {post : zMem → Prop} (h : zCp P s) (hn : s.1 ≤ 6) (k : ∀ P' : zMem, zCp P' (zsR s) → post P') : zw_X3_reverse P post := by
  obtain ⟨p5, pi, p0, p1, p2, p3⟩ := h
  refine zr_swap (i := 0) (j := 1) (by decide) (by decide) (by decide) (zr_swap (i := 0) (j := 1) (by decide) (by decide) (by decide) ?_)
  intro x ex
  have hx : x.toInt = (s.1 : Int) - 1 := by rw [ex, p5]; exact zn_sub (nI_toInt (by omega)) zn_1 (by omega) (by omega)
  have L : ∀ (d i : Nat) (p : Int32) (P1 : zMem), i + d = 3 → p.toInt = (s.1 : Int) - 1 - i → (P1 2 = zrv (P 2) s.1 i ∧ P1 3 = zrv (P 3) s.1 i ∧ P1 4 = zrv (P 4) s.1 i ∧ P1 0 0 = P 0 1 ∧ P1 0 1 = P 0 0 ∧ P1 1 0 = P 1 1 ∧ P1 1 1 = P 1 0 ∧ P1 5 0 = nI s.1) → zw_X3_reverse_27 (fun T => post T) (d + 1) (nI i) p P1 := by
    intro d
    have fin : ∀ (i : Nat) (P1 : zMem), s.1 ≤ 2 * i + 1 → (P1 2 = zrv (P 2) s.1 i ∧ P1 3 = zrv (P 3) s.1 i ∧ P1 4 = zrv (P 4) s.1 i ∧ P1 0 0 = P 0 1 ∧ P1 0 1 = P 0 0 ∧ P1 1 0 = P 1 1 ∧ P1 1 1 = P 1 0 ∧ P1 5 0 = nI s.1) → post P1 := by
      intro i P1 hi ⟨q2, q3, q4, q00, q01, q10, q11, q5⟩
      refine k P1 ⟨q5, fun t ht => ⟨?_, ?_, ?_⟩, ?_, ?_, ?_, ?_⟩
      · rw [q2]; exact zrv_end (fun j hj => (pi j hj).1) hi t ht
      · rw [q3]; exact zrv_end (fun j hj => (pi j hj).2.1) hi t ht
      · rw [q4]; exact zrv_end (fun j hj => (pi j hj).2.2) hi t ht
      · rw [q00]; exact p2
      · rw [q10]; exact p3
      · rw [q01]; exact p0
      · rw [q11]; exact p1
    induction d with
    | zero =>
      intro i p P1 hi hp hP1
      refine And.intro (fun _ => fin i P1 (by omega) hP1) (fun c => absurd (zn_le.mpr (by rw [hp, nI_toInt (by omega)]; omega)) c)
    | succ d ih =>
      intro i p P1 hi hp hP1
      refine And.intro (fun c => ?_) (fun c => ?_)
      · have c1 := zn_le.mp c
        rw [hp, nI_toInt (by omega)] at c1
        exact fin i P1 (by omega) hP1
      · have c1 : ¬ (s.1 : Int) - 1 - i ≤ i := fun q => c (zn_le.mpr (by rw [hp, nI_toInt (by omega)]; exact q))
        have ep : p = nI (s.1 - 1 - i) := zn_ofI (by rw [hp]; omega)
        rw [ep]
        obtain ⟨q2, q3, q4, q00, q01, q10, q11, q5⟩ := hP1
        refine zr_swap (by decide) (by omega) (by omega) (zr_swap (by decide) (by omega) (by omega) (zr_swap (by decide) (by omega) (by omega) ?_))
        intro x1 e1 x2 e2
        rw [e1, nI_1]
        refine ih (i + 1) x2 _ (by omega) ?_ ⟨?_, ?_, ?_, q00, q01, q10, q11, q5⟩
        · rw [e2]
          have := zn_add (nI_toInt (n := s.1 - 1 - i) (by omega)) zn_m1 (by omega) (by omega)
          rw [this]; omega
        · show upd (upd (P1 2) i (P1 2 (s.1 - 1 - i))) (s.1 - 1 - i) (P1 2 i) = _
          rw [q2]; exact zrv_step _ (by omega)
        · show upd (upd (P1 3) i (P1 3 (s.1 - 1 - i))) (s.1 - 1 - i) (P1 3 i) = _
          rw [q3]; exact zrv_step _ (by omega)
        · show upd (upd (P1 4) i (P1 4 (s.1 - 1 - i))) (s.1 - 1 - i) (P1 4 i) = _
          rw [q4]; exact zrv_step _ (by omega)
  refine ⟨_, L 3 0 x _ (by omega) (by rw [hx]; omega) ⟨(zrv_0 _ _).symm, (zrv_0 _ _).symm, (zrv_0 _ _).symm, ?_, ?_, ?_, ?_, p5⟩⟩
  · rfl
  · rfl
  · rfl
  · rfl
theorem zr_likeP {P O : zMem} {s : zStk} {post : zMem → Prop} (h : zCp O s) (hn : s.1 ≤ 6) (k : ∀ P' : zMem, zCp P' s → post P') : zw_X3_becomeLike P O post := by
  obtain ⟨p5, pi, p0, p1, p2, p3⟩ := h
  have cp : ∀ (f g : zRow) (m x : Nat), x < m → va_cpy f g 0 0 m x = f x := fun f g m x hx => by
    unfold va_cpy
    rw [if_pos (by omega)]
    congr 1; omega
  intro r1 e1 r2 e2 r3 e3 r4 e4 r5 e5 y ey
  refine k _ ⟨?_, fun t ht => ⟨?_, ?_, ?_⟩, ?_, ?_, ?_, ?_⟩
  · show y = _
    rw [ey]; exact p5
  · show r3 t = _
    rw [e3, cp _ _ _ _ (by omega)]; exact (pi t ht).1
  · show r4 t = _
    rw [e4, cp _ _ _ _ (by omega)]; exact (pi t ht).2.1
  · show r5 t = _
    rw [e5, cp _ _ _ _ (by omega)]; exact (pi t ht).2.2
  · show r1 0 = _
    rw [e1, cp _ _ _ _ (by decide)]; exact p0
  · show r2 0 = _
    rw [e2, cp _ _ _ _ (by decide)]; exact p1
  · show r1 1 = _
    rw [e1, cp _ _ _ _ (by decide)]; exact p2
  · show r2 1 = _
    rw [e2, cp _ _ _ _ (by decide)]; exact p3
