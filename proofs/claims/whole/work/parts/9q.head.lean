/-! the state at the loop's head -/
def zO0 : zMem := zset (fun _ _ => (0 : Int32)) 13 (fun _ => (1 : Int32))
def zP0 : zMem := zset (zset (fun _ _ => (0 : Int32)) 0 zr11) 1 zr11
def zT0 : zMem := zset (zset (fun _ _ => (0 : Int32)) 9 (fun _ => (1 : Int32))) 10 (fun _ => (1 : Int32))
def zF0 : zMem := (fun _ _ => (0 : Int32))
def zM0 : zMem := zset (zset (zset (zset (zset (fun _ _ => (0 : Int32)) 1 zr11) 2 zr11) 3 zr11) 4 zr11) 10 (fun _ => (1 : Int32))
def zst0 : zStk := (0, fun _ => 0, fun _ => 0, fun _ => 0, 1, 1, 1, 1)
theorem zst0_W : zWs zst0 := ⟨⟨Nat.zero_le _, fun i hi => absurd (show i < 0 from hi) (by omega)⟩, ⟨(by decide : 1 ≤ 1), (by decide : 1 ≤ 9)⟩, ⟨(by decide : 1 ≤ 1), (by decide : 1 ≤ 9)⟩, ⟨(by decide : 1 ≤ 1), (by decide : 1 ≤ 9)⟩, ⟨(by decide : 1 ≤ 1), (by decide : 1 ≤ 9)⟩⟩
theorem zst0_C : zCp zP0 zst0 := ⟨rfl, fun i hi => absurd (show i < 0 from hi) (by omega), rfl, rfl, rfl, rfl⟩
theorem zst0_R {k : Nat} (hk : k < 2) : zRt zM0 k zst0 := by
  rcases Nat.lt_or_ge k 1 with q | q
  · have : k = 0 := by omega
    subst this
    exact ⟨rfl, fun i hi => absurd (show i < 0 from hi) (by omega), rfl, rfl, rfl, rfl⟩
  · have : k = 1 := by omega
    subst this
    exact ⟨rfl, fun i hi => absurd (show i < 0 from hi) (by omega), rfl, rfl, rfl, rfl⟩
theorem zI_0 {N : zMem} (h : zNs N (0, 1, 1, 0, 1)) (h6 : N 6 0 = 0) : zI zO0 zP0 zP0 N zM0 := by
  refine ⟨(zst0, zst0, ((0, 1), (0, fun _ => 0, fun _ => 0), (0, fun _ => 0, fun _ => 0, fun _ => 0, fun _ => 0))), ⟨zst0_W, zst0_W, ⟨(by decide : 1 ≤ 1), (by decide : 1 ≤ 25), (by decide : (0 : Int32).toInt.natAbs ≤ 1)⟩, ⟨Nat.zero_le _, fun j hj => absurd (show j < 0 from hj) (by omega)⟩, ⟨Nat.zero_le _, fun j hj => absurd (show j < 0 from hj) (by omega)⟩⟩, ⟨zst0_C, zst0_C, ⟨rfl, rfl⟩, ⟨rfl, fun j hj => absurd (show j < 0 from hj) (by omega)⟩, h6, h⟩, ⟨zst0_R (by decide), zst0_R (by decide), ⟨rfl, rfl⟩, ⟨rfl, fun j hj => absurd (show j < 0 from hj) (by omega)⟩, ⟨rfl, fun j hj => absurd (show j < 0 from hj) (by omega)⟩, fun _ => 0, fun c hc => ⟨0, by decide, rfl, rfl, fun k hk => absurd hk (by omega), (show zE (0 : Int).natAbs 0 = 0 by decide), Or.inl rfl⟩⟩⟩
theorem zm_perm {p : Program} {l : Launch} {e : Env} {R : Room} {s : State} {m : MethodId} {args : Array Value} {below : List Frame} {meth : Method} {c : Code} {cells slots : Nat} {Q : State → Prop} {G : va_G} {A : Nat → Prop} {nL pc : Nat} {ws w2 : va_W} {lv : List (Nat × Value)} {st0 : List Value} (is : List Nat) (h : is.map (fun i => w2[i]?) = ws.map some) (hcov : zcov is [] w2.length = true) (k : zv_V p l e R s m args below meth c Q G A nL cells slots w2 pc lv st0) : zv_V p l e R s m args below meth c Q G A nL cells slots ws pc lv st0 := fun H locs ls hP hD hS hl => by
  obtain ⟨hP2, hD2⟩ := zv_place (wr := []) (w1 := ws) (w2 := w2) (isC := is) (isR := []) h rfl hcov hP hD
  exact k H locs ls hP2 hD2 hS hl
/-! THE CLAIM OUT OF ONE WALK OF THE LAW'S BODY. Your part is whole_start (and what it stands on); all else here is the same for every law, but numbers. -/
def R_law : String := "GlassStackLaw"
def lw_P (b : Addr) (xs : List Int32) (args : Array Value) (s : State) : Prop := args = #[.ref b] ∧ s.IntsAt b xs ∧ xs.length ≤ 3072 ∧ (Jvm.Cond.and given_1 narrow_1).before args s = true
def lw_Q (_ : Array Value) (s : State) (o : Outcome) (t : State) : Prop := o = .returned (some (.int 1)) ∧ Framed s o t [] 1112 21070
def lw_Z (below : List Frame) (a : Array Value) (s : State) : State → Prop := fun t => ∃ o, t.status = .running ∧ Ended t below o ∧ lw_Q a s o t
/-- the law's own end, with 1 on the stack, nothing written that was there before, its room as the claim has it -/
theorem lw_ret {p : Program} {l : Launch} {e : Env} {s : State} {m : MethodId} {below : List Frame} {meth : Method} {c : Code} {b : Nat} (hx : p.tables.exec = Jvm.exec) (hb : c.code = code) (hr : meth.sig.returnType = ret) (hlocks : meth.locks = false) {pc : Nat} {H : Heap} {ls : Array Slot} (hdg : decode code pc = .ok (.ireturn, 1)) : W p l e room_1 s m #[Value.ref b] below meth c H [] 1112 21070 (lw_Z below #[Value.ref b] s) (F0 m pc ls [.int 1]) := by
  intro T hT X
  obtain ⟨fs, hret, hrun, hended, hW, hframe⟩ := X.leave (v := some (.int 1)) (hlocks := hlocks) (fun h => by rw [hr] at h; cases h)
  have hmeth' : T.vm.method? m = some meth := X.method'
  refine ⟨T.setFrames fs, ?_, .returned (some (.int 1)), hrun, hended, rfl, ⟨_, rfl⟩, hW, hframe⟩
  jvm_step X.here [X.here.top, hx, hb, hdg, hmeth', hr, ret, narrow_b1]
  (try refine ⟨rfl, ?_⟩); (try refine ⟨rfl, ?_⟩)
  first | (intro acts; rw [hret _ acts rfl rfl rfl]) | rw [hret _ _ rfl rfl rfl]
  exact Steps.refl _
/-- what holds at the law's entry: the machine, the code, the tables' words (any of lw_tbl by 'hts w (by decide +kernel)'), the script of L ints xs at the cell b, what the Statement gives of the start (any of its parts by flat_of_before) -/
def lw_At (p : Program) (s : State) (m : MethodId) (meth : Method) (c : Code) (b L : Nat) (xs : Nat → Int32) : Prop :=
  p.tables.exec = Jvm.exec ∧ c.code = code ∧ meth.sig.returnType = ret ∧ c.maxLocals = 7 ∧ s.vm.findClass R_law = some m.cls ∧ (∀ w ∈ lw_tbl, w.before #[Value.ref b] s = true) ∧ va_X b L xs s s.heap ∧ b < s.heap.size ∧ meth.locks = false ∧ (Jvm.Cond.and given_1 narrow_1).before #[Value.ref b] s = true
/-- from the entry to the loop's head -/
theorem zs_head {p : Program} {l : Launch} {e : Env} {s : State} {m : MethodId} {args : Array Value} {below : List Frame} {meth : Method} {c : Code} {Q : State → Prop} {G : va_G} {cI : ClassId} {A : Nat → Prop} {b : Nat} (C : zv_C p s m args c cL_law 7 RL lw_tbl G cI A) (hiB : zi_B cI s)
    (k : ∀ (q q2 q3 : Nat) (u : zMem × (Nat → Nat)) (u2 : Nat → Nat) (cL : ClassId), va_K G vwCl [(cL, .long)] s → zNs u.1 (0, 1, 1, 0, 1) → u.1 6 0 = 0 → zv_V p l e room_1 s m args below meth c Q G A 7 73 12788 (zd_L_law cI cL q (u.2 18) (u.2 19) (u.2 20) (u.2 21) (u.2 0) (u.2 1) (u.2 2) (u.2 3) (u.2 4) (u.2 5) (u.2 6) (u.2 7) (u.2 8) (u.2 9) (u.2 10) (u.2 11) (u.2 12) (u.2 13) (u.2 14) (u.2 15) (u.2 16) (u.2 17) (u.2 22) (u.2 23) (u.2 24) (u.2 25) (u.2 26) (u.2 27) (u.2 28) (u.2 29) (u.2 30) (u.2 31) (u.2 32) (u.2 33) (u.2 34) (u.2 35) (u.2 36) (u.2 37) (u.2 38) (u.2 39) (u.2 40) (u.2 41) (u.2 42) (u.2 43) (u.2 44) (u.2 45) (u.2 46) (u.2 47) (u.2 48) (u.2 49) (u.2 50) (u.2 51) (u.2 52) q2 (u2 0) (u2 1) (u2 2) (u2 3) (u2 4) (u2 5) (u2 6) (u2 7) (u2 8) (u2 9) (u2 10) (u2 11) (u2 12) (u2 13) (u2 14) (u2 15) (u2 16) q3 zO0 zP0 zP0 zP0 u.1 zT0 zF0 zF0 zF0 zM0 (fun _ => (0 : Int64))) 23 [(4, .int (0 : Int32)), (3, .ref q3), (2, .ref q2), (1, .ref q), (0, .ref b)] []) : zv_V p l e room_1 s m args below meth c Q G A 7 0 0 [] 0 [(0, .ref b)] [] := by
  have hts := C.2.2.2.2.1
  refine zi_new (pc := 0) (CC := RX5) (T := TX5) (N := 15) (ci := 4) (fs := [.null, .null, .null, .null, .null, .null, .null, .null, .null, .null, .null, .null, .int 0, .int 0, .int 0]) C (fun w h => (lwt_wsX50 w h).1) tyX5 tyX5_ok (show Cond.classLink RL 8 RX5 ∈ lw_tbl by decide +kernel) (show Cond.instantiable RX5 15 ∈ lw_tbl by decide +kernel) (show Cond.initialized RX5 ∈ lw_tbl by decide +kernel) rfl (by decide) (Nat.le_of_ble_eq_true rfl) (Nat.le_of_ble_eq_true rfl) dL_law_0 (fun q => ?_)
  refine zv_dup (pc := 3) C rfl dL_law_3 ?_
  refine zi_cv (pc := 4) (ws' := (fun u : zMem × (Nat → Nat) => zdi_X5 cI q u)) C (zi_runI (As := []) (b := q) (rest := [.ref q]) C hiB (zc_X5_init l G cI q (fun N => zNs N (0, 1, 1, 0, 1) ∧ N 6 0 = 0) (zr_setNothing (fun N h h6 => ⟨h, by rw [h6]⟩))) ⟨callB_of 0 hts lwg_wsX5_init rfl rfl rfl (hts (Cond.initialized RX5) (by decide +kernel)) (hts (Cond.methodLink RL 77 yX5_init) (by decide +kernel)) zyi_X5 ⟨(Nat.le_of_ble_eq_true rfl), (Nat.le_of_ble_eq_true rfl)⟩, rfl, hts (Cond.instanceMethod yX5_init) (by decide +kernel)⟩ rfl rfl (Nat.le_of_ble_eq_true rfl) ⟨(Nat.le_of_ble_eq_true rfl), (Nat.le_of_ble_eq_true rfl)⟩ dL_law_4) [0] [] rfl rfl rfl rfl rfl (fun _ => rfl) (fun u hu => ?_)
  refine zv_astore_n (pc := 7) (lv' := [(1, .ref q), (0, .ref b)]) C rfl (by decide) rfl dL_law_7 ?_
  refine zi_new (pc := 8) (CC := RX6) (T := TX6) (N := 22) (ci := 5) (fs := [.int 0, .null, .null, .null, .null, .null, .null, .null, .null, .int 0, .int 0, .int 0, .null, .null, .int 0, .null, .null, .null, .null, .null, .null, .null]) C (fun w h => (lwt_wsX60 w h).1) tyX6 tyX6_ok (show Cond.classLink RL 78 RX6 ∈ lw_tbl by decide +kernel) (show Cond.instantiable RX6 22 ∈ lw_tbl by decide +kernel) (show Cond.initialized RX6 ∈ lw_tbl by decide +kernel) rfl (by decide) (Nat.le_of_ble_eq_true rfl) (Nat.le_of_ble_eq_true rfl) dL_law_8 (fun q2 => ?_)
  refine zv_dup (pc := 11) C rfl dL_law_11 ?_
  refine zi_cv (pc := 12) (ws' := (fun u2 : Nat → Nat => zdi_X5 cI q u ++ zdi_X6 cI q2 u2)) C (zi_runI (As := []) (b := q2) (rest := [.ref q2]) C hiB (zc_X6_init l G cI q2) ⟨callB_of 0 hts lwg_wsX6_init rfl rfl rfl (hts (Cond.initialized RX6) (by decide +kernel)) (hts (Cond.methodLink RL 80 yX6_init) (by decide +kernel)) zyi_X6 ⟨(Nat.le_of_ble_eq_true rfl), (Nat.le_of_ble_eq_true rfl)⟩, rfl, hts (Cond.instanceMethod yX6_init) (by decide +kernel)⟩ rfl rfl (Nat.le_of_ble_eq_true rfl) ⟨(Nat.le_of_ble_eq_true rfl), (Nat.le_of_ble_eq_true rfl)⟩ dL_law_12) [54] [0, 1, 2, 3, 4, 5, 6, 7, 8, 9, 10, 11, 12, 13, 14, 15, 16, 17, 18, 19, 20, 21, 22, 23, 24, 25, 26, 27, 28, 29, 30, 31, 32, 33, 34, 35, 36, 37, 38, 39, 40, 41, 42, 43, 44, 45, 46, 47, 48, 49, 50, 51, 52, 53] rfl rfl rfl rfl rfl (fun _ => rfl) (fun u2 _ => ?_)
  refine zv_astore_n (pc := 15) (lv' := [(2, .ref q2), (1, .ref q), (0, .ref b)]) C rfl (by decide) rfl dL_law_15 ?_
  refine zv_iconst (pc := 16) (v := 1) C (by decide) dL_law_16 ?_
  refine zm_newl (pc := 17) (N' := 1) C (by decide +kernel) (by decide) rfl (by decide) (Nat.le_of_ble_eq_true rfl) (Nat.le_of_ble_eq_true rfl) dL_law_17 (fun q3 cL hKL => ?_)
  refine zv_astore_n (pc := 19) (lv' := [(3, .ref q3), (2, .ref q2), (1, .ref q), (0, .ref b)]) C rfl (by decide) rfl dL_law_19 ?_
  refine zv_iconst (pc := 20) (v := 0) C (by decide) dL_law_20 ?_
  refine zv_istore (pc := 21) (lv' := [(4, .int (0 : Int32)), (3, .ref q3), (2, .ref q2), (1, .ref q), (0, .ref b)]) C (by decide) rfl dL_law_21 ?_
  exact zm_perm [0, 5, 6, 7, 8, 9, 10, 11, 12, 13, 14, 15, 16, 17, 18, 19, 20, 21, 22, 1, 2, 3, 4, 23, 24, 25, 26, 27, 28, 29, 30, 31, 32, 33, 34, 35, 36, 37, 38, 39, 40, 41, 42, 43, 44, 45, 46, 47, 48, 49, 50, 51, 52, 53, 54, 55, 56, 57, 58, 59, 60, 61, 62, 63, 64, 65, 66, 67, 68, 69, 70, 71, 72] rfl rfl (k q q2 q3 u u2 cL hKL hu.1 hu.2)
