/-! methods that throw -/
section ZXB
variable {p : Program} {l : Launch} {e : Env} {R : Room} {s : State} {m : MethodId} {args : Array Value} {below : List Frame} {meth : Method} {c : Code} {cells slots : Nat} {Q : State → Prop}
variable {G : va_G} {cI : ClassId} {A : Nat → Prop} {cc : ByteArray} {nL : Nat} {own : String} {Ts : List Cond}
variable {pc : Nat} {ws : va_W} {lv : List (Nat × Value)} {rest st0 : List Value}
/-- the texts of the throws, by their places -/
def zx_sx : List (Nat × String) := [(226, "no such stack"), (78, "an edge is 0, the air, or 1, the ground"), (229, "an index is 1 to 9 by 1 to 9"), (91, "a width is 1 to 4"), (96, "no such place"), (104, "no such layer"), (115, "no such layer, or nothing such about it"), (231, "a cosine's lower part is 1 to 25"), (130, "a cosine is -1 to 1"), (233, "a part is 0 to 39"), (235, "an entry is 0 to 3"), (192, "0 to 3 layers can be chosen"), (208, "a share is 0 to 100 by 1 to 100"), (210, "a pane sends back and on at most all"), (219, "a share of the panes is 0 to 3")]
/-- words of the throws that are not among those that a method's list may hold -/
def zx_bw : List Cond := [.castable "java/lang/IllegalArgumentException" "java/lang/IllegalArgumentException", .castable "java/lang/IndexOutOfBoundsException" "java/lang/IndexOutOfBoundsException", .castable "java/util/NoSuchElementException" "java/util/NoSuchElementException", .declares (Bundle.initS "java/lang/RuntimeException"), .declares (Bundle.initS "java/lang/Exception"), .declares (Bundle.initS Bundle.tN)]
/-- what a throw needs of the state: two statics, the texts, those words -/
def zx_B (A : Nat → Prop) (U : State) : Prop :=
  vx_Zq Bundle.tN "UNASSIGNED_STACK" Bundle.steD A U U.heap ∧ vx_Zq Bundle.tN "SUPPRESSED_SENTINEL" Bundle.listD A U U.heap ∧ (∀ q ∈ zx_sx, ∃ sa : Nat, vk_R RX5 q.1 q.2 sa U) ∧ ∀ w ∈ zx_bw, va_Nw w U
theorem zx_bw_on : ∀ w ∈ zx_bw, w.onTables = true := by decide +kernel
theorem zx_bw_warm {s U : State} (hW : s.WarmedH U.vm) (h : ∀ w ∈ zx_bw, va_Nw w s) : ∀ w ∈ zx_bw, va_Nw w U := by
  intro w hw
  have h1 := h w hw
  simp only [zx_bw, List.mem_cons, List.not_mem_nil, or_false] at hw
  rcases hw with rfl | rfl | rfl | rfl | rfl | rfl
  · exact va_Nw.warmC hW h1
  · exact va_Nw.warmC hW h1
  · exact va_Nw.warmC hW h1
  · exact va_Nw.warmD hW h1
  · exact va_Nw.warmD hW h1
  · exact va_Nw.warmD hW h1
theorem zx_B.calling {U : State} {g : JFrame} {mk : MethodId} {a : Array Value} (h : zx_B A U) : zx_B A (U.calling g mk a) :=
  ⟨vx_Zq.moved (u := U) (U := U.calling g mk a) (Vm.Alike.refl U.vm) h.1, vx_Zq.moved (u := U) (U := U.calling g mk a) (Vm.Alike.refl U.vm) h.2.1, fun q hq => (h.2.2.1 q hq).imp fun _ h => vk_R.same (u := U) (U := U.calling g mk a) rfl h, fun w hw => va_Nw.same (zx_bw_on w hw) (u := U) (U := U.calling g mk a) rfl (h.2.2.2 w hw)⟩
theorem zx_B.pass {A1 : Nat → Prop} {H : Heap} {locs : List Loc} {U : State} (h : zx_B A s) (hS : va_S A s.heap H locs) (hA : ∀ q, A1 q → A q) (hU : U.heap = H) (hW : s.WarmedH U.vm) : zx_B A1 U := by
  subst hU
  exact ⟨((h.1.kept hS.2.1).moved hW.alike).narrow hA, ((h.2.1.kept hS.2.1).moved hW.alike).narrow hA, fun q hq => (h.2.2.1 q hq).imp fun _ h => vk_R.warm hW h, zx_bw_warm hW h.2.2.2⟩
def zx_in (G : va_G) (cI : ClassId) (ws : va_W) (sz : Nat) : State → Prop := fun U => zv_in G cI ws sz U ∧ zx_B (va_A ws sz) U
theorem zx_blind {av : List Value} {ws : va_W} {sz : Nat} : FrameBlind (va_Pc av (zx_in G cI ws sz)) := fun a U g mk q => by
  obtain ⟨q0, ⟨q1, qP, qK, qD⟩, qB⟩ := q
  exact ⟨q0, ⟨q1, qP, va_K.moved (u := U) (U := U.calling g mk a) (Vm.Alike.refl U.vm) qK, qD⟩, qB.calling⟩
/-- the end of a throw that leaves the world as it was -/
def zx_X (G : va_G) (cI : ClassId) (A : Nat → Prop) (ws : va_W) (PX : String → Prop) : String → State → State → Prop := fun E st t => PX E ∧ zv_out G cI A ws t ∧ va_F A st t
theorem zx_met {y : MethodName} {wsM ws0 : List Cond} {rm : Room} {av : List Value} {wc : va_W} {lv0 : List (Nat × Value)} {Qc : (Nat → Prop) → Array Value → State → Outcome → State → Prop} {XC : (Nat → Prop) → String → State → State → Prop} {mc ms : Nat} {maxL : Nat} {ret : Option FieldType}
    (hy : plainName y.cls = true) (hw : wsM = Cond.code y cc maxL ret :: ws0) (hlen : (lg_sl av).length ≤ maxL) (hlv : lv_args 0 av = lv0)
    (body : ∀ (p : Program) (e : Env) (s : State) (m : MethodId) (below : List Frame) (meth : Method) (c : Code) (A : Nat → Prop), zv_C p s m av.toArray c cc maxL y.cls wsM G cI A → zx_B A s → (∀ x ∈ c.exceptionTable.toList, False) → meth.sig.returnType = ret → meth.locks = false →
      zv_V p l e (headSpec wsM rm).room s m av.toArray below meth c (vx_MQ below (Qc A) (XC A) av.toArray s mc ms A) G A maxL 0 0 wc 0 lv0 []) (sz : Nat) :
    vx_Met l y wsM rm (va_Pc av (zx_in G cI wc sz)) (Qc (va_A wc sz)) (XC (va_A wc sz)) mc ms (va_A wc sz) := by
  refine vx_ofW (cc := cc) (maxL := maxL) (ret := ret) hy hw ?_
  intro p e s m args below meth c s₁ B hml hT hv
  obtain ⟨rfl, ⟨hsz, hP, hK, hD0⟩, hB⟩ := hv
  subst hsz
  have hts := atoms_spec (ws := wsM) B.pre
  have hown : s.vm.findClass y.cls = some m.cls := findClass_of_methodNamed B.named
  have hD := hD0.self (sz := s.heap.size)
  rw [lg_entry_eq]
  have hl := lv_entry av (n := maxL) hlen
  exact body p e s m below meth c (va_A wc s.heap.size) ⟨B.exec, B.bytes, hml, hown, hts, hK, fun q h => Or.inr h⟩ hB hT B.returns B.notSynchronized s.heap [] _ hP hD va_S.rf (hlv ▸ hl)
theorem zx_ret {Qc : Array Value → State → Outcome → State → Prop} {XC : String → State → State → Prop} {mc ms : Nat} (hc : cells ≤ mc) (hs : slots ≤ ms) (k : zv_V p l e R s m args below meth c (MQ below Qc args s mc ms A) G A nL mc ms ws pc lv st0) :
    zv_V p l e R s m args below meth c (vx_MQ below Qc XC args s mc ms A) G A nL cells slots ws pc lv st0 := fun H locs ls hP hD hS hl => W.widen hc hs (vx_ret (k H locs ls hP hD hS hl))
theorem zx_out (C : zv_C p s m args c cc nL own Ts G cI A) {ws0 : va_W} {PX : String → Prop} {H : Heap} {locs : List Loc} (hP : va_P G vwCl ws H) (hD : va_D A ws) (hS : va_S A s.heap H locs) (hw : ws = ws0) {E : String} (hE : PX E) :
    ∀ t : State, s.vm.Alike t.vm → H.size ≤ t.heap.size → (∀ q : Nat, q < H.size → t.heap[q]? = H[q]?) → zx_X G cI A ws0 PX E s t := by
  subst hw
  intro t hvm hz hk
  refine ⟨hE, ⟨hP.kept fun k x hx => hk x.1 (hP k x hx).lt, va_K.moved hvm C.2.2.2.2.2.1, hD⟩, Nat.le_trans hS.1 hz, fun q h1 h2 => ?_⟩
  rw [hk q (Nat.lt_of_lt_of_le h1 hS.1)]
  exact hS.2.1 q h1 h2
theorem zx_hat {own : String} {ic : Nat} {cls : String} {names : List String} (hts : ∀ w ∈ Ts, w.before args s = true) (hB : zx_B A s) (hg : ∀ w ∈ (vx_atS own ic cls names).filter goodWord, w ∈ Ts) (hb : ∀ w ∈ (vx_atS own ic cls names).filter (fun w => !goodWord w), w ∈ zx_bw) : ∀ w ∈ vx_atS own ic cls names, w.before args s = true :=
  vx_hat (B := zx_bw) (fun w h => hts w (hg w h)) hb (fun w h => va_Nw.use (zx_bw_on w h) (hB.2.2.2 w h))
theorem zx_throw (C : zv_C p s m args c cc nL own Ts G cI A) (hB : zx_B A s) (hT : ∀ x ∈ c.exceptionTable.toList, False) (hlt : l.stackTraces = false) (hlk : meth.locks = false) {cls text : String} {ik is ic mc ms : Nat} {Qc : Array Value → State → Outcome → State → Prop} {ws0 : va_W} {PX : String → Prop} (hown5 : own = RX5)
    (hcls : Bundle.fit cls = true) (hs : (is, text) ∈ zx_sx) (hk : Cond.classLink own ik cls ∈ Ts) (hini : Cond.initialized cls ∈ Ts) (hg : ∀ w ∈ (vx_atS own ic cls ["java/lang/RuntimeException", "java/lang/Exception"]).filter goodWord, w ∈ Ts) (hb : ∀ w ∈ (vx_atS own ic cls ["java/lang/RuntimeException", "java/lang/Exception"]).filter (fun w => !goodWord w), w ∈ zx_bw)
    (hgood : ∀ w ∈ Cond.classLink own ik cls :: Cond.initialized cls :: vx_atS own ic cls ["java/lang/RuntimeException", "java/lang/Exception"], vx_ot w = true)
    (d0 : decode cc pc = .ok (.new ik, 3)) (d3 : decode cc (pc + 3) = .ok (.dup, 1)) (d4 : decode cc (pc + 4) = .ok (.ldc is, 2)) (d6 : decode cc (pc + 6) = .ok (.invokespecial ic, 3)) (d9 : decode cc (pc + 9) = .ok (.athrow, 1))
    (hRframes : 5 < R.frames) (hRlocals : (rest.map fun v => v.category).sum + 82 ≤ R.locals) (hRcells : cells + 1 ≤ R.cells) (hRslots : slots + 6 ≤ R.slots) (hc : cells + 1 ≤ mc) (hsl : slots + 6 ≤ ms) (hw : ws = ws0) (hE : PX cls) :
    zv_V p l e R s m args below meth c (vx_MQ below Qc (zx_X G cI A ws0 PX) args s mc ms A) G A nL cells slots ws pc lv rest := by
  intro H locs ls hP hD hS hl
  obtain ⟨sa, hsa⟩ := hB.2.2.1 _ hs
  subst hown5
  exact vx_throwS C.1 C.2.1 hlt (names := ["java/lang/RuntimeException", "java/lang/Exception"]) C.2.2.2.1 hcls (by decide +kernel) (C.2.2.2.2.1 _ hk) (C.2.2.2.2.1 _ hini) hsa (zx_hat C.2.2.2.2.1 hB hg hb) hgood hB.1 hB.2.1 hS (hl.1.trans C.2.2.1.symm) d0 d3 d4 d6 d9 (fun x hx => (hT x hx).elim) hRframes hRlocals hRcells hRslots hlk (zx_out C hP hD hS hw hE) hS.2.2 hc hsl
theorem zx_throwW (C : zv_C p s m args c cc nL own Ts G cI A) (hB : zx_B A s) (hT : ∀ x ∈ c.exceptionTable.toList, False) (hlt : l.stackTraces = false) (hlk : meth.locks = false) {cls text : String} {ik is ic mc ms : Nat} {Qc : Array Value → State → Outcome → State → Prop} {ws0 : va_W} {PX : String → Prop} (hown5 : own = RX5)
    (hcls : Bundle.fit cls = true) (hs : (is, text) ∈ zx_sx) (hk : Cond.classLink own ik cls ∈ Ts) (hini : Cond.initialized cls ∈ Ts) (hg : ∀ w ∈ (vx_atS own ic cls ["java/lang/RuntimeException", "java/lang/Exception"]).filter goodWord, w ∈ Ts) (hb : ∀ w ∈ (vx_atS own ic cls ["java/lang/RuntimeException", "java/lang/Exception"]).filter (fun w => !goodWord w), w ∈ zx_bw)
    (hgood : ∀ w ∈ Cond.classLink own ik cls :: Cond.initialized cls :: vx_atS own ic cls ["java/lang/RuntimeException", "java/lang/Exception"], vx_ot w = true)
    (d0 : decode cc pc = .ok (.new ik, 3)) (d3 : decode cc (pc + 3) = .ok (.dup, 1)) (d4 : decode cc (pc + 4) = .ok (.ldc_w is, 3)) (d6 : decode cc (pc + 7) = .ok (.invokespecial ic, 3)) (d9 : decode cc (pc + 10) = .ok (.athrow, 1))
    (hRframes : 5 < R.frames) (hRlocals : (rest.map fun v => v.category).sum + 82 ≤ R.locals) (hRcells : cells + 1 ≤ R.cells) (hRslots : slots + 6 ≤ R.slots) (hc : cells + 1 ≤ mc) (hsl : slots + 6 ≤ ms) (hw : ws = ws0) (hE : PX cls) :
    zv_V p l e R s m args below meth c (vx_MQ below Qc (zx_X G cI A ws0 PX) args s mc ms A) G A nL cells slots ws pc lv rest := by
  intro H locs ls hP hD hS hl
  obtain ⟨sa, hsa⟩ := hB.2.2.1 _ hs
  subst hown5
  exact vx_throwSW C.1 C.2.1 hlt (names := ["java/lang/RuntimeException", "java/lang/Exception"]) C.2.2.2.1 hcls (by decide +kernel) (C.2.2.2.2.1 _ hk) (C.2.2.2.2.1 _ hini) hsa (zx_hat C.2.2.2.2.1 hB hg hb) hgood hB.1 hB.2.1 hS (hl.1.trans C.2.2.1.symm) d0 d3 d4 d6 d9 (fun x hx => (hT x hx).elim) hRframes hRlocals hRcells hRslots hlk (zx_out C hP hD hS hw hE) hS.2.2 hc hsl
/-- a check: it writes nothing, so the heap stays that of its start -/
def zu_V (p : Program) (l : Launch) (e : Env) (R : Room) (s : State) (m : MethodId) (args : Array Value) (below : List Frame) (meth : Method) (c : Code) (Q : State → Prop) (nL : Nat) (pc : Nat) (lv : List (Nat × Value)) (st : List Value) : Prop :=
  ∀ ls : Array Slot, lv_has ls nL lv → W p l e R s m args below meth c s.heap [] 0 0 Q (F0 m pc ls st)
def zu_Qn (P : Prop) : Array Value → State → Outcome → State → Prop := fun _ st o t => o = .returned none ∧ P ∧ t.heap = st.heap
def zu_Qr (sel : Nat → Nat) (post : Nat → Prop) : Array Value → State → Outcome → State → Prop := fun _ st o t => ∃ u : Nat, o = .returned (some (.ref (sel u))) ∧ post u ∧ t.heap = st.heap
def zu_X (PX : String → Prop) : String → State → State → Prop := fun E st t => PX E ∧ st.heap.size ≤ t.heap.size ∧ ∀ q : Nat, q < st.heap.size → t.heap[q]? = st.heap[q]?
def zu_in (G : va_G) (cI : ClassId) (ws : va_W) (sz : Nat) : State → Prop := fun U => U.heap.size = sz ∧ va_P G vwCl ws U.heap ∧ va_K G vwCl [(cI, .int)] U ∧ zx_B (fun q => sz ≤ q) U
theorem zu_blind {av : List Value} {ws : va_W} {sz : Nat} : FrameBlind (va_Pc av (zu_in G cI ws sz)) := fun a U g mk q => by
  obtain ⟨q0, q1, qP, qK, qB⟩ := q
  exact ⟨q0, q1, qP, va_K.moved (u := U) (U := U.calling g mk a) (Vm.Alike.refl U.vm) qK, qB.calling⟩
theorem zu_met {y : MethodName} {wsM ws0 : List Cond} {rm : Room} {av : List Value} {wc : va_W} {lv0 : List (Nat × Value)} {Qc : Array Value → State → Outcome → State → Prop} {XC : String → State → State → Prop} {maxL : Nat} {ret : Option FieldType}
    (hy : plainName y.cls = true) (hw : wsM = Cond.code y cc maxL ret :: ws0) (hlen : (lg_sl av).length ≤ maxL) (hlv : lv_args 0 av = lv0)
    (body : ∀ (p : Program) (e : Env) (s : State) (m : MethodId) (below : List Frame) (meth : Method) (c : Code), zv_C p s m av.toArray c cc maxL y.cls wsM G cI (fun q => s.heap.size ≤ q) → va_P G vwCl wc s.heap → zx_B (fun q => s.heap.size ≤ q) s → (∀ x ∈ c.exceptionTable.toList, False) → meth.sig.returnType = ret → meth.locks = false →
      zu_V p l e (headSpec wsM rm).room s m av.toArray below meth c (vx_MQ below Qc XC av.toArray s 1 6 (fun _ => False)) maxL 0 lv0 []) (sz : Nat) :
    vx_Met l y wsM rm (va_Pc av (zu_in G cI wc sz)) Qc XC 1 6 (fun _ => False) := by
  refine vx_ofW (cc := cc) (maxL := maxL) (ret := ret) hy hw ?_
  intro p e s m args below meth c s₁ B hml hT hv
  obtain ⟨rfl, hsz, hP, hK, hB⟩ := hv
  subst hsz
  have hts := atoms_spec (ws := wsM) B.pre
  have hown : s.vm.findClass y.cls = some m.cls := findClass_of_methodNamed B.named
  rw [lg_entry_eq]
  have hl := lv_entry av (n := maxL) hlen
  exact body p e s m below meth c ⟨B.exec, B.bytes, hml, hown, hts, hK, fun q h => h⟩ hP hB hT B.returns B.notSynchronized _ (hlv ▸ hl)
theorem zu_iconst (C : zv_C p s m args c cc nL own Ts G cI A) {n : Int} {v : Int32} (hv : Int32.ofInt n = v) (hd : decode cc pc = .ok (.iconst n, 1)) (k : zu_V p l e R s m args below meth c Q nL (pc + 1) lv (.int v :: rest)) : zu_V p l e R s m args below meth c Q nL pc lv rest := fun ls hl => lv_iconst C.1 C.2.1 hd hv (k ls hl)
theorem zu_bipush (C : zv_C p s m args c cc nL own Ts G cI A) {n : Int} {v : Int32} (hv : (Int8.ofInt n).toInt32 = v) (hd : decode cc pc = .ok (.bipush n, 2)) (k : zu_V p l e R s m args below meth c Q nL (pc + 2) lv (.int v :: rest)) : zu_V p l e R s m args below meth c Q nL pc lv rest := fun ls hl => lv_bipush C.1 C.2.1 hd hv (k ls hl)
theorem zu_iload_n (C : zv_C p s m args c cc nL own Ts G cI A) {f : Fin 4} {i : Nat} {x : Int32} (hi : (f : Nat) = i) (j : Nat) (hj : lv[j]? = some (i, .int x)) (hd : decode cc pc = .ok (.iload_n f, 1)) (k : zu_V p l e R s m args below meth c Q nL (pc + 1) lv (.int x :: rest)) : zu_V p l e R s m args below meth c Q nL pc lv rest := fun ls hl => lv_iload_n C.1 C.2.1 hd hi (lv_at hl j hj) (k ls hl)
theorem zu_aload_n (C : zv_C p s m args c cc nL own Ts G cI A) {f : Fin 4} {i : Nat} {x : Nat} (hi : (f : Nat) = i) (j : Nat) (hj : lv[j]? = some (i, .ref x)) (hd : decode cc pc = .ok (.aload_n f, 1)) (k : zu_V p l e R s m args below meth c Q nL (pc + 1) lv (.ref x :: rest)) : zu_V p l e R s m args below meth c Q nL pc lv rest := fun ls hl => lv_aload_n C.1 C.2.1 hd hi (lv_at hl j hj) (k ls hl)
theorem zu_goto (C : zv_C p s m args c cc nL own Ts G cI A) {off : Int} {tgt : Nat} (hd : decode cc pc = .ok (.goto off, 3)) (ht : (pc : Int) + off = (tgt : Int)) (k : zu_V p l e R s m args below meth c Q nL tgt lv rest) : zu_V p l e R s m args below meth c Q nL pc lv rest := fun ls hl => lv_goto C.1 C.2.1 hd ht (k ls hl)
theorem zu_if_eq (C : zv_C p s m args c cc nL own Ts G cI A) {x : Int32} {off : Int} {tgt : Nat} (hd : decode cc pc = .ok (.ifCond .eq off, 3)) (ht : (pc : Int) + off = (tgt : Int)) (kt : x = 0 → zu_V p l e R s m args below meth c Q nL tgt lv rest) (kf : ¬ x = 0 → zu_V p l e R s m args below meth c Q nL (pc + 3) lv rest) : zu_V p l e R s m args below meth c Q nL pc lv (.int x :: rest) := fun ls hl => lv_if_eq C.1 C.2.1 hd ht (fun h => kt h ls hl) (fun h => kf h ls hl)
theorem zu_icmp_eq (C : zv_C p s m args c cc nL own Ts G cI A) {x y : Int32} {off : Int} {tgt : Nat} (hd : decode cc pc = .ok (.if_icmp .eq off, 3)) (ht : (pc : Int) + off = (tgt : Int)) (kt : x = y → zu_V p l e R s m args below meth c Q nL tgt lv rest) (kf : ¬ x = y → zu_V p l e R s m args below meth c Q nL (pc + 3) lv rest) : zu_V p l e R s m args below meth c Q nL pc lv (.int y :: .int x :: rest) := fun ls hl => lv_icmp_eq C.1 C.2.1 hd ht (fun h => kt h ls hl) (fun h => kf h ls hl)
theorem zu_if_ne (C : zv_C p s m args c cc nL own Ts G cI A) {x : Int32} {off : Int} {tgt : Nat} (hd : decode cc pc = .ok (.ifCond .ne off, 3)) (ht : (pc : Int) + off = (tgt : Int)) (kt : ¬ x = 0 → zu_V p l e R s m args below meth c Q nL tgt lv rest) (kf : x = 0 → zu_V p l e R s m args below meth c Q nL (pc + 3) lv rest) : zu_V p l e R s m args below meth c Q nL pc lv (.int x :: rest) := fun ls hl => lv_if_ne C.1 C.2.1 hd ht (fun h => kt h ls hl) (fun h => kf h ls hl)
theorem zu_icmp_ne (C : zv_C p s m args c cc nL own Ts G cI A) {x y : Int32} {off : Int} {tgt : Nat} (hd : decode cc pc = .ok (.if_icmp .ne off, 3)) (ht : (pc : Int) + off = (tgt : Int)) (kt : ¬ x = y → zu_V p l e R s m args below meth c Q nL tgt lv rest) (kf : x = y → zu_V p l e R s m args below meth c Q nL (pc + 3) lv rest) : zu_V p l e R s m args below meth c Q nL pc lv (.int y :: .int x :: rest) := fun ls hl => lv_icmp_ne C.1 C.2.1 hd ht (fun h => kt h ls hl) (fun h => kf h ls hl)
theorem zu_if_lt (C : zv_C p s m args c cc nL own Ts G cI A) {x : Int32} {off : Int} {tgt : Nat} (hd : decode cc pc = .ok (.ifCond .lt off, 3)) (ht : (pc : Int) + off = (tgt : Int)) (kt : x < 0 → zu_V p l e R s m args below meth c Q nL tgt lv rest) (kf : ¬ x < 0 → zu_V p l e R s m args below meth c Q nL (pc + 3) lv rest) : zu_V p l e R s m args below meth c Q nL pc lv (.int x :: rest) := fun ls hl => lv_if_lt C.1 C.2.1 hd ht (fun h => kt h ls hl) (fun h => kf h ls hl)
theorem zu_icmp_lt (C : zv_C p s m args c cc nL own Ts G cI A) {x y : Int32} {off : Int} {tgt : Nat} (hd : decode cc pc = .ok (.if_icmp .lt off, 3)) (ht : (pc : Int) + off = (tgt : Int)) (kt : x < y → zu_V p l e R s m args below meth c Q nL tgt lv rest) (kf : ¬ x < y → zu_V p l e R s m args below meth c Q nL (pc + 3) lv rest) : zu_V p l e R s m args below meth c Q nL pc lv (.int y :: .int x :: rest) := fun ls hl => lv_icmp_lt C.1 C.2.1 hd ht (fun h => kt h ls hl) (fun h => kf h ls hl)
theorem zu_if_ge (C : zv_C p s m args c cc nL own Ts G cI A) {x : Int32} {off : Int} {tgt : Nat} (hd : decode cc pc = .ok (.ifCond .ge off, 3)) (ht : (pc : Int) + off = (tgt : Int)) (kt : 0 ≤ x → zu_V p l e R s m args below meth c Q nL tgt lv rest) (kf : ¬ 0 ≤ x → zu_V p l e R s m args below meth c Q nL (pc + 3) lv rest) : zu_V p l e R s m args below meth c Q nL pc lv (.int x :: rest) := fun ls hl => lv_if_ge C.1 C.2.1 hd ht (fun h => kt h ls hl) (fun h => kf h ls hl)
theorem zu_icmp_ge (C : zv_C p s m args c cc nL own Ts G cI A) {x y : Int32} {off : Int} {tgt : Nat} (hd : decode cc pc = .ok (.if_icmp .ge off, 3)) (ht : (pc : Int) + off = (tgt : Int)) (kt : y ≤ x → zu_V p l e R s m args below meth c Q nL tgt lv rest) (kf : ¬ y ≤ x → zu_V p l e R s m args below meth c Q nL (pc + 3) lv rest) : zu_V p l e R s m args below meth c Q nL pc lv (.int y :: .int x :: rest) := fun ls hl => lv_icmp_ge C.1 C.2.1 hd ht (fun h => kt h ls hl) (fun h => kf h ls hl)
theorem zu_if_gt (C : zv_C p s m args c cc nL own Ts G cI A) {x : Int32} {off : Int} {tgt : Nat} (hd : decode cc pc = .ok (.ifCond .gt off, 3)) (ht : (pc : Int) + off = (tgt : Int)) (kt : 0 < x → zu_V p l e R s m args below meth c Q nL tgt lv rest) (kf : ¬ 0 < x → zu_V p l e R s m args below meth c Q nL (pc + 3) lv rest) : zu_V p l e R s m args below meth c Q nL pc lv (.int x :: rest) := fun ls hl => lv_if_gt C.1 C.2.1 hd ht (fun h => kt h ls hl) (fun h => kf h ls hl)
theorem zu_icmp_gt (C : zv_C p s m args c cc nL own Ts G cI A) {x y : Int32} {off : Int} {tgt : Nat} (hd : decode cc pc = .ok (.if_icmp .gt off, 3)) (ht : (pc : Int) + off = (tgt : Int)) (kt : y < x → zu_V p l e R s m args below meth c Q nL tgt lv rest) (kf : ¬ y < x → zu_V p l e R s m args below meth c Q nL (pc + 3) lv rest) : zu_V p l e R s m args below meth c Q nL pc lv (.int y :: .int x :: rest) := fun ls hl => lv_icmp_gt C.1 C.2.1 hd ht (fun h => kt h ls hl) (fun h => kf h ls hl)
theorem zu_if_le (C : zv_C p s m args c cc nL own Ts G cI A) {x : Int32} {off : Int} {tgt : Nat} (hd : decode cc pc = .ok (.ifCond .le off, 3)) (ht : (pc : Int) + off = (tgt : Int)) (kt : x ≤ 0 → zu_V p l e R s m args below meth c Q nL tgt lv rest) (kf : ¬ x ≤ 0 → zu_V p l e R s m args below meth c Q nL (pc + 3) lv rest) : zu_V p l e R s m args below meth c Q nL pc lv (.int x :: rest) := fun ls hl => lv_if_le C.1 C.2.1 hd ht (fun h => kt h ls hl) (fun h => kf h ls hl)
theorem zu_icmp_le (C : zv_C p s m args c cc nL own Ts G cI A) {x y : Int32} {off : Int} {tgt : Nat} (hd : decode cc pc = .ok (.if_icmp .le off, 3)) (ht : (pc : Int) + off = (tgt : Int)) (kt : x ≤ y → zu_V p l e R s m args below meth c Q nL tgt lv rest) (kf : ¬ x ≤ y → zu_V p l e R s m args below meth c Q nL (pc + 3) lv rest) : zu_V p l e R s m args below meth c Q nL pc lv (.int y :: .int x :: rest) := fun ls hl => lv_icmp_le C.1 C.2.1 hd ht (fun h => kt h ls hl) (fun h => kf h ls hl)
theorem zu_get (C : zv_C p s m args c cc nL own Ts G cI A) (hP : va_P G vwCl ws s.heap) {CC : String} {T : u_T} {N ci index : Nat} (hin : ∀ w ∈ u_ws CC T N, w ∈ Ts) (q0 : Nat) {a : Nat} {fs : List Value} (hc : vwCl[ci]? = some (CC, T, N)) (j : Nat) (hj : j < N) (hm : Cond.fieldLink own index (T j).1 (T j).2.1 (T j).2.2.1 ∈ Ts) {v : Value} (he : ws[q0]? = some (a, .inr (ci, fs))) (hv : fs[j]? = some v) (hd : decode cc pc = .ok (.getfield index, 3)) (k : zu_V p l e R s m args below meth c Q nL (pc + 3) lv (v :: rest)) : zu_V p l e R s m args below meth c Q nL pc lv (.ref a :: rest) := fun ls hl => va_get C.1 C.2.1 C.2.2.2.2.1 hin C.2.2.2.1 C.2.2.2.2.2.1 hP q0 he hc j hj (C.2.2.2.2.1 _ hm) (fun _ h9 => h9) hv hd (k ls hl)
theorem zu_vret (C : zv_C p s m args c cc nL own Ts G cI A) (hr : meth.sig.returnType = none) (hlk : meth.locks = false) {P : Prop} {PX : String → Prop} (hp : P) (hd : decode cc pc = .ok (.return_, 1)) : zu_V p l e R s m args below meth c (vx_MQ below (zu_Qn P) (zu_X PX) args s 1 6 (fun _ => False)) nL pc lv [] := fun ls hl =>
  W.widen (k := 1) (n := 6) (by omega) (by omega) (vx_ret (W.vret C.1 C.2.1 hr (fun t ht hW => ⟨rfl, hp, ht⟩) (fun _ h => nomatch h) hd hlk))
theorem zu_aret (C : zv_C p s m args c cc nL own Ts G cI A) {rt : FieldType} (hr : meth.sig.returnType = some rt) (hrt : (∃ n, rt = .object n) ∨ ∃ t, rt = .array t) (hlk : meth.locks = false) {sel : Nat → Nat} {post : Nat → Prop} {PX : String → Prop} {x : Nat} (u : Nat) (hx : x = sel u) (hp : post u) (hd : decode cc pc = .ok (.areturn, 1)) : zu_V p l e R s m args below meth c (vx_MQ below (zu_Qr sel post) (zu_X PX) args s 1 6 (fun _ => False)) nL pc lv [.ref x] := fun ls hl =>
  W.widen (k := 1) (n := 6) (by omega) (by omega) (vx_ret (W.aret C.1 C.2.1 hr hrt (Or.inr ⟨x, rfl⟩) (fun t ht hW => ⟨u, by rw [hx], hp, ht⟩) (fun _ h => nomatch h) hd hlk))
theorem zu_throw (C : zv_C p s m args c cc nL own Ts G cI (fun q => s.heap.size ≤ q)) (hB : zx_B (fun q => s.heap.size ≤ q) s) (hT : ∀ x ∈ c.exceptionTable.toList, False) (hlt : l.stackTraces = false) (hlk : meth.locks = false) {cls text : String} {ik is ic : Nat} {Qc : Array Value → State → Outcome → State → Prop} {PX : String → Prop} (hown5 : own = RX5)
    (hcls : Bundle.fit cls = true) (hs : (is, text) ∈ zx_sx) (hk : Cond.classLink own ik cls ∈ Ts) (hini : Cond.initialized cls ∈ Ts) (hg : ∀ w ∈ (vx_atS own ic cls ["java/lang/RuntimeException", "java/lang/Exception"]).filter goodWord, w ∈ Ts) (hb : ∀ w ∈ (vx_atS own ic cls ["java/lang/RuntimeException", "java/lang/Exception"]).filter (fun w => !goodWord w), w ∈ zx_bw)
    (hgood : ∀ w ∈ Cond.classLink own ik cls :: Cond.initialized cls :: vx_atS own ic cls ["java/lang/RuntimeException", "java/lang/Exception"], vx_ot w = true)
    (d0 : decode cc pc = .ok (.new ik, 3)) (d3 : decode cc (pc + 3) = .ok (.dup, 1)) (d4 : decode cc (pc + 4) = .ok (.ldc is, 2)) (d6 : decode cc (pc + 6) = .ok (.invokespecial ic, 3)) (d9 : decode cc (pc + 9) = .ok (.athrow, 1))
    (hRframes : 5 < R.frames) (hRlocals : (rest.map fun v => v.category).sum + 82 ≤ R.locals) (hRcells : 0 + 1 ≤ R.cells) (hRslots : 0 + 6 ≤ R.slots) (hE : PX cls) :
    zu_V p l e R s m args below meth c (vx_MQ below Qc (zu_X PX) args s 1 6 (fun _ => False)) nL pc lv rest := by
  intro ls hl
  obtain ⟨sa, hsa⟩ := hB.2.2.1 _ hs
  subst hown5
  exact vx_throwS C.1 C.2.1 hlt (names := ["java/lang/RuntimeException", "java/lang/Exception"]) C.2.2.2.1 hcls (by decide +kernel) (C.2.2.2.2.1 _ hk) (C.2.2.2.2.1 _ hini) hsa (zx_hat C.2.2.2.2.1 hB hg hb) hgood hB.1 hB.2.1 va_S.rf (hl.1.trans C.2.2.1.symm) d0 d3 d4 d6 d9 (fun x hx => (hT x hx).elim) hRframes hRlocals hRcells hRslots hlk (fun t _ hz hk => ⟨hE, hz, hk⟩) (fun _ h => nomatch h) (Nat.le_refl 1) (Nat.le_refl 6)
theorem zu_throwW (C : zv_C p s m args c cc nL own Ts G cI (fun q => s.heap.size ≤ q)) (hB : zx_B (fun q => s.heap.size ≤ q) s) (hT : ∀ x ∈ c.exceptionTable.toList, False) (hlt : l.stackTraces = false) (hlk : meth.locks = false) {cls text : String} {ik is ic : Nat} {Qc : Array Value → State → Outcome → State → Prop} {PX : String → Prop} (hown5 : own = RX5)
    (hcls : Bundle.fit cls = true) (hs : (is, text) ∈ zx_sx) (hk : Cond.classLink own ik cls ∈ Ts) (hini : Cond.initialized cls ∈ Ts) (hg : ∀ w ∈ (vx_atS own ic cls ["java/lang/RuntimeException", "java/lang/Exception"]).filter goodWord, w ∈ Ts) (hb : ∀ w ∈ (vx_atS own ic cls ["java/lang/RuntimeException", "java/lang/Exception"]).filter (fun w => !goodWord w), w ∈ zx_bw)
    (hgood : ∀ w ∈ Cond.classLink own ik cls :: Cond.initialized cls :: vx_atS own ic cls ["java/lang/RuntimeException", "java/lang/Exception"], vx_ot w = true)
    (d0 : decode cc pc = .ok (.new ik, 3)) (d3 : decode cc (pc + 3) = .ok (.dup, 1)) (d4 : decode cc (pc + 4) = .ok (.ldc_w is, 3)) (d6 : decode cc (pc + 7) = .ok (.invokespecial ic, 3)) (d9 : decode cc (pc + 10) = .ok (.athrow, 1))
    (hRframes : 5 < R.frames) (hRlocals : (rest.map fun v => v.category).sum + 82 ≤ R.locals) (hRcells : 0 + 1 ≤ R.cells) (hRslots : 0 + 6 ≤ R.slots) (hE : PX cls) :
    zu_V p l e R s m args below meth c (vx_MQ below Qc (zu_X PX) args s 1 6 (fun _ => False)) nL pc lv rest := by
  intro ls hl
  obtain ⟨sa, hsa⟩ := hB.2.2.1 _ hs
  subst hown5
  exact vx_throwSW C.1 C.2.1 hlt (names := ["java/lang/RuntimeException", "java/lang/Exception"]) C.2.2.2.1 hcls (by decide +kernel) (C.2.2.2.2.1 _ hk) (C.2.2.2.2.1 _ hini) hsa (zx_hat C.2.2.2.2.1 hB hg hb) hgood hB.1 hB.2.1 va_S.rf (hl.1.trans C.2.2.1.symm) d0 d3 d4 d6 d9 (fun x hx => (hT x hx).elim) hRframes hRlocals hRcells hRslots hlk (fun t _ hz hk => ⟨hE, hz, hk⟩) (fun _ h => nomatch h) (Nat.le_refl 1) (Nat.le_refl 6)
/-- a call that came back with the heap as it was: nothing was made -/
theorem zu_back {T T' : State} {locs locs' : List Loc} {k n : Nat} (X : Stand p l e R s m args below meth c T locs cells slots) (X' : Stand p l e R s m args below meth c T' locs' k n) (h : T'.heap = T.heap) : Stand p l e R s m args below meth c T' locs cells slots := by
  refine { X' with same := ?_ }
  obtain ⟨a1, a2, a3, a4, a5, a6⟩ := X.same
  obtain ⟨b1, b2, b3, b4, b5, b6⟩ := X'.same
  have e1 : (T'.setVm s.vm).heap = (T.setVm s.vm).heap := h
  rw [e1] at b4
  exact ⟨b1, by rw [e1]; exact a2, by rw [e1]; exact a3, by rw [e1]; exact b4, by rw [e1]; exact a5, by rw [e1]; exact a6⟩
def zu_Run (p : Program) (l : Launch) (e : Env) (R : Room) (s : State) (m : MethodId) (args : Array Value) (below : List Frame) (meth : Method) (c : Code) (G : va_G) (A : Nat → Prop) (nL cells slots : Nat) (ws : va_W) (pc : Nat) (lv : List (Nat × Value)) (st0 rest : List Value) (Qa : State → Outcome → State → Prop) (PX : String → Prop) : Prop :=
  ∀ (H : Heap) (locs : List Loc) (ls : Array Slot), va_P G vwCl ws H → va_S A s.heap H locs → lv_has ls nL lv → vx_Run p l e R s m args below meth c H locs cells slots 1 6 (F0 m pc ls st0) rest Qa (zu_X PX) (fun _ => False)
theorem zu_pre {av : List Value} {wc : va_W} {H : Heap} {locs : List Loc} (hK : va_K G vwCl [(cI, .int)] s) (hA : ∀ q : Nat, s.heap.size ≤ q → A q) (hB : zx_B A s) (hS : va_S A s.heap H locs) (hP : va_P G vwCl wc H) : ∀ U : State, U.heap = H → s.WarmedH U.vm → va_Pc av (zu_in G cI wc H.size) av.toArray U :=
  fun U hU hW => ⟨rfl, by rw [hU], by rw [hU]; exact hP, va_K.moved hW.alike hK, hB.pass hS (fun q h => hA q (Nat.le_trans hS.1 h)) hU hW⟩
theorem zu_runS (C : zv_C p s m args c cc nL own Ts G cI A) (hB : zx_B A s) {y : MethodName} {bytes : ByteArray} {maxL n index : Nat} {ret : Option FieldType} {wsc : List Cond} {rm : Room} {As : List Value} {Qc : Array Value → State → Outcome → State → Prop} {PX : String → Prop}
    (hM : ∀ sz, vx_Met l y wsc rm (va_Pc As (zu_in G cI [] sz)) Qc (zu_X PX) 1 6 (fun _ => False)) (cw : CallB R s args own index y bytes maxL ret wsc rm 1 6 n ∧ (Cond.static y).before args s = true)
    (hn : As.length = n) (hst : st0 = As.reverse ++ rest) (hroom : (rest.map fun v => v.category).sum ≤ 8) (hf : cells + 1 ≤ R.cells ∧ slots + 6 ≤ R.slots) (hd : decode cc pc = .ok (.invokestatic index, 3)) :
    zu_Run p l e R s m args below meth c G A nL cells slots ws pc lv st0 rest (Qc As.toArray) PX := fun H locs ls hP hS hl =>
  vx_runS ⟨C.1, C.2.1, C.2.2.1, C.2.2.2.1, C.2.2.2.2.1⟩ (hM H.size) cw ⟨zu_blind, zu_pre C.2.2.2.2.2.1 C.2.2.2.2.2.2 hB hS (fun k q h => by simp at h)⟩ rfl hn hl.1 hst (lv_room hroom) hd hf
theorem zu_runV (C : zv_C p s m args c cc nL own Ts G cI A) (hB : zx_B A s) {y : MethodName} {bytes : ByteArray} {maxL n index : Nat} {ret : Option FieldType} {wsc : List Cond} {rm : Room} {b : Nat} {As : List Value} {wc : va_W} {Qc : Array Value → State → Outcome → State → Prop} {PX : String → Prop} {CC : String} {q0 ci : Nat} {fs : List Value} {r : vw_C}
    (hM : ∀ sz, vx_Met l y wsc rm (va_Pc (.ref b :: As) (zu_in G cI wc sz)) Qc (zu_X PX) 1 6 (fun _ => False)) (cw : CallW R s args own CC index y bytes maxL ret wsc rm 1 6 n) (isC : List Nat) (hC : isC.map (fun i => ws[i]?) = wc.map some) (hc : vwCl[ci]? = some r) (hcc : r.1 = CC) (he : ws[q0]? = some (b, .inr (ci, fs)))
    (hn : As.length = n) (hst : st0 = As.reverse ++ .ref b :: rest) (hroom : (rest.map fun v => v.category).sum ≤ 8) (hf : cells + 1 ≤ R.cells ∧ slots + 6 ≤ R.slots) (hd : decode cc pc = .ok (.invokevirtual index, 3)) :
    zu_Run p l e R s m args below meth c G A nL cells slots ws pc lv st0 rest (Qc (Value.ref b :: As).toArray) PX := fun H locs ls hP hS hl =>
  vx_runV ⟨C.1, C.2.1, C.2.2.1, C.2.2.2.1, C.2.2.2.2.1⟩ (hM H.size) cw ⟨zu_blind, hcc ▸ va_recv C.2.2.2.2.2.1 hP hc he, zu_pre C.2.2.2.2.2.1 C.2.2.2.2.2.2 hB hS (zv_psub hP hC)⟩ rfl hn hl.1 hst (lv_room hroom) hd hf
theorem zu_thrown (C : zv_C p s m args c cc nL own Ts G cI A) (hT : ∀ x ∈ c.exceptionTable.toList, False) (hlk : meth.locks = false) {Qc : Array Value → State → Outcome → State → Prop} {ws0 : va_W} {PX PX0 : String → Prop} {mc ms : Nat} {H : Heap} {locs L : List Loc} {T T' t st₀ : State} {g : JFrame} {ls : Array Slot} {E : String} {ce : Cell} {q : Addr} (hP : va_P G vwCl ws H) (hD : va_D A ws) (hS : va_S A s.heap H locs) (hw : ws = ws0) (hc : cells + 1 ≤ mc) (hs : slots + 6 ≤ ms) (hX : ∀ E, PX0 E → PX E)
    (h0 : st₀.heap = H) (X' : Stand p l e R s m args below meth c T' (locs ++ L) (cells + 1) (slots + 6)) (hL : ∀ z ∈ L, False) (e1 : T'.heap = t.heap) (hx : zu_X PX0 E st₀ t) (hce : t.heap[q]? = some ce) (hcv : ce.vm = .none) (hcl : s.vm.findClass E = some ce.cls) (st : Steps p.tables e below (T.setTop g) ((T'.setTop (F0 m pc ls rest)).pushFrame (.throwing q))) :
    ∃ t, Steps p.tables e below (T.setTop g) t ∧ vx_MQ below Qc (zx_X G cI A ws0 PX) args s mc ms A t := by
  obtain ⟨hPX, hz, hk⟩ := hx
  rw [h0] at hz hk
  have hf : ∀ z ∈ locs ++ L, A z.base := fun z hz => (List.mem_append.mp hz).elim (fun h => hS.2.2 z h) (fun h => (hL z h).elim)
  obtain ⟨t2, a1, b1⟩ := vx_out (Qc := Qc) (XC := zx_X G cI A ws0 PX) (free := A) (ls := ls) (rest := rest) (pc := pc) (fun x hx => (hT x hx).elim) hlk (H := T'.heap) (by rw [e1]; exact hce) hcv hcl
    (fun t3 ht3 hvm => zx_out C hP hD hS hw (hX E hPX) t3 hvm (by rw [ht3, e1]; exact hz) (fun q hq => by rw [ht3, e1]; exact hk q hq)) hf hc hs T' rfl X'
  exact ⟨t2, st.trans a1, b1⟩
theorem zu_cv (C : zv_C p s m args c cc nL own Ts G cI A) (hT : ∀ x ∈ c.exceptionTable.toList, False) (hlk : meth.locks = false) {P : Prop} {Qc : Array Value → State → Outcome → State → Prop} {ws0 : va_W} {PX PX0 : String → Prop} {mc ms : Nat} {a : Array Value} (hw : ws = ws0) (hc : cells + 1 ≤ mc) (hs : slots + 6 ≤ ms) (hX : ∀ E, PX0 E → PX E)
    (hrun : zu_Run p l e R s m args below meth c G A nL cells slots ws pc lv st0 rest (zu_Qn P a) PX0)
    (k : P → zv_V p l e R s m args below meth c (vx_MQ below Qc (zx_X G cI A ws0 PX) args s mc ms A) G A nL cells slots ws (pc + 3) lv rest) : zv_V p l e R s m args below meth c (vx_MQ below Qc (zx_X G cI A ws0 PX) args s mc ms A) G A nL cells slots ws pc lv st0 := by
  intro H locs ls hP hD hS hl T hT0 X
  rcases hrun H locs ls hP hS hl T hT0 X with ⟨v, st₀, t, T', L, h0, X', hL, e1, e2, ⟨hv, hp, hh⟩, st⟩ | ⟨q, st₀, t, T', L, E, ce, h0, X', hL, e1, e2, hx, hce, hcv, hcl, st⟩
  · cases hv
    have e3 : T'.heap = H := by rw [e1, hh, h0]
    obtain ⟨t2, a1, b1⟩ := k hp H locs ls hP hD hS hl T' e3 (zu_back X X' (e3.trans hT0.symm))
    exact ⟨t2, st t2 a1, b1⟩
  · exact zu_thrown C hT hlk hP hD hS hw hc hs hX h0 X' hL e1 hx hce hcv hcl st
theorem zu_cr (C : zv_C p s m args c cc nL own Ts G cI A) (hT : ∀ x ∈ c.exceptionTable.toList, False) (hlk : meth.locks = false) {sel : Nat → Nat} {post : Nat → Prop} {Qc : Array Value → State → Outcome → State → Prop} {ws0 : va_W} {PX PX0 : String → Prop} {mc ms : Nat} {a : Array Value} (hw : ws = ws0) (hc : cells + 1 ≤ mc) (hs : slots + 6 ≤ ms) (hX : ∀ E, PX0 E → PX E)
    (hrun : zu_Run p l e R s m args below meth c G A nL cells slots ws pc lv st0 rest (zu_Qr sel post a) PX0)
    (k : ∀ (u : Nat) (ra : Nat), post u → ra = sel u → zv_V p l e R s m args below meth c (vx_MQ below Qc (zx_X G cI A ws0 PX) args s mc ms A) G A nL cells slots ws (pc + 3) lv (.ref ra :: rest)) : zv_V p l e R s m args below meth c (vx_MQ below Qc (zx_X G cI A ws0 PX) args s mc ms A) G A nL cells slots ws pc lv st0 := by
  intro H locs ls hP hD hS hl T hT0 X
  rcases hrun H locs ls hP hS hl T hT0 X with ⟨v, st₀, t, T', L, h0, X', hL, e1, e2, ⟨u, hv, hp, hh⟩, st⟩ | ⟨q, st₀, t, T', L, E, ce, h0, X', hL, e1, e2, hx, hce, hcv, hcl, st⟩
  · cases hv
    have e3 : T'.heap = H := by rw [e1, hh, h0]
    obtain ⟨t2, a1, b1⟩ := k u (sel u) hp rfl H locs ls hP hD hS hl T' e3 (zu_back X X' (e3.trans hT0.symm))
    exact ⟨t2, st t2 a1, b1⟩
  · exact zu_thrown C hT hlk hP hD hS hw hc hs hX h0 X' hL e1 hx hce hcv hcl st
end ZXB
