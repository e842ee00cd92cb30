/-! own rows: a symbolic state over a world (zv_V), one row an instruction -/
abbrev zRow : Type := Nat → Int32
abbrev zMem : Type := Nat → Nat → Int32
def zset (T : zMem) (i : Nat) (r : zRow) : zMem := fun k => cond (Nat.beq k i) r (T k)
section ZV
variable {p : Program} {l : Launch} {e : Env} {R : Room} {s : State} {m : MethodId} {args : Array Value} {below : List Frame} {meth : Method} {c : Code} {cells slots : Nat} {Q : State → Prop}
variable {G : va_G} {cI : ClassId} {A : Nat → Prop} {cc : ByteArray} {nL : Nat} {own : String} {Ts : List Cond}
variable {pc : Nat} {ws : va_W} {lv : List (Nat × Value)} {rest st0 : List Value}
/-- what stays the same through a method's body -/
def zv_C (p : Program) (s : State) (m : MethodId) (args : Array Value) (c : Code) (cc : ByteArray) (nL : Nat) (own : String) (Ts : List Cond) (G : va_G) (cI : ClassId) (A : Nat → Prop) : Prop :=
  p.tables.exec = Jvm.exec ∧ c.code = cc ∧ c.maxLocals = nL ∧ s.vm.findClass own = some m.cls ∧ (∀ w ∈ Ts, w.before args s = true) ∧ va_K G vwCl [(cI, .int)] s ∧ (∀ q : Nat, s.heap.size ≤ q → A q)
/-- the machine at pc, with these cells, locals and stack, comes to Q -/
def zv_V (p : Program) (l : Launch) (e : Env) (R : Room) (s : State) (m : MethodId) (args : Array Value) (below : List Frame) (meth : Method) (c : Code) (Q : State → Prop) (G : va_G) (A : Nat → Prop) (nL cells slots : Nat) (ws : va_W) (pc : Nat) (lv : List (Nat × Value)) (st : List Value) : Prop :=
  ∀ (H : Heap) (locs : List Loc) (ls : Array Slot), va_P G vwCl ws H → va_D A ws → va_S A s.heap H locs → lv_has ls nL lv → W p l e R s m args below meth c H locs cells slots Q (F0 m pc ls st)
/-- a contract's start, and the world at its end -/
def zv_in (G : va_G) (cI : ClassId) (ws : va_W) (sz : Nat) : State → Prop := fun U => U.heap.size = sz ∧ va_P G vwCl ws U.heap ∧ va_K G vwCl [(cI, .int)] U ∧ va_D (fun _ => True) ws
def zv_out (G : va_G) (cI : ClassId) (A : Nat → Prop) (ws : va_W) (t : State) : Prop := va_P G vwCl ws t.heap ∧ va_K G vwCl [(cI, .int)] t ∧ va_D A ws
theorem zv_blind {av : List Value} {ws : va_W} {sz : Nat} : FrameBlind (va_Pc av (zv_in G cI ws sz)) := fun a U g mk q => by
  obtain ⟨q0, q1, qP, qK, qD⟩ := q
  exact ⟨q0, q1, qP, va_K.moved (u := U) (U := U.calling g mk a) (Vm.Alike.refl U.vm) qK, qD⟩
theorem zv_pre {av : List Value} {wc : va_W} {H : Heap} (hK : va_K G vwCl [(cI, .int)] s) (hP : va_P G vwCl wc H) (hD : va_D A wc) : ∀ U : State, U.heap = H → s.WarmedH U.vm → va_Pc av (zv_in G cI wc H.size) av.toArray U :=
  fun U hU hW => ⟨rfl, by rw [hU], by rw [hU]; exact hP, va_K.moved hW.alike hK, hD.weaken (fun _ _ _ _ => trivial)⟩

theorem zv_iconst (C : zv_C p s m args c cc nL own Ts G cI A) {n : Int} {v : Int32} (hv : Int32.ofInt n = v) (hd : decode cc pc = .ok (.iconst n, 1)) (k : zv_V p l e R s m args below meth c Q G A nL cells slots ws (pc + 1) lv (.int v :: rest)) : zv_V p l e R s m args below meth c Q G A nL cells slots ws pc lv rest := fun H locs ls hP hD hS hl => lv_iconst C.1 C.2.1 hd hv (k H locs ls hP hD hS hl)
theorem zv_bipush (C : zv_C p s m args c cc nL own Ts G cI A) {n : Int} {v : Int32} (hv : (Int8.ofInt n).toInt32 = v) (hd : decode cc pc = .ok (.bipush n, 2)) (k : zv_V p l e R s m args below meth c Q G A nL cells slots ws (pc + 2) lv (.int v :: rest)) : zv_V p l e R s m args below meth c Q G A nL cells slots ws pc lv rest := fun H locs ls hP hD hS hl => lv_bipush C.1 C.2.1 hd hv (k H locs ls hP hD hS hl)
theorem zv_sipush (C : zv_C p s m args c cc nL own Ts G cI A) {n : Int} {v : Int32} (hv : (Int16.ofInt n).toInt32 = v) (hd : decode cc pc = .ok (.sipush n, 3)) (k : zv_V p l e R s m args below meth c Q G A nL cells slots ws (pc + 3) lv (.int v :: rest)) : zv_V p l e R s m args below meth c Q G A nL cells slots ws pc lv rest := fun H locs ls hP hD hS hl => lv_sipush C.1 C.2.1 hd hv (k H locs ls hP hD hS hl)
theorem zv_lconst (C : zv_C p s m args c cc nL own Ts G cI A) {n : Fin 2} {v : Int64} (hv : Int64.ofNat (n : Nat) = v) (hd : decode cc pc = .ok (.lconst n, 1)) (k : zv_V p l e R s m args below meth c Q G A nL cells slots ws (pc + 1) lv (.long v :: rest)) : zv_V p l e R s m args below meth c Q G A nL cells slots ws pc lv rest := fun H locs ls hP hD hS hl => lv_lconst C.1 C.2.1 hd hv (k H locs ls hP hD hS hl)
theorem zv_iload_n (C : zv_C p s m args c cc nL own Ts G cI A) {f : Fin 4} {i : Nat} {x : Int32} (hi : (f : Nat) = i) (j : Nat) (hj : lv[j]? = some (i, .int x)) (hd : decode cc pc = .ok (.iload_n f, 1)) (k : zv_V p l e R s m args below meth c Q G A nL cells slots ws (pc + 1) lv (.int x :: rest)) : zv_V p l e R s m args below meth c Q G A nL cells slots ws pc lv rest := fun H locs ls hP hD hS hl => lv_iload_n C.1 C.2.1 hd hi (lv_at hl j hj) (k H locs ls hP hD hS hl)
theorem zv_iload (C : zv_C p s m args c cc nL own Ts G cI A) {i : Nat} {x : Int32} (j : Nat) (hj : lv[j]? = some (i, .int x)) (hd : decode cc pc = .ok (.iload i, 2)) (k : zv_V p l e R s m args below meth c Q G A nL cells slots ws (pc + 2) lv (.int x :: rest)) : zv_V p l e R s m args below meth c Q G A nL cells slots ws pc lv rest := fun H locs ls hP hD hS hl => lv_iload C.1 C.2.1 hd (lv_at hl j hj) (k H locs ls hP hD hS hl)
theorem zv_lload_n (C : zv_C p s m args c cc nL own Ts G cI A) {f : Fin 4} {i : Nat} {x : Int64} (hi : (f : Nat) = i) (j : Nat) (hj : lv[j]? = some (i, .long x)) (hd : decode cc pc = .ok (.lload_n f, 1)) (k : zv_V p l e R s m args below meth c Q G A nL cells slots ws (pc + 1) lv (.long x :: rest)) : zv_V p l e R s m args below meth c Q G A nL cells slots ws pc lv rest := fun H locs ls hP hD hS hl => lv_lload_n C.1 C.2.1 hd hi (lv_at hl j hj) (k H locs ls hP hD hS hl)
theorem zv_lload (C : zv_C p s m args c cc nL own Ts G cI A) {i : Nat} {x : Int64} (j : Nat) (hj : lv[j]? = some (i, .long x)) (hd : decode cc pc = .ok (.lload i, 2)) (k : zv_V p l e R s m args below meth c Q G A nL cells slots ws (pc + 2) lv (.long x :: rest)) : zv_V p l e R s m args below meth c Q G A nL cells slots ws pc lv rest := fun H locs ls hP hD hS hl => lv_lload C.1 C.2.1 hd (lv_at hl j hj) (k H locs ls hP hD hS hl)
theorem zv_aload_n (C : zv_C p s m args c cc nL own Ts G cI A) {f : Fin 4} {i : Nat} {x : Nat} (hi : (f : Nat) = i) (j : Nat) (hj : lv[j]? = some (i, .ref x)) (hd : decode cc pc = .ok (.aload_n f, 1)) (k : zv_V p l e R s m args below meth c Q G A nL cells slots ws (pc + 1) lv (.ref x :: rest)) : zv_V p l e R s m args below meth c Q G A nL cells slots ws pc lv rest := fun H locs ls hP hD hS hl => lv_aload_n C.1 C.2.1 hd hi (lv_at hl j hj) (k H locs ls hP hD hS hl)
theorem zv_aload (C : zv_C p s m args c cc nL own Ts G cI A) {i : Nat} {x : Nat} (j : Nat) (hj : lv[j]? = some (i, .ref x)) (hd : decode cc pc = .ok (.aload i, 2)) (k : zv_V p l e R s m args below meth c Q G A nL cells slots ws (pc + 2) lv (.ref x :: rest)) : zv_V p l e R s m args below meth c Q G A nL cells slots ws pc lv rest := fun H locs ls hP hD hS hl => lv_aload C.1 C.2.1 hd (lv_at hl j hj) (k H locs ls hP hD hS hl)
theorem zv_istore_n (C : zv_C p s m args c cc nL own Ts G cI A) {f : Fin 4} {i : Nat} {x : Int32} (hi : (f : Nat) = i) (hn : i < nL) {lv' : List (Nat × Value)} (hv : (i, Value.int x) :: lv.filter (fun q => !(q.1 == i) && !(q.1 + 1 == i && q.2.category == 2)) = lv') (hd : decode cc pc = .ok (.istore_n f, 1)) (k : zv_V p l e R s m args below meth c Q G A nL cells slots ws (pc + 1) lv' rest) : zv_V p l e R s m args below meth c Q G A nL cells slots ws pc lv (.int x :: rest) := fun H locs ls hP hD hS hl => lv_istore_n C.1 C.2.1 hd hi hl hn hv (fun ls hl => (k H locs ls hP hD hS hl))
theorem zv_istore (C : zv_C p s m args c cc nL own Ts G cI A) {i : Nat} {x : Int32} (hn : i < nL) {lv' : List (Nat × Value)} (hv : (i, Value.int x) :: lv.filter (fun q => !(q.1 == i) && !(q.1 + 1 == i && q.2.category == 2)) = lv') (hd : decode cc pc = .ok (.istore i, 2)) (k : zv_V p l e R s m args below meth c Q G A nL cells slots ws (pc + 2) lv' rest) : zv_V p l e R s m args below meth c Q G A nL cells slots ws pc lv (.int x :: rest) := fun H locs ls hP hD hS hl => lv_istore C.1 C.2.1 hd hl hn hv (fun ls hl => (k H locs ls hP hD hS hl))
theorem zv_lstore_n (C : zv_C p s m args c cc nL own Ts G cI A) {f : Fin 4} {i : Nat} {x : Int64} (hi : (f : Nat) = i) (hn : i + 1 < nL) {lv' : List (Nat × Value)} (hv : (i, Value.long x) :: lv.filter (fun q => !(q.1 == i) && (!(q.1 == i + 1) && !(q.1 + 1 == i && q.2.category == 2))) = lv') (hd : decode cc pc = .ok (.lstore_n f, 1)) (k : zv_V p l e R s m args below meth c Q G A nL cells slots ws (pc + 1) lv' rest) : zv_V p l e R s m args below meth c Q G A nL cells slots ws pc lv (.long x :: rest) := fun H locs ls hP hD hS hl => lv_lstore_n C.1 C.2.1 hd hi hl hn hv (fun ls hl => (k H locs ls hP hD hS hl))
theorem zv_lstore (C : zv_C p s m args c cc nL own Ts G cI A) {i : Nat} {x : Int64} (hn : i + 1 < nL) {lv' : List (Nat × Value)} (hv : (i, Value.long x) :: lv.filter (fun q => !(q.1 == i) && (!(q.1 == i + 1) && !(q.1 + 1 == i && q.2.category == 2))) = lv') (hd : decode cc pc = .ok (.lstore i, 2)) (k : zv_V p l e R s m args below meth c Q G A nL cells slots ws (pc + 2) lv' rest) : zv_V p l e R s m args below meth c Q G A nL cells slots ws pc lv (.long x :: rest) := fun H locs ls hP hD hS hl => lv_lstore C.1 C.2.1 hd hl hn hv (fun ls hl => (k H locs ls hP hD hS hl))
theorem zv_astore_n (C : zv_C p s m args c cc nL own Ts G cI A) {f : Fin 4} {i : Nat} {x : Nat} (hi : (f : Nat) = i) (hn : i < nL) {lv' : List (Nat × Value)} (hv : (i, Value.ref x) :: lv.filter (fun q => !(q.1 == i) && !(q.1 + 1 == i && q.2.category == 2)) = lv') (hd : decode cc pc = .ok (.astore_n f, 1)) (k : zv_V p l e R s m args below meth c Q G A nL cells slots ws (pc + 1) lv' rest) : zv_V p l e R s m args below meth c Q G A nL cells slots ws pc lv (.ref x :: rest) := fun H locs ls hP hD hS hl => lv_astore_n C.1 C.2.1 hd hi hl hn hv (fun ls hl => (k H locs ls hP hD hS hl))
theorem zv_astore (C : zv_C p s m args c cc nL own Ts G cI A) {i : Nat} {x : Nat} (hn : i < nL) {lv' : List (Nat × Value)} (hv : (i, Value.ref x) :: lv.filter (fun q => !(q.1 == i) && !(q.1 + 1 == i && q.2.category == 2)) = lv') (hd : decode cc pc = .ok (.astore i, 2)) (k : zv_V p l e R s m args below meth c Q G A nL cells slots ws (pc + 2) lv' rest) : zv_V p l e R s m args below meth c Q G A nL cells slots ws pc lv (.ref x :: rest) := fun H locs ls hP hD hS hl => lv_astore C.1 C.2.1 hd hl hn hv (fun ls hl => (k H locs ls hP hD hS hl))
theorem zv_iinc (C : zv_C p s m args c cc nL own Ts G cI A) {i : Nat} {n : Int} {x v : Int32} (j : Nat) (hj : lv[j]? = some (i, .int x)) (hx : x + Int32.ofInt n = v) (hn : i < nL) {lv' : List (Nat × Value)} (hv : (i, Value.int v) :: lv.filter (fun q => !(q.1 == i) && !(q.1 + 1 == i && q.2.category == 2)) = lv') (hd : decode cc pc = .ok (.iinc i n, 3)) (k : zv_V p l e R s m args below meth c Q G A nL cells slots ws (pc + 3) lv' rest) : zv_V p l e R s m args below meth c Q G A nL cells slots ws pc lv rest := fun H locs ls hP hD hS hl => lv_iinc C.1 C.2.1 hd hl hj hx hn hv (fun ls hl => (k H locs ls hP hD hS hl))
theorem zv_iadd (C : zv_C p s m args c cc nL own Ts G cI A) {x y : Int32} (hd : decode cc pc = .ok (.iadd, 1)) (k : zv_V p l e R s m args below meth c Q G A nL cells slots ws (pc + 1) lv (.int (x + y) :: rest)) : zv_V p l e R s m args below meth c Q G A nL cells slots ws pc lv (.int y :: .int x :: rest) := fun H locs ls hP hD hS hl => lv_iadd C.1 C.2.1 hd  (k H locs ls hP hD hS hl)
theorem zv_ladd (C : zv_C p s m args c cc nL own Ts G cI A) {x y : Int64} (hd : decode cc pc = .ok (.ladd, 1)) (k : zv_V p l e R s m args below meth c Q G A nL cells slots ws (pc + 1) lv (.long (x + y) :: rest)) : zv_V p l e R s m args below meth c Q G A nL cells slots ws pc lv (.long y :: .long x :: rest) := fun H locs ls hP hD hS hl => lv_ladd C.1 C.2.1 hd  (k H locs ls hP hD hS hl)
theorem zv_isub (C : zv_C p s m args c cc nL own Ts G cI A) {x y : Int32} (hd : decode cc pc = .ok (.isub, 1)) (k : zv_V p l e R s m args below meth c Q G A nL cells slots ws (pc + 1) lv (.int (x - y) :: rest)) : zv_V p l e R s m args below meth c Q G A nL cells slots ws pc lv (.int y :: .int x :: rest) := fun H locs ls hP hD hS hl => lv_isub C.1 C.2.1 hd  (k H locs ls hP hD hS hl)
theorem zv_lsub (C : zv_C p s m args c cc nL own Ts G cI A) {x y : Int64} (hd : decode cc pc = .ok (.lsub, 1)) (k : zv_V p l e R s m args below meth c Q G A nL cells slots ws (pc + 1) lv (.long (x - y) :: rest)) : zv_V p l e R s m args below meth c Q G A nL cells slots ws pc lv (.long y :: .long x :: rest) := fun H locs ls hP hD hS hl => lv_lsub C.1 C.2.1 hd  (k H locs ls hP hD hS hl)
theorem zv_imul (C : zv_C p s m args c cc nL own Ts G cI A) {x y : Int32} (hd : decode cc pc = .ok (.imul, 1)) (k : zv_V p l e R s m args below meth c Q G A nL cells slots ws (pc + 1) lv (.int (x * y) :: rest)) : zv_V p l e R s m args below meth c Q G A nL cells slots ws pc lv (.int y :: .int x :: rest) := fun H locs ls hP hD hS hl => lv_imul C.1 C.2.1 hd  (k H locs ls hP hD hS hl)
theorem zv_lmul (C : zv_C p s m args c cc nL own Ts G cI A) {x y : Int64} (hd : decode cc pc = .ok (.lmul, 1)) (k : zv_V p l e R s m args below meth c Q G A nL cells slots ws (pc + 1) lv (.long (x * y) :: rest)) : zv_V p l e R s m args below meth c Q G A nL cells slots ws pc lv (.long y :: .long x :: rest) := fun H locs ls hP hD hS hl => lv_lmul C.1 C.2.1 hd  (k H locs ls hP hD hS hl)
theorem zv_iand (C : zv_C p s m args c cc nL own Ts G cI A) {x y : Int32} (hd : decode cc pc = .ok (.iand, 1)) (k : zv_V p l e R s m args below meth c Q G A nL cells slots ws (pc + 1) lv (.int (x &&& y) :: rest)) : zv_V p l e R s m args below meth c Q G A nL cells slots ws pc lv (.int y :: .int x :: rest) := fun H locs ls hP hD hS hl => lv_iand C.1 C.2.1 hd  (k H locs ls hP hD hS hl)
theorem zv_land (C : zv_C p s m args c cc nL own Ts G cI A) {x y : Int64} (hd : decode cc pc = .ok (.land, 1)) (k : zv_V p l e R s m args below meth c Q G A nL cells slots ws (pc + 1) lv (.long (x &&& y) :: rest)) : zv_V p l e R s m args below meth c Q G A nL cells slots ws pc lv (.long y :: .long x :: rest) := fun H locs ls hP hD hS hl => lv_land C.1 C.2.1 hd  (k H locs ls hP hD hS hl)
theorem zv_ior (C : zv_C p s m args c cc nL own Ts G cI A) {x y : Int32} (hd : decode cc pc = .ok (.ior, 1)) (k : zv_V p l e R s m args below meth c Q G A nL cells slots ws (pc + 1) lv (.int (x ||| y) :: rest)) : zv_V p l e R s m args below meth c Q G A nL cells slots ws pc lv (.int y :: .int x :: rest) := fun H locs ls hP hD hS hl => lv_ior C.1 C.2.1 hd  (k H locs ls hP hD hS hl)
theorem zv_ixor (C : zv_C p s m args c cc nL own Ts G cI A) {x y : Int32} (hd : decode cc pc = .ok (.ixor, 1)) (k : zv_V p l e R s m args below meth c Q G A nL cells slots ws (pc + 1) lv (.int (x ^^^ y) :: rest)) : zv_V p l e R s m args below meth c Q G A nL cells slots ws pc lv (.int y :: .int x :: rest) := fun H locs ls hP hD hS hl => lv_ixor C.1 C.2.1 hd  (k H locs ls hP hD hS hl)
theorem zv_idiv (C : zv_C p s m args c cc nL own Ts G cI A) {x y : Int32} (hne : ¬ y = 0) (hd : decode cc pc = .ok (.idiv, 1)) (k : zv_V p l e R s m args below meth c Q G A nL cells slots ws (pc + 1) lv (.int (x / y) :: rest)) : zv_V p l e R s m args below meth c Q G A nL cells slots ws pc lv (.int y :: .int x :: rest) := fun H locs ls hP hD hS hl => lv_idiv C.1 C.2.1 hd hne (k H locs ls hP hD hS hl)
theorem zv_irem (C : zv_C p s m args c cc nL own Ts G cI A) {x y : Int32} (hne : ¬ y = 0) (hd : decode cc pc = .ok (.irem, 1)) (k : zv_V p l e R s m args below meth c Q G A nL cells slots ws (pc + 1) lv (.int (x - x / y * y) :: rest)) : zv_V p l e R s m args below meth c Q G A nL cells slots ws pc lv (.int y :: .int x :: rest) := fun H locs ls hP hD hS hl => lv_irem C.1 C.2.1 hd hne (k H locs ls hP hD hS hl)
theorem zv_ineg (C : zv_C p s m args c cc nL own Ts G cI A) {x : Int32} (hd : decode cc pc = .ok (.ineg, 1)) (k : zv_V p l e R s m args below meth c Q G A nL cells slots ws (pc + 1) lv (.int (-x) :: rest)) : zv_V p l e R s m args below meth c Q G A nL cells slots ws pc lv (.int x :: rest) := fun H locs ls hP hD hS hl => lv_ineg C.1 C.2.1 hd  (k H locs ls hP hD hS hl)
theorem zv_lneg (C : zv_C p s m args c cc nL own Ts G cI A) {x : Int64} (hd : decode cc pc = .ok (.lneg, 1)) (k : zv_V p l e R s m args below meth c Q G A nL cells slots ws (pc + 1) lv (.long (-x) :: rest)) : zv_V p l e R s m args below meth c Q G A nL cells slots ws pc lv (.long x :: rest) := fun H locs ls hP hD hS hl => lv_lneg C.1 C.2.1 hd  (k H locs ls hP hD hS hl)
theorem zv_ishl (C : zv_C p s m args c cc nL own Ts G cI A) {x y : Int32} (hd : decode cc pc = .ok (.ishl, 1)) (k : zv_V p l e R s m args below meth c Q G A nL cells slots ws (pc + 1) lv (.int (x <<< (y &&& 31)) :: rest)) : zv_V p l e R s m args below meth c Q G A nL cells slots ws pc lv (.int y :: .int x :: rest) := fun H locs ls hP hD hS hl => lv_ishl C.1 C.2.1 hd  (k H locs ls hP hD hS hl)
theorem zv_ishr (C : zv_C p s m args c cc nL own Ts G cI A) {x y : Int32} (hd : decode cc pc = .ok (.ishr, 1)) (k : zv_V p l e R s m args below meth c Q G A nL cells slots ws (pc + 1) lv (.int (x >>> (y &&& 31)) :: rest)) : zv_V p l e R s m args below meth c Q G A nL cells slots ws pc lv (.int y :: .int x :: rest) := fun H locs ls hP hD hS hl => lv_ishr C.1 C.2.1 hd  (k H locs ls hP hD hS hl)
theorem zv_iushr (C : zv_C p s m args c cc nL own Ts G cI A) {x y : Int32} (hd : decode cc pc = .ok (.iushr, 1)) (k : zv_V p l e R s m args below meth c Q G A nL cells slots ws (pc + 1) lv (.int (x.toUInt32 >>> (y.toUInt32 &&& Int32.toUInt32 31)).toInt32 :: rest)) : zv_V p l e R s m args below meth c Q G A nL cells slots ws pc lv (.int y :: .int x :: rest) := fun H locs ls hP hD hS hl => lv_iushr C.1 C.2.1 hd rfl (k H locs ls hP hD hS hl)
theorem zv_lshr (C : zv_C p s m args c cc nL own Ts G cI A) {x : Int64} {y : Int32} (hd : decode cc pc = .ok (.lshr, 1)) (k : zv_V p l e R s m args below meth c Q G A nL cells slots ws (pc + 1) lv (.long (x >>> (y.toInt64 &&& 63)) :: rest)) : zv_V p l e R s m args below meth c Q G A nL cells slots ws pc lv (.int y :: .long x :: rest) := fun H locs ls hP hD hS hl => lv_lshr C.1 C.2.1 hd rfl (k H locs ls hP hD hS hl)
theorem zv_i2l (C : zv_C p s m args c cc nL own Ts G cI A) {x : Int32} (hd : decode cc pc = .ok (.i2l, 1)) (k : zv_V p l e R s m args below meth c Q G A nL cells slots ws (pc + 1) lv (.long x.toInt64 :: rest)) : zv_V p l e R s m args below meth c Q G A nL cells slots ws pc lv (.int x :: rest) := fun H locs ls hP hD hS hl => lv_i2l C.1 C.2.1 hd rfl (k H locs ls hP hD hS hl)
theorem zv_l2i (C : zv_C p s m args c cc nL own Ts G cI A) {x : Int64} (hd : decode cc pc = .ok (.l2i, 1)) (k : zv_V p l e R s m args below meth c Q G A nL cells slots ws (pc + 1) lv (.int x.toInt32 :: rest)) : zv_V p l e R s m args below meth c Q G A nL cells slots ws pc lv (.long x :: rest) := fun H locs ls hP hD hS hl => lv_l2i C.1 C.2.1 hd rfl (k H locs ls hP hD hS hl)
theorem zv_dup (C : zv_C p s m args c cc nL own Ts G cI A) {va : Value} (hva : va.category = 1) (hd : decode cc pc = .ok (.dup, 1)) (k : zv_V p l e R s m args below meth c Q G A nL cells slots ws (pc + 1) lv (va :: va :: rest)) : zv_V p l e R s m args below meth c Q G A nL cells slots ws pc lv (va :: rest) := fun H locs ls hP hD hS hl => lv_dup C.1 C.2.1 hd hva (k H locs ls hP hD hS hl)
theorem zv_dup2 (C : zv_C p s m args c cc nL own Ts G cI A) {va vb : Value} (hva : va.category = 1) (hvb : vb.category = 1) (hd : decode cc pc = .ok (.dup2, 1)) (k : zv_V p l e R s m args below meth c Q G A nL cells slots ws (pc + 1) lv (va :: vb :: va :: vb :: rest)) : zv_V p l e R s m args below meth c Q G A nL cells slots ws pc lv (va :: vb :: rest) := fun H locs ls hP hD hS hl => lv_dup2_11 C.1 C.2.1 hd hva hvb (k H locs ls hP hD hS hl)
theorem zv_pop (C : zv_C p s m args c cc nL own Ts G cI A) {va : Value} (hva : va.category = 1) (hd : decode cc pc = .ok (.pop, 1)) (k : zv_V p l e R s m args below meth c Q G A nL cells slots ws (pc + 1) lv rest) : zv_V p l e R s m args below meth c Q G A nL cells slots ws pc lv (va :: rest) := fun H locs ls hP hD hS hl => lv_pop C.1 C.2.1 hd hva (k H locs ls hP hD hS hl)
theorem zv_lcmp (C : zv_C p s m args c cc nL own Ts G cI A) {x y : Int64} (hd : decode cc pc = .ok (.lcmp, 1)) (k : zv_V p l e R s m args below meth c Q G A nL cells slots ws (pc + 1) lv (.int (lg_cmp x y) :: rest)) : zv_V p l e R s m args below meth c Q G A nL cells slots ws pc lv (.long y :: .long x :: rest) := fun H locs ls hP hD hS hl => W.lcmp C.1 C.2.1 hd (k H locs ls hP hD hS hl)
theorem zv_goto (C : zv_C p s m args c cc nL own Ts G cI A) {off : Int} {tgt : Nat} (hd : decode cc pc = .ok (.goto off, 3)) (ht : (pc : Int) + off = (tgt : Int)) (k : zv_V p l e R s m args below meth c Q G A nL cells slots ws tgt lv rest) : zv_V p l e R s m args below meth c Q G A nL cells slots ws pc lv rest := fun H locs ls hP hD hS hl => lv_goto C.1 C.2.1 hd ht (k H locs ls hP hD hS hl)
theorem zv_if_eq (C : zv_C p s m args c cc nL own Ts G cI A) {x : Int32} {off : Int} {tgt : Nat} (hd : decode cc pc = .ok (.ifCond .eq off, 3)) (ht : (pc : Int) + off = (tgt : Int)) (kt : x = 0 → zv_V p l e R s m args below meth c Q G A nL cells slots ws tgt lv rest) (kf : ¬ x = 0 → zv_V p l e R s m args below meth c Q G A nL cells slots ws (pc + 3) lv rest) : zv_V p l e R s m args below meth c Q G A nL cells slots ws pc lv (.int x :: rest) := fun H locs ls hP hD hS hl => lv_if_eq C.1 C.2.1 hd ht (fun h => kt h H locs ls hP hD hS hl) (fun h => kf h H locs ls hP hD hS hl)
theorem zv_icmp_eq (C : zv_C p s m args c cc nL own Ts G cI A) {x y : Int32} {off : Int} {tgt : Nat} (hd : decode cc pc = .ok (.if_icmp .eq off, 3)) (ht : (pc : Int) + off = (tgt : Int)) (kt : x = y → zv_V p l e R s m args below meth c Q G A nL cells slots ws tgt lv rest) (kf : ¬ x = y → zv_V p l e R s m args below meth c Q G A nL cells slots ws (pc + 3) lv rest) : zv_V p l e R s m args below meth c Q G A nL cells slots ws pc lv (.int y :: .int x :: rest) := fun H locs ls hP hD hS hl => lv_icmp_eq C.1 C.2.1 hd ht (fun h => kt h H locs ls hP hD hS hl) (fun h => kf h H locs ls hP hD hS hl)
theorem zv_if_ne (C : zv_C p s m args c cc nL own Ts G cI A) {x : Int32} {off : Int} {tgt : Nat} (hd : decode cc pc = .ok (.ifCond .ne off, 3)) (ht : (pc : Int) + off = (tgt : Int)) (kt : ¬ x = 0 → zv_V p l e R s m args below meth c Q G A nL cells slots ws tgt lv rest) (kf : x = 0 → zv_V p l e R s m args below meth c Q G A nL cells slots ws (pc + 3) lv rest) : zv_V p l e R s m args below meth c Q G A nL cells slots ws pc lv (.int x :: rest) := fun H locs ls hP hD hS hl => lv_if_ne C.1 C.2.1 hd ht (fun h => kt h H locs ls hP hD hS hl) (fun h => kf h H locs ls hP hD hS hl)
theorem zv_icmp_ne (C : zv_C p s m args c cc nL own Ts G cI A) {x y : Int32} {off : Int} {tgt : Nat} (hd : decode cc pc = .ok (.if_icmp .ne off, 3)) (ht : (pc : Int) + off = (tgt : Int)) (kt : ¬ x = y → zv_V p l e R s m args below meth c Q G A nL cells slots ws tgt lv rest) (kf : x = y → zv_V p l e R s m args below meth c Q G A nL cells slots ws (pc + 3) lv rest) : zv_V p l e R s m args below meth c Q G A nL cells slots ws pc lv (.int y :: .int x :: rest) := fun H locs ls hP hD hS hl => lv_icmp_ne C.1 C.2.1 hd ht (fun h => kt h H locs ls hP hD hS hl) (fun h => kf h H locs ls hP hD hS hl)
theorem zv_if_lt (C : zv_C p s m args c cc nL own Ts G cI A) {x : Int32} {off : Int} {tgt : Nat} (hd : decode cc pc = .ok (.ifCond .lt off, 3)) (ht : (pc : Int) + off = (tgt : Int)) (kt : x < 0 → zv_V p l e R s m args below meth c Q G A nL cells slots ws tgt lv rest) (kf : ¬ x < 0 → zv_V p l e R s m args below meth c Q G A nL cells slots ws (pc + 3) lv rest) : zv_V p l e R s m args below meth c Q G A nL cells slots ws pc lv (.int x :: rest) := fun H locs ls hP hD hS hl => lv_if_lt C.1 C.2.1 hd ht (fun h => kt h H locs ls hP hD hS hl) (fun h => kf h H locs ls hP hD hS hl)
theorem zv_icmp_lt (C : zv_C p s m args c cc nL own Ts G cI A) {x y : Int32} {off : Int} {tgt : Nat} (hd : decode cc pc = .ok (.if_icmp .lt off, 3)) (ht : (pc : Int) + off = (tgt : Int)) (kt : x < y → zv_V p l e R s m args below meth c Q G A nL cells slots ws tgt lv rest) (kf : ¬ x < y → zv_V p l e R s m args below meth c Q G A nL cells slots ws (pc + 3) lv rest) : zv_V p l e R s m args below meth c Q G A nL cells slots ws pc lv (.int y :: .int x :: rest) := fun H locs ls hP hD hS hl => lv_icmp_lt C.1 C.2.1 hd ht (fun h => kt h H locs ls hP hD hS hl) (fun h => kf h H locs ls hP hD hS hl)
theorem zv_if_ge (C : zv_C p s m args c cc nL own Ts G cI A) {x : Int32} {off : Int} {tgt : Nat} (hd : decode cc pc = .ok (.ifCond .ge off, 3)) (ht : (pc : Int) + off = (tgt : Int)) (kt : 0 ≤ x → zv_V p l e R s m args below meth c Q G A nL cells slots ws tgt lv rest) (kf : ¬ 0 ≤ x → zv_V p l e R s m args below meth c Q G A nL cells slots ws (pc + 3) lv rest) : zv_V p l e R s m args below meth c Q G A nL cells slots ws pc lv (.int x :: rest) := fun H locs ls hP hD hS hl => lv_if_ge C.1 C.2.1 hd ht (fun h => kt h H locs ls hP hD hS hl) (fun h => kf h H locs ls hP hD hS hl)
theorem zv_icmp_ge (C : zv_C p s m args c cc nL own Ts G cI A) {x y : Int32} {off : Int} {tgt : Nat} (hd : decode cc pc = .ok (.if_icmp .ge off, 3)) (ht : (pc : Int) + off = (tgt : Int)) (kt : y ≤ x → zv_V p l e R s m args below meth c Q G A nL cells slots ws tgt lv rest) (kf : ¬ y ≤ x → zv_V p l e R s m args below meth c Q G A nL cells slots ws (pc + 3) lv rest) : zv_V p l e R s m args below meth c Q G A nL cells slots ws pc lv (.int y :: .int x :: rest) := fun H locs ls hP hD hS hl => lv_icmp_ge C.1 C.2.1 hd ht (fun h => kt h H locs ls hP hD hS hl) (fun h => kf h H locs ls hP hD hS hl)
theorem zv_if_gt (C : zv_C p s m args c cc nL own Ts G cI A) {x : Int32} {off : Int} {tgt : Nat} (hd : decode cc pc = .ok (.ifCond .gt off, 3)) (ht : (pc : Int) + off = (tgt : Int)) (kt : 0 < x → zv_V p l e R s m args below meth c Q G A nL cells slots ws tgt lv rest) (kf : ¬ 0 < x → zv_V p l e R s m args below meth c Q G A nL cells slots ws (pc + 3) lv rest) : zv_V p l e R s m args below meth c Q G A nL cells slots ws pc lv (.int x :: rest) := fun H locs ls hP hD hS hl => lv_if_gt C.1 C.2.1 hd ht (fun h => kt h H locs ls hP hD hS hl) (fun h => kf h H locs ls hP hD hS hl)
theorem zv_icmp_gt (C : zv_C p s m args c cc nL own Ts G cI A) {x y : Int32} {off : Int} {tgt : Nat} (hd : decode cc pc = .ok (.if_icmp .gt off, 3)) (ht : (pc : Int) + off = (tgt : Int)) (kt : y < x → zv_V p l e R s m args below meth c Q G A nL cells slots ws tgt lv rest) (kf : ¬ y < x → zv_V p l e R s m args below meth c Q G A nL cells slots ws (pc + 3) lv rest) : zv_V p l e R s m args below meth c Q G A nL cells slots ws pc lv (.int y :: .int x :: rest) := fun H locs ls hP hD hS hl => lv_icmp_gt C.1 C.2.1 hd ht (fun h => kt h H locs ls hP hD hS hl) (fun h => kf h H locs ls hP hD hS hl)
theorem zv_if_le (C : zv_C p s m args c cc nL own Ts G cI A) {x : Int32} {off : Int} {tgt : Nat} (hd : decode cc pc = .ok (.ifCond .le off, 3)) (ht : (pc : Int) + off = (tgt : Int)) (kt : x ≤ 0 → zv_V p l e R s m args below meth c Q G A nL cells slots ws tgt lv rest) (kf : ¬ x ≤ 0 → zv_V p l e R s m args below meth c Q G A nL cells slots ws (pc + 3) lv rest) : zv_V p l e R s m args below meth c Q G A nL cells slots ws pc lv (.int x :: rest) := fun H locs ls hP hD hS hl => lv_if_le C.1 C.2.1 hd ht (fun h => kt h H locs ls hP hD hS hl) (fun h => kf h H locs ls hP hD hS hl)
theorem zv_icmp_le (C : zv_C p s m args c cc nL own Ts G cI A) {x y : Int32} {off : Int} {tgt : Nat} (hd : decode cc pc = .ok (.if_icmp .le off, 3)) (ht : (pc : Int) + off = (tgt : Int)) (kt : x ≤ y → zv_V p l e R s m args below meth c Q G A nL cells slots ws tgt lv rest) (kf : ¬ x ≤ y → zv_V p l e R s m args below meth c Q G A nL cells slots ws (pc + 3) lv rest) : zv_V p l e R s m args below meth c Q G A nL cells slots ws pc lv (.int y :: .int x :: rest) := fun H locs ls hP hD hS hl => lv_icmp_le C.1 C.2.1 hd ht (fun h => kt h H locs ls hP hD hS hl) (fun h => kf h H locs ls hP hD hS hl)
theorem zv_ldc (C : zv_C p s m args c cc nL own Ts G cI A) {index : Nat} {v : Int32} (hm : Jvm.Cond.constant own index v ∈ Ts) (hd : decode cc pc = .ok (.ldc index, 2)) (k : zv_V p l e R s m args below meth c Q G A nL cells slots ws (pc + 2) lv (.int v :: rest)) : zv_V p l e R s m args below meth c Q G A nL cells slots ws pc lv rest := fun H locs ls hP hD hS hl => lv_ldc C.1 C.2.1 C.2.2.2.1 (C.2.2.2.2.1 _ hm) hd (k H locs ls hP hD hS hl)
theorem zv_ldcw (C : zv_C p s m args c cc nL own Ts G cI A) {index : Nat} {v : Int32} (hm : Jvm.Cond.constant own index v ∈ Ts) (hd : decode cc pc = .ok (.ldc_w index, 3)) (k : zv_V p l e R s m args below meth c Q G A nL cells slots ws (pc + 3) lv (.int v :: rest)) : zv_V p l e R s m args below meth c Q G A nL cells slots ws pc lv rest := fun H locs ls hP hD hS hl => lv_ldcw C.1 C.2.1 C.2.2.2.1 (C.2.2.2.2.1 _ hm) hd (k H locs ls hP hD hS hl)
theorem zv_ldc2 (C : zv_C p s m args c cc nL own Ts G cI A) {index : Nat} {v : Int64} (hm : Jvm.Cond.constantLong own index v ∈ Ts) (hd : decode cc pc = .ok (.ldc2_w index, 3)) (k : zv_V p l e R s m args below meth c Q G A nL cells slots ws (pc + 3) lv (.long v :: rest)) : zv_V p l e R s m args below meth c Q G A nL cells slots ws pc lv rest := fun H locs ls hP hD hS hl => lv_ldc2 C.1 C.2.1 C.2.2.2.1 (C.2.2.2.2.1 _ hm) hd (k H locs ls hP hD hS hl)
theorem zv_iald (C : zv_C p s m args c cc nL own Ts G cI A) (q0 : Nat) {a n : Nat} {f : Nat → Int32} {i : Int32} (hin : vp_in i n) (ha : ws[q0]? = some (a, .inl (cI, n, .inl f))) (hd : decode cc pc = .ok (.iaload, 1)) (k : zv_V p l e R s m args below meth c Q G A nL cells slots ws (pc + 1) lv (.int (f i.toNatClampNeg) :: rest)) : zv_V p l e R s m args below meth c Q G A nL cells slots ws pc lv (.int i :: .ref a :: rest) := fun H locs ls hP hD hS hl => va_iald C.1 C.2.1 C.2.2.2.2.2.1 hP q0 0 ha rfl hin hd (k H locs ls hP hD hS hl)
theorem zv_iast (C : zv_C p s m args c cc nL own Ts G cI A) (q0 : Nat) {a n : Nat} {f : Nat → Int32} {i x : Int32} {ws' : va_W} (hin : vp_in i n) (ha : ws[q0]? = some (a, .inl (cI, n, .inl f))) (hw : ws.set q0 (a, .inl (cI, n, .inl (upd f i.toNatClampNeg x))) = ws') (hd : decode cc pc = .ok (.iastore, 1)) (k : zv_V p l e R s m args below meth c Q G A nL cells slots ws' (pc + 1) lv rest) : zv_V p l e R s m args below meth c Q G A nL cells slots ws pc lv (.int x :: .int i :: .ref a :: rest) := fun H locs ls hP hD hS hl => va_iast C.1 C.2.1 C.2.2.2.2.2.1 hP hD hS q0 0 ha rfl hin hd (fun H locs hP hD hS => k H locs ls (hw ▸ hP) (hw ▸ hD) hS hl)
theorem zv_alen (C : zv_C p s m args c cc nL own Ts G cI A) (q0 : Nat) {a n : Nat} {f : Nat → Int32} {v : Int32} (hv : Int32.ofNat n = v) (ha : ws[q0]? = some (a, .inl (cI, n, .inl f))) (hd : decode cc pc = .ok (.arraylength, 1)) (k : zv_V p l e R s m args below meth c Q G A nL cells slots ws (pc + 1) lv (.int v :: rest)) : zv_V p l e R s m args below meth c Q G A nL cells slots ws pc lv (.ref a :: rest) := fun H locs ls hP hD hS hl => va_alen C.1 C.2.1 C.2.2.2.2.2.1 hP q0 0 ha rfl hv hd (k H locs ls hP hD hS hl)
theorem zv_get (C : zv_C p s m args c cc nL own Ts G cI A) {CC : String} {T : u_T} {N ci index : Nat} (hin : ∀ w ∈ u_ws CC T N, w ∈ Ts) (q0 : Nat) {a : Nat} {fs : List Value} (hc : vwCl[ci]? = some (CC, T, N)) (j : Nat) (hj : j < N) (hm : Cond.fieldLink own index (T j).1 (T j).2.1 (T j).2.2.1 ∈ Ts) {v : Value} (he : ws[q0]? = some (a, .inr (ci, fs))) (hv : fs[j]? = some v) (hd : decode cc pc = .ok (.getfield index, 3)) (k : zv_V p l e R s m args below meth c Q G A nL cells slots ws (pc + 3) lv (v :: rest)) : zv_V p l e R s m args below meth c Q G A nL cells slots ws pc lv (.ref a :: rest) := fun H locs ls hP hD hS hl => va_get C.1 C.2.1 C.2.2.2.2.1 hin C.2.2.2.1 C.2.2.2.2.2.1 hP q0 he hc j hj (C.2.2.2.2.1 _ hm) (fun _ h9 => h9) hv hd (k H locs ls hP hD hS hl)
theorem zv_put (C : zv_C p s m args c cc nL own Ts G cI A) {CC : String} {T : u_T} {N ci index : Nat} (hin : ∀ w ∈ u_ws CC T N, w ∈ Ts) (ty0 : Nat → FieldType) (hty : ∀ k, k < N → parseFieldDescriptor (T k).2.2.1 = some (ty0 k)) (hnm : ∀ a, a < N → ∀ b, b < N → a ≠ b → (T a).2.1 ≠ (T b).2.1) (q0 : Nat) {a : Nat} {fs : List Value} (hc : vwCl[ci]? = some (CC, T, N)) (j : Nat) (hj : j < N) (hm : Cond.fieldLink own index (T j).1 (T j).2.1 (T j).2.2.1 ∈ Ts) (hfin : (T j).2.2.2 = false) {ty : FieldType} {v : Value} (hpd : parseFieldDescriptor (T j).2.2.1 = some ty) (hn : narrow ty v = v) (hfit : fits ty v = true) (he : ws[q0]? = some (a, .inr (ci, fs))) (hlen : j < fs.length) {ws' : va_W} (hw : ws.set q0 (a, .inr (ci, fs.set j v)) = ws') (hd : decode cc pc = .ok (.putfield index, 3)) (k : zv_V p l e R s m args below meth c Q G A nL cells slots ws' (pc + 3) lv rest) : zv_V p l e R s m args below meth c Q G A nL cells slots ws pc lv (v :: .ref a :: rest) := fun H locs ls hP hD hS hl => va_put C.1 C.2.1 C.2.2.2.2.1 hin ty0 hty hnm C.2.2.2.1 C.2.2.2.2.2.1 hP hD hS q0 he hc j hj (C.2.2.2.2.1 _ hm) (fun _ h9 => h9) hfin hpd hn hfit hlen hd (fun H locs hP hD hS => k H locs ls (hw ▸ hP) (hw ▸ hD) hS hl)

theorem zv_lvs {lv' : List (Nat × Value)} (ks : List Nat) (h : lv_pick lv ks = lv') (k : zv_V p l e R s m args below meth c Q G A nL cells slots ws pc lv' st0) : zv_V p l e R s m args below meth c Q G A nL cells slots ws pc lv st0 := fun H locs ls hP hD hS hl => k H locs ls hP hD hS (lv_sub hl ks h)
theorem zv_join {α : Type} {KK : α → Prop} {wsJ : α → va_W} {pcJ : Nat} {lvJ : α → List (Nat × Value)} {stJ : α → List Value} (hJ : ∀ u, KK u → zv_V p l e R s m args below meth c Q G A nL cells slots (wsJ u) pcJ (lvJ u) (stJ u))
    (k : (∀ u, KK u → zv_V p l e R s m args below meth c Q G A nL cells slots (wsJ u) pcJ (lvJ u) (stJ u)) → zv_V p l e R s m args below meth c Q G A nL cells slots ws pc lv st0) : zv_V p l e R s m args below meth c Q G A nL cells slots ws pc lv st0 := k hJ
theorem zv_wss {ws' : va_W} (h : ws = ws') (k : zv_V p l e R s m args below meth c Q G A nL cells slots ws' pc lv st0) : zv_V p l e R s m args below meth c Q G A nL cells slots ws pc lv st0 := h ▸ k
theorem zv_topi {x : Int32} (k : ∀ y : Int32, y = x → zv_V p l e R s m args below meth c Q G A nL cells slots ws pc lv (.int y :: rest)) : zv_V p l e R s m args below meth c Q G A nL cells slots ws pc lv (.int x :: rest) := k x rfl
theorem zv_topl {x : Int64} (k : ∀ y : Int64, y = x → zv_V p l e R s m args below meth c Q G A nL cells slots ws pc lv (.long y :: rest)) : zv_V p l e R s m args below meth c Q G A nL cells slots ws pc lv (.long x :: rest) := k x rfl
theorem zv_mmin (C : zv_C p s m args c cc nL own Ts G cI A) {index : Nat} (hlink : Cond.methodLink own index Lib.Math.min.name ∈ Ts) (hstat : Cond.static Lib.Math.min.name ∈ Ts) (hini : Cond.initialized "java/lang/Math" ∈ Ts) (hcode : Cond.code Lib.Math.min.name Lib.Math.min.code 2 (some .int) ∈ Ts) (hframes : 1 ≤ R.frames) (hlocals : (rest.map fun v => v.category).sum + 13 ≤ R.locals) (hc : cells ≤ R.cells) (hs : slots ≤ R.slots) {x y : Int32} (hd : decode cc pc = .ok (.invokestatic index, 3)) (k : zv_V p l e R s m args below meth c Q G A nL cells slots ws (pc + 3) lv (.int (if y < x then y else x) :: rest)) : zv_V p l e R s m args below meth c Q G A nL cells slots ws pc lv (.int y :: .int x :: rest) := fun H locs ls hP hD hS hl => va_mmin C.1 C.2.1 (C.2.2.1.trans hl.1.symm) C.2.2.2.1 (C.2.2.2.2.1 _ hlink) (C.2.2.2.2.1 _ hstat) (C.2.2.2.2.1 _ hini) (C.2.2.2.2.1 _ hcode) hframes hlocals hc hs hd (k H locs ls hP hD hS hl)
/-- a method's contract out of its walk -/
theorem zv_met {y : MethodName} {wsM ws0 : List Cond} {rm : Room} {av : List Value} {wc : va_W} {lv0 : List (Nat × Value)} {Qc : (Nat → Prop) → Array Value → State → Outcome → State → Prop} {mc ms : Nat} {maxL : Nat} {ret : Option FieldType}
    (hy : plainName y.cls = true) (hw : wsM = Cond.code y cc maxL ret :: ws0) (hlen : (lg_sl av).length ≤ maxL) (hlv : lv_args 0 av = lv0)
    (body : ∀ (p : Program) (e : Env) (s : State) (m : MethodId) (below : List Frame) (meth : Method) (c : Code) (A : Nat → Prop), zv_C p s m av.toArray c cc maxL y.cls wsM G cI A → meth.sig.returnType = ret → meth.locks = false →
      zv_V p l e (headSpec wsM rm).room s m av.toArray below meth c (MQ below (Qc A) av.toArray s mc ms A) G A maxL 0 0 wc 0 lv0 []) (sz : Nat) :
    Met l y wsM rm (va_Pc av (zv_in G cI wc sz)) (Qc (va_A wc sz)) mc ms (va_A wc sz) := by
  refine Met.ofW (cc := cc) (maxL := maxL) (ret := ret) hy hw ?_
  intro p e s m args below meth c s₁ B hml hv
  obtain ⟨rfl, hsz, hP, hK, hD0⟩ := hv
  subst hsz
  have hts := atoms_spec (ws := wsM) B.pre
  have hown : s.vm.findClass y.cls = some m.cls := findClass_of_methodNamed B.named
  have hD := hD0.self (sz := s.heap.size)
  rw [lg_entry_eq]
  have hl := lv_entry av (n := maxL) hlen
  exact body p e s m below meth c (va_A wc s.heap.size) ⟨B.exec, B.bytes, hml, hown, hts, hK, fun q h => Or.inr h⟩ B.returns B.notSynchronized s.heap [] _ hP hD va_S.rf (hlv ▸ hl)
theorem zv_vret (C : zv_C p s m args c cc nL own Ts G cI A) (hr : meth.sig.returnType = none) (hlk : meth.locks = false) {S : Type} {post : S → Prop} {w1 : S → va_W} (u : S) (hp : post u) (hw : ws = w1 u) (hd : decode cc pc = .ok (.return_, 1)) :
    zv_V p l e R s m args below meth c (MQ below (va_Qv post (fun u t => zv_out G cI A (w1 u) t) A) args s cells slots A) G A nL cells slots ws pc lv [] := fun H locs ls hP hD hS hl =>
  W.vret C.1 C.2.1 hr (fun t ht hW => ⟨⟨u, rfl, hp, by rw [ht, ← hw]; exact hP, va_K.moved hW.alike C.2.2.2.2.2.1, hw ▸ hD⟩, hS.F ht⟩) hS.2.2 hd hlk
theorem zv_iret (C : zv_C p s m args c cc nL own Ts G cI A) (hr : meth.sig.returnType = some .int) (hlk : meth.locks = false) {S : Type} {post : Int32 → S → Prop} {w1 : S → va_W} (v : Int32) (u : S) (hp : post v u) (hw : ws = w1 u) (hd : decode cc pc = .ok (.ireturn, 1)) :
    zv_V p l e R s m args below meth c (MQ below (va_Qi post (fun u t => zv_out G cI A (w1 u) t) A) args s cells slots A) G A nL cells slots ws pc lv [.int v] := fun H locs ls hP hD hS hl =>
  W.iret C.1 C.2.1 hr (fun t ht hW => ⟨⟨v, u, rfl, hp, by rw [ht, ← hw]; exact hP, va_K.moved hW.alike C.2.2.2.2.2.1, hw ▸ hD⟩, hS.F ht⟩) hS.2.2 hd hlk
theorem zv_zret (C : zv_C p s m args c cc nL own Ts G cI A) (hr : meth.sig.returnType = some .boolean) (hlk : meth.locks = false) {S : Type} {post : Int32 → S → Prop} {w1 : S → va_W} (v : Int32) (u : S) (hn : narrow .boolean (.int v) = .int v) (hp : post v u) (hw : ws = w1 u) (hd : decode cc pc = .ok (.ireturn, 1)) :
    zv_V p l e R s m args below meth c (MQ below (va_Qi post (fun u t => zv_out G cI A (w1 u) t) A) args s cells slots A) G A nL cells slots ws pc lv [.int v] := fun H locs ls hP hD hS hl =>
  W.zret C.1 C.2.1 hr hn (fun t ht hW => ⟨⟨v, u, rfl, hp, by rw [ht, ← hw]; exact hP, va_K.moved hW.alike C.2.2.2.2.2.1, hw ▸ hD⟩, hS.F ht⟩) hS.2.2 hd hlk
theorem zv_lret (C : zv_C p s m args c cc nL own Ts G cI A) (hr : meth.sig.returnType = some .long) (hlk : meth.locks = false) {S : Type} {post : Int64 → S → Prop} {w1 : S → va_W} (v : Int64) (u : S) (hp : post v u) (hw : ws = w1 u) (hd : decode cc pc = .ok (.lreturn, 1)) :
    zv_V p l e R s m args below meth c (MQ below (va_Ql post (fun u t => zv_out G cI A (w1 u) t) A) args s cells slots A) G A nL cells slots ws pc lv [.long v] := fun H locs ls hP hD hS hl =>
  W.lret C.1 C.2.1 hr (fun t ht hW => ⟨⟨v, u, rfl, hp, by rw [ht, ← hw]; exact hP, va_K.moved hW.alike C.2.2.2.2.2.1, hw ▸ hD⟩, hS.F ht⟩) hS.2.2 hd hlk
/-- a run of a call: static, virtual -/
def zv_Run (p : Program) (l : Launch) (e : Env) (R : Room) (s : State) (m : MethodId) (args : Array Value) (below : List Frame) (meth : Method) (c : Code) (G : va_G) (A : Nat → Prop) (nL cells slots : Nat) (ws : va_W) (pc : Nat) (lv : List (Nat × Value)) (st0 : List Value) (mc ms : Nat) (rest : List Value) (wc : va_W) (Qa : (Nat → Prop) → State → Outcome → State → Prop) : Prop :=
  ∀ (H : Heap) (locs : List Loc) (ls : Array Slot), va_P G vwCl wc H → va_P G vwCl ws H → va_D A wc → lv_has ls nL lv → va_Run p l e R s m args below meth c H locs cells slots mc ms (F0 m pc ls st0) rest (Qa (va_A wc H.size)) (va_A wc H.size)
theorem zv_runS (C : zv_C p s m args c cc nL own Ts G cI A) {y : MethodName} {bytes : ByteArray} {maxL mc ms n index : Nat} {ret : Option FieldType} {wsc : List Cond} {rm : Room} {As : List Value} {wc : va_W} {Qc : (Nat → Prop) → Array Value → State → Outcome → State → Prop}
    (hM : ∀ sz, Met l y wsc rm (va_Pc As (zv_in G cI wc sz)) (Qc (va_A wc sz)) mc ms (va_A wc sz)) (cw : CallB R s args own index y bytes maxL ret wsc rm mc ms n ∧ (Cond.static y).before args s = true)
    (hn : As.length = n) (hst : st0 = As.reverse ++ rest) (hroom : (rest.map fun v => v.category).sum ≤ 8) (hf : cells + mc ≤ R.cells ∧ slots + ms ≤ R.slots) (hd : decode cc pc = .ok (.invokestatic index, 3)) :
    zv_Run p l e R s m args below meth c G A nL cells slots ws pc lv st0 mc ms rest wc (fun A1 => Qc A1 As.toArray) := fun H locs ls hPc hP hD hl =>
  va_runS ⟨C.1, C.2.1, C.2.2.1, C.2.2.2.1, C.2.2.2.2.1⟩ (hM H.size) cw ⟨zv_blind, zv_pre C.2.2.2.2.2.1 hPc hD⟩ rfl hn hl.1 hst (lv_room hroom) hd hf
theorem zv_runV (C : zv_C p s m args c cc nL own Ts G cI A) {y : MethodName} {bytes : ByteArray} {maxL mc ms n index : Nat} {ret : Option FieldType} {wsc : List Cond} {rm : Room} {b : Nat} {As : List Value} {wc : va_W} {Qc : (Nat → Prop) → Array Value → State → Outcome → State → Prop} {CC : String} {q0 ci : Nat} {fs : List Value} {r : vw_C}
    (hM : ∀ sz, Met l y wsc rm (va_Pc (.ref b :: As) (zv_in G cI wc sz)) (Qc (va_A wc sz)) mc ms (va_A wc sz)) (cw : CallW R s args own CC index y bytes maxL ret wsc rm mc ms n) (hc : vwCl[ci]? = some r) (hcc : r.1 = CC) (he : ws[q0]? = some (b, .inr (ci, fs)))
    (hn : As.length = n) (hst : st0 = As.reverse ++ .ref b :: rest) (hroom : (rest.map fun v => v.category).sum ≤ 8) (hf : cells + mc ≤ R.cells ∧ slots + ms ≤ R.slots) (hd : decode cc pc = .ok (.invokevirtual index, 3)) :
    zv_Run p l e R s m args below meth c G A nL cells slots ws pc lv st0 mc ms rest wc (fun A1 => Qc A1 (Value.ref b :: As).toArray) := fun H locs ls hPc hP hD hl =>
  va_runV ⟨C.1, C.2.1, C.2.2.1, C.2.2.2.1, C.2.2.2.2.1⟩ (hM H.size) cw ⟨zv_blind, hcc ▸ va_recv C.2.2.2.2.2.1 hP hc he, zv_pre C.2.2.2.2.2.1 hPc hD⟩ rfl hn hl.1 hst (lv_room hroom) hd hf

def zmem (a : Nat) : List Nat → Bool
  | [] => false
  | b :: l => cond (Nat.beq a b) true (zmem a l)
def znd : List Nat → Bool
  | [] => true
  | a :: l => cond (zmem a l) false (znd l)
def zdj : List Nat → List Nat → Bool
  | [], _ => true
  | a :: l, r => cond (zmem a r) false (zdj l r)
/-- every number below n is in one of the two -/
def zcov (c r : List Nat) : Nat → Bool
  | 0 => true
  | n + 1 => cond (zmem n c) (zcov c r n) (cond (zmem n r) (zcov c r n) false)
theorem zmem_iff {a : Nat} {l : List Nat} : zmem a l = true ↔ a ∈ l := by
  induction l with
  | nil => simp [zmem]
  | cons b l ih =>
    cases h : Nat.beq a b with
    | true => have := Nat.eq_of_beq_eq_true h; subst this; simp [zmem, h]
    | false =>
      have hn : a ≠ b := Nat.ne_of_beq_eq_false h
      simp [zmem, h, ih, hn]
theorem znd_nd {l : List Nat} (h : znd l = true) : va_nd l = true := by
  induction l with
  | nil => rfl
  | cons a l ih =>
    cases hz : zmem a l with
    | true => simp [znd, hz] at h
    | false =>
      simp only [znd, hz, cond_false] at h
      have hn : a ∉ l := fun hm => by rw [zmem_iff.mpr hm] at hz; cases hz
      simp [va_nd, hn, ih h]
theorem zdj_dis {r c : List Nat} (h : zdj r c = true) : ∀ i ∈ r, i ∉ c := by
  induction r with
  | nil => intro i hi; cases hi
  | cons a r ih =>
    cases hz : zmem a c with
    | true => simp [zdj, hz] at h
    | false =>
      simp only [zdj, hz, cond_false] at h
      intro i hi
      rcases List.mem_cons.mp hi with rfl | hi
      · intro hm; rw [zmem_iff.mpr hm] at hz; cases hz
      · exact ih h i hi
theorem zcov_in {c r : List Nat} {n : Nat} (h : zcov c r n = true) : ∀ i, i < n → i ∈ c ∨ i ∈ r := by
  induction n with
  | zero => intro i hi; omega
  | succ n ih =>
    intro i hi
    cases hz : zmem n c with
    | true =>
      simp only [zcov, hz, cond_true] at h
      rcases Nat.lt_or_ge i n with q | q
      · exact ih h i q
      · have : i = n := by omega
        subst this; exact Or.inl (zmem_iff.mp hz)
    | false =>
      cases hy : zmem n r with
      | false => simp [zcov, hz, hy] at h
      | true =>
        simp only [zcov, hz, hy, cond_true, cond_false] at h
        rcases Nat.lt_or_ge i n with q | q
        · exact ih h i q
        · have : i = n := by omega
          subst this; exact Or.inr (zmem_iff.mp hy)
theorem zv_idx {wa wb : va_W} {is : List Nat} (hs : is.map (fun i => wa[i]?) = wb.map some) {i : Nat} (hi : i ∈ is) {q : Nat × va_E} (hq : wa[i]? = some q) : ∃ a : Nat, is[a]? = some i ∧ wb[a]? = some q := by
  obtain ⟨a, ha⟩ := List.getElem?_of_mem hi
  refine ⟨a, ha, ?_⟩
  have h1 : (is.map (fun i => wa[i]?))[a]? = some (some q) := by rw [List.getElem?_map, ha]; simp [hq]
  rw [hs, List.getElem?_map] at h1
  cases hb : wb[a]? with
  | none => rw [hb] at h1; cases h1
  | some x => rw [hb] at h1; exact congrArg some (Option.some.inj (Option.some.inj h1))
/-- the world behind a call: the callee's cells in their places, the others as they were -/
theorem zv_place {wr w1 w2 : va_W} {H : Heap} {isC isR : List Nat} (hC : isC.map (fun i => w2[i]?) = w1.map some) (hR : isR.map (fun i => w2[i]?) = wr.map some) (hcov : zcov isC isR w2.length = true)
    (hP : va_P G vwCl (wr ++ w1) H) (hD : va_D A (wr ++ w1)) : va_P G vwCl w2 H ∧ va_D A w2 := by
  have key : ∀ (i : Nat) (q : Nat × va_E), w2[i]? = some q → ∃ a : Nat, (wr ++ w1)[a]? = some q ∧ ((a < wr.length ∧ isR[a]? = some i) ∨ (wr.length ≤ a ∧ isC[a - wr.length]? = some i)) := by
    intro i q hq
    have hl : i < w2.length := (List.getElem?_eq_some_iff.mp hq).1
    rcases zcov_in hcov i hl with h | h
    · obtain ⟨a, h1, h2⟩ := zv_idx hC h hq
      refine ⟨wr.length + a, ?_, Or.inr ⟨Nat.le_add_right _ _, ?_⟩⟩
      · rw [List.getElem?_append_right (Nat.le_add_right _ _), Nat.add_sub_cancel_left]; exact h2
      · rw [Nat.add_sub_cancel_left]; exact h1
    · obtain ⟨a, h1, h2⟩ := zv_idx hR h hq
      have hla : a < wr.length := (List.getElem?_eq_some_iff.mp h2).1
      exact ⟨a, by rw [List.getElem?_append_left hla]; exact h2, Or.inl ⟨hla, h1⟩⟩
  refine ⟨fun i q hq => ?_, fun i j x y hx hy hxy => ?_, fun i q hq => ?_⟩
  · obtain ⟨a, h1, -⟩ := key i q hq
    exact hP a q h1
  · obtain ⟨a, h1, ha⟩ := key i x hx
    obtain ⟨b, h2, hb⟩ := key j y hy
    have hab : a = b := hD.1 a b x y h1 h2 hxy
    subst hab
    rcases ha with ⟨ha, e1⟩ | ⟨ha, e1⟩ <;> rcases hb with ⟨hb, e2⟩ | ⟨hb, e2⟩
    · exact Option.some.inj (e1.symm.trans e2)
    · omega
    · omega
    · exact Option.some.inj (e1.symm.trans e2)
  · obtain ⟨a, h1, -⟩ := key i q hq
    exact hD.2 a q h1
theorem zv_fm {wa : va_W} {is : List Nat} (h : is.all (fun i => (wa[i]?).isSome) = true) : is.map (fun i => wa[i]?) = (is.filterMap (fun i => wa[i]?)).map some := by
  induction is with
  | nil => rfl
  | cons i is ih =>
    rw [List.all_cons, Bool.and_eq_true] at h
    cases hi : wa[i]? with
    | none => rw [hi] at h; exact absurd h.1 (by simp)
    | some x => rw [List.map_cons, List.filterMap_cons, hi, ih h.2]; rfl
theorem zv_psub {wa wb : va_W} {H : Heap} (h : va_P G vwCl wa H) {is : List Nat} (hs : is.map (fun i => wa[i]?) = wb.map some) : va_P G vwCl wb H := by
  intro k q hk
  have h1 : (is.map (fun i => wa[i]?))[k]? = some (some q) := by rw [hs, List.getElem?_map, hk]; rfl
  rw [List.getElem?_map] at h1
  cases hi : is[k]? with
  | none => rw [hi] at h1; cases h1
  | some i =>
    rw [hi] at h1
    exact h i q (Option.some.inj h1)

theorem zv_cv (C : zv_C p s m args c cc nL own Ts G cI A) {S : Type} {post : S → Prop} {w1 ws' : S → va_W} {wc : va_W} {a : Array Value} {mc ms : Nat}
    (hrun : zv_Run p l e R s m args below meth c G A nL cells slots ws pc lv st0 mc ms rest wc (fun A1 => va_Qv post (fun u t => zv_out G cI A1 (w1 u) t) A1 a))
    (isC isR : List Nat) (hC : isC.map (fun i => ws[i]?) = wc.map some) (hR : isR.all (fun i => (ws[i]?).isSome) = true) (hnC : znd isC = true) (hnR : znd isR = true) (hdis : zdj isR isC = true)
    (hC2 : ∀ u, isC.map (fun i => (ws' u)[i]?) = (w1 u).map some) (hR2 : ∀ u, isR.map (fun i => (ws' u)[i]?) = (isR.filterMap (fun i => ws[i]?)).map some) (hcov : ∀ u, zcov isC isR (ws' u).length = true)
    (k : ∀ u : S, post u → zv_V p l e R s m args below meth c Q G A nL (cells + mc) (slots + ms) (ws' u) (pc + 3) lv rest) : zv_V p l e R s m args below meth c Q G A nL cells slots ws pc lv st0 := by
  intro H locs ls hP hD hS hl
  have hDc : va_D A wc := hD.sub isC (znd_nd hnC) hC
  have hPc : va_P G vwCl wc H := zv_psub hP hC
  have hFc := va_free (wc := wc) hD hS C.2.2.2.2.2.2 isC hC
  refine va_callv (hrun H locs ls hPc hP hDc hl) hS (fun q _ h => hFc q h) hFc (fun u t H1 locs1 ht hvm hw hB hz1 hk1 hS => ?_)
  obtain ⟨hP1, hK1, hD1⟩ := hB
  rw [ht] at hP1
  obtain ⟨hP, hD⟩ := va_join (wr := isR.filterMap (fun i => ws[i]?)) (w1 := w1 u) hP hD isC isR hC (zv_fm hR) (znd_nd hnR) (zdj_dis hdis) hk1 hFc hP1 hD1
  obtain ⟨hP, hD⟩ := zv_place (w2 := ws' u) (hC2 u) (hR2 u) (hcov u) hP hD
  exact k u hw H1 locs1 ls hP hD hS hl

theorem zv_ci (C : zv_C p s m args c cc nL own Ts G cI A) {S : Type} {post : Int32 → S → Prop} {w1 ws' : S → va_W} {wc : va_W} {a : Array Value} {mc ms : Nat}
    (hrun : zv_Run p l e R s m args below meth c G A nL cells slots ws pc lv st0 mc ms rest wc (fun A1 => va_Qi post (fun u t => zv_out G cI A1 (w1 u) t) A1 a))
    (isC isR : List Nat) (hC : isC.map (fun i => ws[i]?) = wc.map some) (hR : isR.all (fun i => (ws[i]?).isSome) = true) (hnC : znd isC = true) (hnR : znd isR = true) (hdis : zdj isR isC = true)
    (hC2 : ∀ u, isC.map (fun i => (ws' u)[i]?) = (w1 u).map some) (hR2 : ∀ u, isR.map (fun i => (ws' u)[i]?) = (isR.filterMap (fun i => ws[i]?)).map some) (hcov : ∀ u, zcov isC isR (ws' u).length = true)
    (k : ∀ (r : Int32) (u : S), post r u → zv_V p l e R s m args below meth c Q G A nL (cells + mc) (slots + ms) (ws' u) (pc + 3) lv (.int r :: rest)) : zv_V p l e R s m args below meth c Q G A nL cells slots ws pc lv st0 := by
  intro H locs ls hP hD hS hl
  have hDc : va_D A wc := hD.sub isC (znd_nd hnC) hC
  have hPc : va_P G vwCl wc H := zv_psub hP hC
  have hFc := va_free (wc := wc) hD hS C.2.2.2.2.2.2 isC hC
  refine va_calli (hrun H locs ls hPc hP hDc hl) hS (fun q _ h => hFc q h) hFc (fun r u t H1 locs1 ht hvm hw hB hz1 hk1 hS => ?_)
  obtain ⟨hP1, hK1, hD1⟩ := hB
  rw [ht] at hP1
  obtain ⟨hP, hD⟩ := va_join (wr := isR.filterMap (fun i => ws[i]?)) (w1 := w1 u) hP hD isC isR hC (zv_fm hR) (znd_nd hnR) (zdj_dis hdis) hk1 hFc hP1 hD1
  obtain ⟨hP, hD⟩ := zv_place (w2 := ws' u) (hC2 u) (hR2 u) (hcov u) hP hD
  exact k r u hw H1 locs1 ls hP hD hS hl

theorem zv_cl (C : zv_C p s m args c cc nL own Ts G cI A) {S : Type} {post : Int64 → S → Prop} {w1 ws' : S → va_W} {wc : va_W} {a : Array Value} {mc ms : Nat}
    (hrun : zv_Run p l e R s m args below meth c G A nL cells slots ws pc lv st0 mc ms rest wc (fun A1 => va_Ql post (fun u t => zv_out G cI A1 (w1 u) t) A1 a))
    (isC isR : List Nat) (hC : isC.map (fun i => ws[i]?) = wc.map some) (hR : isR.all (fun i => (ws[i]?).isSome) = true) (hnC : znd isC = true) (hnR : znd isR = true) (hdis : zdj isR isC = true)
    (hC2 : ∀ u, isC.map (fun i => (ws' u)[i]?) = (w1 u).map some) (hR2 : ∀ u, isR.map (fun i => (ws' u)[i]?) = (isR.filterMap (fun i => ws[i]?)).map some) (hcov : ∀ u, zcov isC isR (ws' u).length = true)
    (k : ∀ (r : Int64) (u : S), post r u → zv_V p l e R s m args below meth c Q G A nL (cells + mc) (slots + ms) (ws' u) (pc + 3) lv (.long r :: rest)) : zv_V p l e R s m args below meth c Q G A nL cells slots ws pc lv st0 := by
  intro H locs ls hP hD hS hl
  have hDc : va_D A wc := hD.sub isC (znd_nd hnC) hC
  have hPc : va_P G vwCl wc H := zv_psub hP hC
  have hFc := va_free (wc := wc) hD hS C.2.2.2.2.2.2 isC hC
  refine va_calll (hrun H locs ls hPc hP hDc hl) hS (fun q _ h => hFc q h) hFc (fun r u t H1 locs1 ht hvm hw hB hz1 hk1 hS => ?_)
  obtain ⟨hP1, hK1, hD1⟩ := hB
  rw [ht] at hP1
  obtain ⟨hP, hD⟩ := va_join (wr := isR.filterMap (fun i => ws[i]?)) (w1 := w1 u) hP hD isC isR hC (zv_fm hR) (znd_nd hnR) (zdj_dis hdis) hk1 hFc hP1 hD1
  obtain ⟨hP, hD⟩ := zv_place (w2 := ws' u) (hC2 u) (hR2 u) (hcov u) hP hD
  exact k r u hw H1 locs1 ls hP hD hS hl

theorem zv_aret (C : zv_C p s m args c cc nL own Ts G cI A) {rt : FieldType} (hr : meth.sig.returnType = some rt) (hrt : (∃ n, rt = .object n) ∨ ∃ t, rt = .array t) (hlk : meth.locks = false) {S : Type} {post : S → Prop} {sel : S → Nat} {w1 : S → va_W} {x : Nat} (u : S) (hx : x = sel u) (hp : post u) (hw : ws = w1 u) (hd : decode cc pc = .ok (.areturn, 1)) :
    zv_V p l e R s m args below meth c (MQ below (va_Qr post (fun u ra t => ra = sel u ∧ zv_out G cI A (w1 u) t) A) args s cells slots A) G A nL cells slots ws pc lv [.ref x] := fun H locs ls hP hD hS hl =>
  W.aret C.1 C.2.1 hr hrt (Or.inr ⟨x, rfl⟩) (fun t ht hW => ⟨⟨u, x, rfl, hp, hx, by rw [ht, ← hw]; exact hP, va_K.moved hW.alike C.2.2.2.2.2.1, hw ▸ hD⟩, hS.F ht⟩) hS.2.2 hd hlk
theorem zv_cr0 (C : zv_C p s m args c cc nL own Ts G cI A) {S : Type} {post : S → Prop} {sel : S → Nat} {w1 ws' : S → va_W} {wc : va_W} {a : Array Value}
    (hrun : zv_Run p l e R s m args below meth c G A nL cells slots ws pc lv st0 0 0 rest wc (fun A1 => va_Qr post (fun u ra t => ra = sel u ∧ zv_out G cI A1 (w1 u) t) A1 a))
    (isC isR : List Nat) (hC : isC.map (fun i => ws[i]?) = wc.map some) (hR : isR.all (fun i => (ws[i]?).isSome) = true) (hnC : znd isC = true) (hnR : znd isR = true) (hdis : zdj isR isC = true)
    (hC2 : ∀ u, isC.map (fun i => (ws' u)[i]?) = (w1 u).map some) (hR2 : ∀ u, isR.map (fun i => (ws' u)[i]?) = (isR.filterMap (fun i => ws[i]?)).map some) (hcov : ∀ u, zcov isC isR (ws' u).length = true)
    (k : ∀ (u : S) (ra : Nat), post u → ra = sel u → zv_V p l e R s m args below meth c Q G A nL cells slots (ws' u) (pc + 3) lv (.ref ra :: rest)) : zv_V p l e R s m args below meth c Q G A nL cells slots ws pc lv st0 := by
  intro H locs ls hP hD hS hl
  have hDc : va_D A wc := hD.sub isC (znd_nd hnC) hC
  have hPc : va_P G vwCl wc H := zv_psub hP hC
  have hFc := va_free (wc := wc) hD hS C.2.2.2.2.2.2 isC hC
  refine va_callr (hrun H locs ls hPc hP hDc hl) hS (fun q _ h => hFc q h) hFc (fun u ra t H1 locs1 ht hvm hw hB hz1 hk1 hS => ?_)
  obtain ⟨hra, hP1, hK1, hD1⟩ := hB
  rw [ht] at hP1
  obtain ⟨hP, hD⟩ := va_join (wr := isR.filterMap (fun i => ws[i]?)) (w1 := w1 u) hP hD isC isR hC (zv_fm hR) (znd_nd hnR) (zdj_dis hdis) hk1 hFc hP1 hD1
  obtain ⟨hP, hD⟩ := zv_place (w2 := ws' u) (hC2 u) (hR2 u) (hcov u) hP hD
  exact k u ra hw hra H1 locs1 ls hP hD hS hl
theorem zv_copyi (C : zv_C p s m args c cc nL own Ts G cI A) {index : Nat} (hlink : Cond.methodLink own index arraycopyName ∈ Ts) (hnat : Cond.native arraycopyName ∈ Ts) (hstat : Cond.static arraycopyName ∈ Ts) (hini : Cond.initialized "java/lang/System" ∈ Ts) (q0 q1 : Nat) {a a0 n0 n1 : Nat} {f g : Nat → Int32} {sp dp n : Int32} {ws' : va_W} (h1 : ¬ sp < 0) (h2 : ¬ dp < 0) (h3 : ¬ n < 0) (h4 : sp.toNatClampNeg + n.toNatClampNeg ≤ n0) (h5 : dp.toNatClampNeg + n.toNatClampNeg ≤ n1)
    (hframes : 1 ≤ R.frames) (hlocals : (rest.map fun v => v.category).sum + (nativeFrameWords "java/lang/System" "arraycopy" 5 + 11) ≤ R.locals) (ha0 : ws[q0]? = some (a0, .inl (cI, n0, .inl f))) (ha1 : ws[q1]? = some (a, .inl (cI, n1, .inl g))) (hw : ws.set q1 (a, .inl (cI, n1, .inl (va_cpy f g sp.toNatClampNeg dp.toNatClampNeg n.toNatClampNeg))) = ws') (hd : decode cc pc = .ok (.invokestatic index, 3))
    (k : zv_V p l e R s m args below meth c Q G A nL cells slots ws' (pc + 3) lv rest) : zv_V p l e R s m args below meth c Q G A nL cells slots ws pc lv (.int n :: .int dp :: .ref a :: .int sp :: .ref a0 :: rest) := fun H locs ls hP hD hS hl =>
  va_copyi C.1 C.2.1 (C.2.2.1.trans hl.1.symm) C.2.2.2.1 (C.2.2.2.2.1 _ hlink) (C.2.2.2.2.1 _ hnat) (C.2.2.2.2.1 _ hstat) (C.2.2.2.2.1 _ hini) C.2.2.2.2.2.1 hP hD hS q0 q1 0 0 (ty := .int) ha0 ha1 rfl rfl rfl h1 h2 h3 h4 h5 (fun _ _ => rfl) hframes hlocals hd (fun H locs hP hD hS => k H locs ls (hw ▸ hP) (hw ▸ hD) hS hl)
theorem zv_cv0 (C : zv_C p s m args c cc nL own Ts G cI A) {S : Type} {post : S → Prop} {w1 ws' : S → va_W} {wc : va_W} {a : Array Value}
    (hrun : zv_Run p l e R s m args below meth c G A nL cells slots ws pc lv st0 0 0 rest wc (fun A1 => va_Qv post (fun u t => zv_out G cI A1 (w1 u) t) A1 a))
    (isC isR : List Nat) (hC : isC.map (fun i => ws[i]?) = wc.map some) (hR : isR.all (fun i => (ws[i]?).isSome) = true) (hnC : znd isC = true) (hnR : znd isR = true) (hdis : zdj isR isC = true)
    (hC2 : ∀ u, isC.map (fun i => (ws' u)[i]?) = (w1 u).map some) (hR2 : ∀ u, isR.map (fun i => (ws' u)[i]?) = (isR.filterMap (fun i => ws[i]?)).map some) (hcov : ∀ u, zcov isC isR (ws' u).length = true)
    (k : ∀ u : S, post u →  zv_V p l e R s m args below meth c Q G A nL cells slots (ws' u) (pc + 3) lv rest) : zv_V p l e R s m args below meth c Q G A nL cells slots ws pc lv st0 := zv_cv C hrun isC isR hC hR hnC hnR hdis hC2 hR2 hcov k
theorem zv_ci0 (C : zv_C p s m args c cc nL own Ts G cI A) {S : Type} {post : Int32 → S → Prop} {w1 ws' : S → va_W} {wc : va_W} {a : Array Value}
    (hrun : zv_Run p l e R s m args below meth c G A nL cells slots ws pc lv st0 0 0 rest wc (fun A1 => va_Qi post (fun u t => zv_out G cI A1 (w1 u) t) A1 a))
    (isC isR : List Nat) (hC : isC.map (fun i => ws[i]?) = wc.map some) (hR : isR.all (fun i => (ws[i]?).isSome) = true) (hnC : znd isC = true) (hnR : znd isR = true) (hdis : zdj isR isC = true)
    (hC2 : ∀ u, isC.map (fun i => (ws' u)[i]?) = (w1 u).map some) (hR2 : ∀ u, isR.map (fun i => (ws' u)[i]?) = (isR.filterMap (fun i => ws[i]?)).map some) (hcov : ∀ u, zcov isC isR (ws' u).length = true)
    (k : ∀ (r : Int32) (u : S), post r u →  zv_V p l e R s m args below meth c Q G A nL cells slots (ws' u) (pc + 3) lv (.int r :: rest)) : zv_V p l e R s m args below meth c Q G A nL cells slots ws pc lv st0 := zv_ci C hrun isC isR hC hR hnC hnR hdis hC2 hR2 hcov k
theorem zv_cl0 (C : zv_C p s m args c cc nL own Ts G cI A) {S : Type} {post : Int64 → S → Prop} {w1 ws' : S → va_W} {wc : va_W} {a : Array Value}
    (hrun : zv_Run p l e R s m args below meth c G A nL cells slots ws pc lv st0 0 0 rest wc (fun A1 => va_Ql post (fun u t => zv_out G cI A1 (w1 u) t) A1 a))
    (isC isR : List Nat) (hC : isC.map (fun i => ws[i]?) = wc.map some) (hR : isR.all (fun i => (ws[i]?).isSome) = true) (hnC : znd isC = true) (hnR : znd isR = true) (hdis : zdj isR isC = true)
    (hC2 : ∀ u, isC.map (fun i => (ws' u)[i]?) = (w1 u).map some) (hR2 : ∀ u, isR.map (fun i => (ws' u)[i]?) = (isR.filterMap (fun i => ws[i]?)).map some) (hcov : ∀ u, zcov isC isR (ws' u).length = true)
    (k : ∀ (r : Int64) (u : S), post r u →  zv_V p l e R s m args below meth c Q G A nL cells slots (ws' u) (pc + 3) lv (.long r :: rest)) : zv_V p l e R s m args below meth c Q G A nL cells slots ws pc lv st0 := zv_cl C hrun isC isR hC hR hnC hnR hdis hC2 hR2 hcov k
end ZV
