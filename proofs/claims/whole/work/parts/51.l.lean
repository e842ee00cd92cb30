/-! the law's wrappers: a callee that may throw, and this method's own table -/
section ZL
variable {p : Program} {l : Launch} {e : Env} {R : Room} {s : State} {m : MethodId} {args : Array Value} {below : List Frame} {meth : Method} {c : Code} {cells slots : Nat} {Q : State → Prop}
variable {G : va_G} {cI cL : ClassId} {A : Nat → Prop} {cc : ByteArray} {nL : Nat} {own : String} {Ts : List Cond}
variable {pc : Nat} {ws : va_W} {lv : List (Nat × Value)} {rest st0 : List Value}
abbrev zRowL : Type := Nat → Int64
/-- which exceptions are not which -/
def zl_B (U : State) : Prop := va_Nc "java/lang/IllegalArgumentException" "java/lang/IndexOutOfBoundsException" U ∧ va_Nc "java/util/NoSuchElementException" "java/lang/IndexOutOfBoundsException" U
def zl_in (G : va_G) (cI cL : ClassId) (ws : va_W) (sz : Nat) : State → Prop := fun U => zx_in G cI ws sz U ∧ va_K G vwCl [(cL, .long)] U ∧ zl_B U
theorem zl_B.moved {u U : State} (hvm : u.vm.Alike U.vm) (h : zl_B u) : zl_B U := ⟨h.1.moved hvm, h.2.moved hvm⟩
theorem zl_blind {av : List Value} {ws : va_W} {sz : Nat} : FrameBlind (va_Pc av (zl_in G cI cL ws sz)) := fun a U g mk q => by
  obtain ⟨q0, ⟨⟨q1, qP, qK, qD⟩, qB⟩, qL, qN⟩ := q
  exact ⟨q0, ⟨⟨q1, qP, va_K.moved (u := U) (U := U.calling g mk a) (Vm.Alike.refl U.vm) qK, qD⟩, qB.calling⟩, va_K.moved (u := U) (U := U.calling g mk a) (Vm.Alike.refl U.vm) qL, qN.moved (u := U) (U := U.calling g mk a) (Vm.Alike.refl U.vm)⟩
theorem zl_met {y : MethodName} {wsM ws0 : List Cond} {rm : Room} {av : List Value} {wc : va_W} {lv0 : List (Nat × Value)} {Qc : (Nat → Prop) → Array Value → State → Outcome → State → Prop} {mc ms : Nat} {maxL : Nat} {ret : Option FieldType} {hh : List (Nat × Nat × Nat × Nat)}
    (hy : plainName y.cls = true) (hw : wsM = Cond.codeWith y cc maxL ret hh :: ws0) (hlen : (lg_sl av).length ≤ maxL) (hlv : lv_args 0 av = lv0)
    (body : ∀ (p : Program) (e : Env) (s : State) (m : MethodId) (below : List Frame) (meth : Method) (c : Code) (A : Nat → Prop), zv_C p s m av.toArray c cc maxL y.cls wsM G cI A → zx_B A s → va_K G vwCl [(cL, .long)] s → zl_B s → c.exceptionTable.toList = tableOf hh → meth.sig.returnType = ret → meth.locks = false →
      zv_V p l e (headSpec wsM rm).room s m av.toArray below meth c (MQ below (Qc A) av.toArray s mc ms A) G A maxL 0 0 wc 0 lv0 []) (sz : Nat) :
    Met l y wsM rm (va_Pc av (zl_in G cI cL wc sz)) (Qc (va_A wc sz)) mc ms (va_A wc sz) := by
  refine MetFree.of_bodyS (code := cc) (maxLocals := maxL) (ret := ret) hy ?_ ?_
  · intro args s m h hn
    obtain ⟨m9, meth, c, hn9, h1, h2, h3, h4, -, h5, h6, -⟩ := Cond.codeWith_spec (atoms_spec (ws := wsM) h _ (by rw [hw]; exact List.mem_cons_self))
    cases hn.symm.trans hn9
    exact ⟨meth, c, h1, h2, h3, h4, h5, h6⟩
  · intro p e s m args below meth c s₁ B hml hv _
    have hh0 : s₁.heap = s.heap := by rw [B.state]; rfl
    obtain ⟨rfl, ⟨⟨hsz, hP, hK, hD0⟩, hB⟩, hKL, hN⟩ := hv
    subst hsz
    have hts := atoms_spec (ws := wsM) B.pre
    have hown : s.vm.findClass y.cls = some m.cls := findClass_of_methodNamed B.named
    have hD := hD0.self (sz := s.heap.size)
    have hl := lv_entry av (n := maxL) hlen
    have hT : c.exceptionTable.toList = tableOf hh := vx_table (x := y) B (hts _ (by rw [hw]; exact List.mem_cons_self))
    have K := body p e s m below meth c (va_A wc s.heap.size) ⟨B.exec, B.bytes, hml, hown, hts, hK, fun q h => Or.inr h⟩ hB hKL hN hT B.returns B.notSynchronized s.heap [] _ hP hD va_S.rf (hlv ▸ hl)
    rw [← lg_entry_eq] at K
    obtain ⟨t, a1, o, b1, b2, b3⟩ := K s₁ hh0 (Stand.of_body B)
    exact ⟨t, o, a1, b1, b2, ⟨b3.1, b3.2⟩⟩
/-- the row of the table that takes E at pc, and where it goes on -/
def zl_H (c : Code) (s : State) (args : Array Value) (own : String) (pc : Nat) (E : String) (tgt : Nat) : Prop :=
  ∃ (pre : List ExceptionTableEntry) (x : ExceptionTableEntry) (suf : List ExceptionTableEntry) (name : String), c.exceptionTable.toList = pre ++ x :: suf ∧ (∀ z ∈ pre, covers z pc = false ∨ (z.catchType ≠ 0 ∧ ∃ nm : String, (Cond.classLink own z.catchType nm).before args s = true ∧ va_Nc E nm s)) ∧ covers x pc = true ∧ x.catchType ≠ 0 ∧ (Cond.classLink own x.catchType name).before args s = true ∧ (Cond.castable E name).before args s = true ∧ x.handlerPc = tgt
theorem zl_H1 {E name : String} {a b tgt ct : Nat} {r : List (Nat × Nat × Nat × Nat)} (hT : c.exceptionTable.toList = tableOf ((a, b, tgt, ct) :: r)) (hcov : covers (⟨a, b, tgt, ct⟩ : ExceptionTableEntry) pc = true) (h0 : ct ≠ 0) (hl : (Cond.classLink own ct name).before args s = true) (hc : (Cond.castable E name).before args s = true) : zl_H c s args own pc E tgt :=
  ⟨[], ⟨a, b, tgt, ct⟩, tableOf r, name, hT, (fun z hz => nomatch hz), hcov, h0, hl, hc, rfl⟩
theorem zl_H2 {E name nm : String} {a b t0 c0 a' b' tgt ct : Nat} {r : List (Nat × Nat × Nat × Nat)} (hT : c.exceptionTable.toList = tableOf ((a, b, t0, c0) :: (a', b', tgt, ct) :: r)) (hp0 : c0 ≠ 0) (hpl : (Cond.classLink own c0 nm).before args s = true) (hn : va_Nc E nm s) (hcov : covers (⟨a', b', tgt, ct⟩ : ExceptionTableEntry) pc = true) (h0 : ct ≠ 0) (hl : (Cond.classLink own ct name).before args s = true) (hc : (Cond.castable E name).before args s = true) : zl_H c s args own pc E tgt :=
  ⟨[⟨a, b, t0, c0⟩], ⟨a', b', tgt, ct⟩, tableOf r, name, hT, (fun z hz => (List.mem_cons.mp hz).elim (fun h => h ▸ Or.inr ⟨hp0, nm, hpl, hn⟩) (fun h => nomatch h)), hcov, h0, hl, hc, rfl⟩
def zl_Run (p : Program) (l : Launch) (e : Env) (R : Room) (s : State) (m : MethodId) (args : Array Value) (below : List Frame) (meth : Method) (c : Code) (G : va_G) (cI : ClassId) (A : Nat → Prop) (nL cells slots : Nat) (ws : va_W) (pc : Nat) (lv : List (Nat × Value)) (st0 : List Value) (rest : List Value) (wc : va_W) (Qa : (Nat → Prop) → State → Outcome → State → Prop) (PX : String → Prop) : Prop :=
  ∀ (H : Heap) (locs : List Loc) (ls : Array Slot), va_P G vwCl wc H → va_P G vwCl ws H → va_D A wc → va_S A s.heap H locs → (∀ q, va_A wc H.size q → A q) → lv_has ls nL lv → vx_Run p l e R s m args below meth c H locs cells slots 1 6 (F0 m pc ls st0) rest (Qa (va_A wc H.size)) (zx_X G cI (va_A wc H.size) wc PX) (va_A wc H.size)
theorem zl_runV (C : zv_C p s m args c cc nL own Ts G cI A) (hB : zx_B A s) {y : MethodName} {bytes : ByteArray} {maxL n index : Nat} {ret : Option FieldType} {wsc : List Cond} {rm : Room} {b : Nat} {As : List Value} {wc : va_W} {Qc : (Nat → Prop) → Array Value → State → Outcome → State → Prop} {PX : String → Prop} {CC : String} {q0 ci : Nat} {fs : List Value} {r : vw_C}
    (hM : ∀ sz, vx_Met l y wsc rm (va_Pc (.ref b :: As) (zx_in G cI wc sz)) (Qc (va_A wc sz)) (zx_X G cI (va_A wc sz) wc PX) 1 6 (va_A wc sz)) (cw : CallW R s args own CC index y bytes maxL ret wsc rm 1 6 n) (hc : vwCl[ci]? = some r) (hcc : r.1 = CC) (he : ws[q0]? = some (b, .inr (ci, fs)))
    (hn : As.length = n) (hst : st0 = As.reverse ++ .ref b :: rest) (hroom : (rest.map fun v => v.category).sum ≤ 8) (hf : cells + 1 ≤ R.cells ∧ slots + 6 ≤ R.slots) (hd : decode cc pc = .ok (.invokevirtual index, 3)) :
    zl_Run p l e R s m args below meth c G cI A nL cells slots ws pc lv st0 rest wc (fun A1 => Qc A1 (Value.ref b :: As).toArray) PX := fun H locs ls hPc hP hD hS hFc hl =>
  vx_runV ⟨C.1, C.2.1, C.2.2.1, C.2.2.2.1, C.2.2.2.2.1⟩ (hM H.size) cw ⟨zx_blind, hcc ▸ va_recv C.2.2.2.2.2.1 hP hc he, fun U hU hW => ⟨rfl, (zv_pre (av := []) C.2.2.2.2.2.1 hPc hD U hU hW).2, hB.pass hS hFc hU hW⟩⟩ rfl hn hl.1 hst (lv_room hroom) hd hf
theorem zl_thrown (C : zv_C p s m args c cc nL own Ts G cI A) {wc : va_W} {PX : String → Prop} {H : Heap} {locs L : List Loc} {T T' t st₀ : State} {g : JFrame} {ls : Array Slot} {E : String} {ce : Cell} {q : Addr} {isC isR : List Nat} (hP : va_P G vwCl ws H) (hD : va_D A ws) (hS : va_S A s.heap H locs) (hl : lv_has ls nL lv) (hC : isC.map (fun i => ws[i]?) = wc.map some) (hR : isR.all (fun i => (ws[i]?).isSome) = true) (hnR : znd isR = true) (hdis : zdj isR isC = true) (hcov : zcov isC isR ws.length = true) (hFc : ∀ q, va_A wc H.size q → A q)
    (h0 : st₀.heap = H) (X' : Stand p l e R s m args below meth c T' (locs ++ L) (cells + 1) (slots + 6)) (hL : ∀ z ∈ L, va_A wc H.size z.base) (e1 : T'.heap = t.heap) (hx : zx_X G cI (va_A wc H.size) wc PX E st₀ t) (hce : t.heap[q]? = some ce) (hcv : ce.vm = .none) (hcl : s.vm.findClass E = some ce.cls) (st : Steps p.tables e below (T.setTop g) ((T'.setTop (F0 m pc ls rest)).pushFrame (.throwing q)))
    (kx : ∀ E, PX E → ∃ tgt, zl_H c s args own pc E tgt ∧ ∀ q9 : Nat, zv_V p l e R s m args below meth c Q G A nL (cells + 1) (slots + 6) ws tgt lv [.ref q9]) : ∃ t, Steps p.tables e below (T.setTop g) t ∧ Q t := by
  obtain ⟨hPX, ⟨hP1, hK1, hD1⟩, hF⟩ := hx
  obtain ⟨k1, k2, k3⟩ := vx_keep h0 e1 hS (fun q _ h => hFc q h) hFc hL hF
  rw [← e1] at hP1 hce
  obtain ⟨hP2, hD2⟩ := va_join (wr := isR.filterMap (fun i => ws[i]?)) (w1 := wc) hP hD isC isR hC (zv_fm hR) (znd_nd hnR) (zdj_dis hdis) k2 hFc hP1 hD1
  obtain ⟨hP3, hD3⟩ := zv_place (w2 := ws) hC (zv_fm hR) hcov hP2 hD2
  obtain ⟨tgt, ⟨pre, x, suf, name, h1, h2, h3, h4, h5, h6, h7⟩, k⟩ := kx E hPX
  subst h7
  obtain ⟨t2, a1, b1⟩ := vx_catch C.2.2.2.1 pre x suf h1 h2 h3 h4 h5 h6 hce hcv hcl (k q _ _ ls hP3 hD3 k3 hl) T' rfl X'
  exact ⟨t2, st.trans a1, b1⟩
theorem zl_cv (C : zv_C p s m args c cc nL own Ts G cI A) {S : Type} {post : S → Prop} {w1 ws' : S → va_W} {wc : va_W} {a : Array Value} {PX : String → Prop}
    (hrun : zl_Run p l e R s m args below meth c G cI A nL cells slots ws pc lv st0 rest wc (fun A1 => va_Qv post (fun u t => zv_out G cI A1 (w1 u) t) A1 a) PX)
    (isC isR : List Nat) (hC : isC.map (fun i => ws[i]?) = wc.map some) (hR : isR.all (fun i => (ws[i]?).isSome) = true) (hnC : znd isC = true) (hnR : znd isR = true) (hdis : zdj isR isC = true) (hcv0 : zcov isC isR ws.length = true)
    (hC2 : ∀ u, isC.map (fun i => (ws' u)[i]?) = (w1 u).map some) (hR2 : ∀ u, isR.map (fun i => (ws' u)[i]?) = (isR.filterMap (fun i => ws[i]?)).map some) (hcov : ∀ u, zcov isC isR (ws' u).length = true)
    (kx : ∀ E, PX E → ∃ tgt, zl_H c s args own pc E tgt ∧ ∀ q9 : Nat, zv_V p l e R s m args below meth c Q G A nL (cells + 1) (slots + 6) ws tgt lv [.ref q9])
    (k : ∀ u : S, post u → zv_V p l e R s m args below meth c Q G A nL (cells + 1) (slots + 6) (ws' u) (pc + 3) lv rest) : zv_V p l e R s m args below meth c Q G A nL cells slots ws pc lv st0 := by
  intro H locs ls hP hD hS hl T hT0 X
  have hDc : va_D A wc := hD.sub isC (znd_nd hnC) hC
  have hPc : va_P G vwCl wc H := zv_psub hP hC
  have hFc := va_free (wc := wc) hD hS C.2.2.2.2.2.2 isC hC
  rcases hrun H locs ls hPc hP hDc hS hFc hl T hT0 X with ⟨v, st₀, t, T', L, h0, X', hL, e1, e2, ⟨⟨u, hv, hp, hb⟩, hF⟩, st⟩ | ⟨q, st₀, t, T', L, E, ce, h0, X', hL, e1, e2, hx, hce, hcv, hcl, st⟩
  · cases hv
    obtain ⟨k1, k2, k3⟩ := vx_keep h0 e1 hS (fun q _ h => hFc q h) hFc hL hF
    obtain ⟨hP1, hK1, hD1⟩ := hb
    rw [← e1] at hP1
    obtain ⟨hP, hD⟩ := va_join (wr := isR.filterMap (fun i => ws[i]?)) (w1 := w1 u) hP hD isC isR hC (zv_fm hR) (znd_nd hnR) (zdj_dis hdis) k2 hFc hP1 hD1
    obtain ⟨hP, hD⟩ := zv_place (w2 := ws' u) (hC2 u) (hR2 u) (hcov u) hP hD
    obtain ⟨t2, a1, b1⟩ := k u hp _ _ ls hP hD k3 hl T' rfl X'
    exact ⟨t2, st t2 a1, b1⟩
  · exact zl_thrown C hP hD hS hl hC hR hnR hdis hcv0 hFc h0 X' hL e1 hx hce hcv hcl st kx
theorem zl_ci (C : zv_C p s m args c cc nL own Ts G cI A) {S : Type} {post : Int32 → S → Prop} {w1 ws' : S → va_W} {wc : va_W} {a : Array Value} {PX : String → Prop}
    (hrun : zl_Run p l e R s m args below meth c G cI A nL cells slots ws pc lv st0 rest wc (fun A1 => va_Qi post (fun u t => zv_out G cI A1 (w1 u) t) A1 a) PX)
    (isC isR : List Nat) (hC : isC.map (fun i => ws[i]?) = wc.map some) (hR : isR.all (fun i => (ws[i]?).isSome) = true) (hnC : znd isC = true) (hnR : znd isR = true) (hdis : zdj isR isC = true) (hcv0 : zcov isC isR ws.length = true)
    (hC2 : ∀ u, isC.map (fun i => (ws' u)[i]?) = (w1 u).map some) (hR2 : ∀ u, isR.map (fun i => (ws' u)[i]?) = (isR.filterMap (fun i => ws[i]?)).map some) (hcov : ∀ u, zcov isC isR (ws' u).length = true)
    (kx : ∀ E, PX E → ∃ tgt, zl_H c s args own pc E tgt ∧ ∀ q9 : Nat, zv_V p l e R s m args below meth c Q G A nL (cells + 1) (slots + 6) ws tgt lv [.ref q9])
    (k : ∀ (r : Int32) (u : S), post r u → zv_V p l e R s m args below meth c Q G A nL (cells + 1) (slots + 6) (ws' u) (pc + 3) lv (.int r :: rest)) : zv_V p l e R s m args below meth c Q G A nL cells slots ws pc lv st0 := by
  intro H locs ls hP hD hS hl T hT0 X
  have hDc : va_D A wc := hD.sub isC (znd_nd hnC) hC
  have hPc : va_P G vwCl wc H := zv_psub hP hC
  have hFc := va_free (wc := wc) hD hS C.2.2.2.2.2.2 isC hC
  rcases hrun H locs ls hPc hP hDc hS hFc hl T hT0 X with ⟨v, st₀, t, T', L, h0, X', hL, e1, e2, ⟨⟨r, u, hv, hp, hb⟩, hF⟩, st⟩ | ⟨q, st₀, t, T', L, E, ce, h0, X', hL, e1, e2, hx, hce, hcv, hcl, st⟩
  · cases hv
    obtain ⟨k1, k2, k3⟩ := vx_keep h0 e1 hS (fun q _ h => hFc q h) hFc hL hF
    obtain ⟨hP1, hK1, hD1⟩ := hb
    rw [← e1] at hP1
    obtain ⟨hP, hD⟩ := va_join (wr := isR.filterMap (fun i => ws[i]?)) (w1 := w1 u) hP hD isC isR hC (zv_fm hR) (znd_nd hnR) (zdj_dis hdis) k2 hFc hP1 hD1
    obtain ⟨hP, hD⟩ := zv_place (w2 := ws' u) (hC2 u) (hR2 u) (hcov u) hP hD
    obtain ⟨t2, a1, b1⟩ := k r u hp _ _ ls hP hD k3 hl T' rfl X'
    exact ⟨t2, st t2 a1, b1⟩
  · exact zl_thrown C hP hD hS hl hC hR hnR hdis hcv0 hFc h0 X' hL e1 hx hce hcv hcl st kx
theorem zl_last (C : zv_C p s m args c cc nL own Ts G cI A) (hKL : va_K G vwCl [(cL, .long)] s) (q0 : Nat) {a n : Nat} {f : Nat → Int64} {i : Int32} {x : Int64} {ws' : va_W} (hin : vp_in i n) (ha : ws[q0]? = some (a, .inl (cL, n, .inr (.inl f)))) (hw : ws.set q0 (a, .inl (cL, n, .inr (.inl (vp_updL f i.toNatClampNeg x)))) = ws') (hd : decode cc pc = .ok (.lastore, 1)) (k : zv_V p l e R s m args below meth c Q G A nL cells slots ws' (pc + 1) lv rest) : zv_V p l e R s m args below meth c Q G A nL cells slots ws pc lv (.long x :: .int i :: .ref a :: rest) := fun H locs ls hP hD hS hl =>
  va_last C.1 C.2.1 hKL hP hD hS q0 0 ha rfl hin hd (fun H locs hP hD hS => k H locs ls (hw ▸ hP) (hw ▸ hD) hS hl)
theorem zl_lald (C : zv_C p s m args c cc nL own Ts G cI A) (hKL : va_K G vwCl [(cL, .long)] s) (q0 : Nat) {a n : Nat} {f : Nat → Int64} {i : Int32} (hin : vp_in i n) (ha : ws[q0]? = some (a, .inl (cL, n, .inr (.inl f)))) (hd : decode cc pc = .ok (.laload, 1)) (k : zv_V p l e R s m args below meth c Q G A nL cells slots ws (pc + 1) lv (.long (f i.toNatClampNeg) :: rest)) : zv_V p l e R s m args below meth c Q G A nL cells slots ws pc lv (.int i :: .ref a :: rest) := fun H locs ls hP hD hS hl =>
  va_lald C.1 C.2.1 hKL hP q0 0 ha rfl hin hd (k H locs ls hP hD hS hl)
theorem zl_sld (C : zv_C p s m args c cc nL own Ts G cI A) {b L : Nat} {xs : Nat → Int32} (hX : va_X b L xs s s.heap) (hbl : b < s.heap.size) (hbA : ¬ A b) {i : Int32} (hin : vp_in i L) (hd : decode cc pc = .ok (.iaload, 1)) (k : zv_V p l e R s m args below meth c Q G A nL cells slots ws (pc + 1) lv (.int (xs i.toNatClampNeg) :: rest)) : zv_V p l e R s m args below meth c Q G A nL cells slots ws pc lv (.int i :: .ref b :: rest) := fun H locs ls hP hD hS hl =>
  va_sld C.1 C.2.1 hX hbl hbA hS hin hd (k H locs ls hP hD hS hl)
end ZL
