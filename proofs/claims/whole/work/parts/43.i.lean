/-! rows for constructors -/
section ZI
variable {p : Program} {l : Launch} {e : Env} {R : Room} {s : State} {m : MethodId} {args : Array Value} {below : List Frame} {meth : Method} {c : Code} {cells slots : Nat} {Q : State → Prop}
variable {G : va_G} {cI : ClassId} {A : Nat → Prop} {cc : ByteArray} {nL : Nat} {own : String} {Ts : List Cond}
variable {pc : Nat} {ws : va_W} {lv : List (Nat × Value)} {rest st0 : List Value}
def zr11 : zRow := upd (upd (fun _ => (0 : Int32)) (Int32.toNatClampNeg (0 : Int32)) (1 : Int32)) (Int32.toNatClampNeg (1 : Int32)) (1 : Int32)
def zi_nw : List Cond := [.methodLinkNest RX5 9 yX3_init "GlassStack", .methodLinkNest RX5 44 yX4_init "GlassStack", .methodLinkNest RX5 51 yX0_init "GlassStack"]
/-- what a constructor needs beside its cells: the class of int rows, the private links -/
def zi_B (cI : ClassId) (U : State) : Prop := U.vm.findClass ("[" ++ (newarray.typeOf .int).toString) = some cI ∧ ∀ w ∈ zi_nw, va_Nw w U
theorem zi_nw_on : ∀ w ∈ zi_nw, w.onTables = true := by decide +kernel
theorem zi_B.calling {U : State} {g : JFrame} {mk : MethodId} {a : Array Value} (h : zi_B cI U) : zi_B cI (U.calling g mk a) := ⟨h.1, fun w hw => va_Nw.same (zi_nw_on w hw) (u := U) (U := U.calling g mk a) rfl (h.2 w hw)⟩
theorem zi_B.warm {U : State} (hW : s.WarmedH U.vm) (h : zi_B cI s) : zi_B cI U := by
  refine ⟨by rw [hW.alike.findClass]; exact h.1, fun w hw => ?_⟩
  have h1 := h.2 w hw
  simp only [zi_nw, List.mem_cons, List.not_mem_nil, or_false] at hw
  rcases hw with rfl | rfl | rfl
  · exact va_Nw.warmM hW h1
  · exact va_Nw.warmM hW h1
  · exact va_Nw.warmM hW h1
def zi_in (G : va_G) (cI : ClassId) (ws : va_W) (sz : Nat) : State → Prop := fun U => zv_in G cI ws sz U ∧ zi_B cI U
theorem zi_blind {av : List Value} {ws : va_W} {sz : Nat} : FrameBlind (va_Pc av (zi_in G cI ws sz)) := fun a U g mk q => by
  obtain ⟨q0, ⟨q1, qP, qK, qD⟩, qB⟩ := q
  exact ⟨q0, ⟨q1, qP, va_K.moved (u := U) (U := U.calling g mk a) (Vm.Alike.refl U.vm) qK, qD⟩, qB.calling⟩
theorem zi_pre {av : List Value} {wc : va_W} {H : Heap} (hB : zi_B cI s) (hK : va_K G vwCl [(cI, .int)] s) (hP : va_P G vwCl wc H) (hD : va_D A wc) : ∀ U : State, U.heap = H → s.WarmedH U.vm → va_Pc av (zi_in G cI wc H.size) av.toArray U :=
  fun U hU hW => ⟨rfl, ⟨by rw [hU], by rw [hU]; exact hP, va_K.moved hW.alike hK, hD.weaken (fun _ _ _ _ => trivial)⟩, hB.warm hW⟩
theorem zi_met {y : MethodName} {wsM ws0 : List Cond} {rm : Room} {av : List Value} {wc : va_W} {lv0 : List (Nat × Value)} {Qc : (Nat → Prop) → Array Value → State → Outcome → State → Prop} {mc ms : Nat} {maxL : Nat} {ret : Option FieldType}
    (hy : plainName y.cls = true) (hw : wsM = Cond.code y cc maxL ret :: ws0) (hlen : (lg_sl av).length ≤ maxL) (hlv : lv_args 0 av = lv0)
    (body : ∀ (p : Program) (e : Env) (s : State) (m : MethodId) (below : List Frame) (meth : Method) (c : Code) (A : Nat → Prop), zv_C p s m av.toArray c cc maxL y.cls wsM G cI A → zi_B cI s → meth.name = y.name → meth.sig.returnType = ret → meth.locks = false →
      zv_V p l e (headSpec wsM rm).room s m av.toArray below meth c (MQ below (Qc A) av.toArray s mc ms A) G A maxL 0 0 wc 0 lv0 []) (sz : Nat) :
    Met l y wsM rm (va_Pc av (zi_in G cI wc sz)) (Qc (va_A wc sz)) mc ms (va_A wc sz) := by
  refine Met.ofW (cc := cc) (maxL := maxL) (ret := ret) hy hw ?_
  intro p e s m args below meth c s₁ B hml hv
  obtain ⟨rfl, ⟨hsz, hP, hK, hD0⟩, hB⟩ := hv
  subst hsz
  have hts := atoms_spec (ws := wsM) B.pre
  have hown : s.vm.findClass y.cls = some m.cls := findClass_of_methodNamed B.named
  have hD := hD0.self (sz := s.heap.size)
  rw [lg_entry_eq]
  have hl := lv_entry av (n := maxL) hlen
  exact body p e s m below meth c (va_A wc s.heap.size) ⟨B.exec, B.bytes, hml, hown, hts, hK, fun q h => Or.inr h⟩ hB (name_of_methodNamed B.named B.method).1 B.returns B.notSynchronized s.heap [] _ hP hD va_S.rf (hlv ▸ hl)
theorem zi_obj (C : zv_C p s m args c cc nL own Ts G cI A) {index : Nat} {a : Nat} (h1 : Cond.methodLink own index objectInit ∈ Ts) (h2 : Cond.instanceMethod objectInit ∈ Ts) (h3 : Cond.code objectInit ⟨#[0xb1]⟩ 1 none ∈ Ts) (hfr : 1 ≤ R.frames) (hlo : (rest.map fun v => v.category).sum + 12 ≤ R.locals) (hd : decode cc pc = .ok (.invokespecial index, 3)) (k : zv_V p l e R s m args below meth c Q G A nL cells slots ws (pc + 3) lv rest) : zv_V p l e R s m args below meth c Q G A nL cells slots ws pc lv (.ref a :: rest) := fun H locs ls hP hD hS hl =>
  W.objInit C.1 C.2.1 C.2.2.2.1 (C.2.2.2.2.1 _ h1) (C.2.2.2.2.1 _ h2) (C.2.2.2.2.1 _ h3) rfl (by rw [C.2.2.1]; exact hl.1) rfl hd hfr (by show 2 * 0 + _ + 12 ≤ _; omega) (k H locs ls hP hD hS hl)
theorem zi_newa (C : zv_C p s m args c cc nL own Ts G cI A) (hB : zi_B cI s) (harr : Cond.arrayClass (newarray.typeOf .int) ∈ Ts) {n : Int32} {N' : Nat} (hn : ¬ n < 0) (hN : n.toNatClampNeg = N') (hbytes : N' * componentBytes (newarray.typeOf .int) ≤ 536870912) (hcells : cells + 1 ≤ R.cells) (hslots : slots + N' ≤ R.slots) (hd : decode cc pc = .ok (.newarray .int, 2))
    (k : ∀ q : Nat, zv_V p l e R s m args below meth c Q G A nL (cells + 1) (slots + N') (ws ++ [(q, .inl (cI, N', .inl (fun _ => (0 : Int32))))]) (pc + 2) lv (.ref q :: rest)) : zv_V p l e R s m args below meth c Q G A nL cells slots ws pc lv (.int n :: rest) := by
  intro H locs ls hP hD hS hl
  refine va_newaK C.1 C.2.1 (C.2.2.2.2.1 _ harr) rfl hd rfl hn hN hbytes hcells hslots rfl fun H1 cA e1 z1 o1 hAr hNm => ?_
  have hcA : cA = cI := Option.some.inj (hNm.symm.trans hB.1)
  subst hcA
  have hk : ∀ (k : Nat) (x : Nat × va_E), ws[k]? = some x → H1[x.1]? = H[x.1]? := fun k x hx => o1 x.1 ((hP k x hx).lt)
  refine k H.size H1 locs ls ((hP.kept hk).app (fun k x hx => ?_)) (hD.push hP rfl (C.2.2.2.2.2.2 _ hS.1)) ⟨Nat.le_trans hS.1 (by omega), fun x h1 h2 => (o1 x (Nat.lt_of_lt_of_le h1 hS.1)).trans (hS.2.1 x h1 h2), hS.2.2⟩ hl
  have hz : k < 1 := (List.getElem?_eq_some_iff.mp hx).1
  rw [show k = 0 by omega] at hx
  cases hx
  exact e1
theorem zi_new (C : zv_C p s m args c cc nL own Ts G cI A) {CC : String} {T : u_T} {N ci index : Nat} (hin : ∀ w ∈ u_ws CC T N, w ∈ Ts) (ty : Nat → FieldType) (hty : ∀ k, k < N → parseFieldDescriptor (T k).2.2.1 = some (ty k)) (h1 : Cond.classLink own index CC ∈ Ts) (h2 : Cond.instantiable CC N ∈ Ts) (h3 : Cond.initialized CC ∈ Ts) (hc : vwCl[ci]? = some (CC, T, N)) {fs : List Value} (hfs : ∀ j, j < N → defaultValue (ty j) = vp_V fs j) (hcells : cells + 1 ≤ R.cells) (hslots : slots + N ≤ R.slots) (hd : decode cc pc = .ok (.new index, 3))
    (k : ∀ q : Nat, zv_V p l e R s m args below meth c Q G A nL (cells + 1) (slots + N) (ws ++ [(q, .inr (ci, fs))]) (pc + 3) lv (.ref q :: rest)) : zv_V p l e R s m args below meth c Q G A nL cells slots ws pc lv rest := fun H locs ls hP hD hS hl =>
  va_new C.1 C.2.1 C.2.2.2.2.1 hin ty hty C.2.2.2.1 (C.2.2.2.2.1 _ h1) (C.2.2.2.2.1 _ h2) (C.2.2.2.2.1 _ h3) C.2.2.2.2.2.1 hP hD hS C.2.2.2.2.2.2 hc hfs hcells hslots hd (fun q H1 hP hD hS => k q H1 locs ls hP hD hS hl)
theorem zi_putF (C : zv_C p s m args c cc nL own Ts G cI A) (hname : meth.name = "<init>") {CC : String} {T : u_T} {N ci index : Nat} (hin : ∀ w ∈ u_ws CC T N, w ∈ Ts) (ty0 : Nat → FieldType) (hty : ∀ k, k < N → parseFieldDescriptor (T k).2.2.1 = some (ty0 k)) (hnm : ∀ a, a < N → ∀ b, b < N → a ≠ b → (T a).2.1 ≠ (T b).2.1) (q0 : Nat) {a : Nat} {fs : List Value} (hc : vwCl[ci]? = some (CC, T, N)) (j : Nat) (hj : j < N) (hm : Cond.fieldLink own index (T j).1 (T j).2.1 (T j).2.2.1 ∈ Ts) (hfin : (T j).2.2.2 = true) (hdecl : (T j).1 = own) {ty : FieldType} {v : Value} (hpd : parseFieldDescriptor (T j).2.2.1 = some ty) (hn : narrow ty v = v) (hfit : fits ty v = true) (he : ws[q0]? = some (a, .inr (ci, fs))) (hlen : j < fs.length) {ws' : va_W} (hw : ws.set q0 (a, .inr (ci, fs.set j v)) = ws') (hd : decode cc pc = .ok (.putfield index, 3)) (k : zv_V p l e R s m args below meth c Q G A nL cells slots ws' (pc + 3) lv rest) : zv_V p l e R s m args below meth c Q G A nL cells slots ws pc lv (v :: .ref a :: rest) := fun H locs ls hP hD hS hl =>
  va_putF C.1 C.2.1 C.2.2.2.2.1 hin ty0 hty hnm C.2.2.2.1 C.2.2.2.2.2.1 hP hD hS q0 he hc j hj (C.2.2.2.2.1 _ hm) (fun _ h9 => h9) hfin hname hdecl hpd hn hfit hlen hd (fun H locs hP hD hS => k H locs ls (hw ▸ hP) (hw ▸ hD) hS hl)
theorem zi_runI (C : zv_C p s m args c cc nL own Ts G cI A) (hB : zi_B cI s) {y : MethodName} {bytes : ByteArray} {maxL mc ms n index : Nat} {wsc : List Cond} {rm : Room} {b : Nat} {As : List Value} {wc : va_W} {Qc : (Nat → Prop) → Array Value → State → Outcome → State → Prop}
    (hM : ∀ sz, Met l y wsc rm (va_Pc (.ref b :: As) (zi_in G cI wc sz)) (Qc (va_A wc sz)) mc ms (va_A wc sz)) (cw : CallB R s args own index y bytes maxL none wsc rm mc ms n ∧ y.name = "<init>" ∧ (Cond.instanceMethod y).before args s = true)
    (hn : As.length = n) (hst : st0 = As.reverse ++ .ref b :: rest) (hroom : (rest.map fun v => v.category).sum ≤ 8) (hf : cells + mc ≤ R.cells ∧ slots + ms ≤ R.slots) (hd : decode cc pc = .ok (.invokespecial index, 3)) :
    zv_Run p l e R s m args below meth c G A nL cells slots ws pc lv st0 mc ms rest wc (fun A1 => Qc A1 (Value.ref b :: As).toArray) := fun H locs ls hPc hP hD hl =>
  va_runI ⟨C.1, C.2.1, C.2.2.1, C.2.2.2.1, C.2.2.2.2.1⟩ (hM H.size) cw ⟨zi_blind, zi_pre hB C.2.2.2.2.2.1 hPc hD⟩ rfl hn hl.1 hst (lv_room hroom) hd hf
theorem zi_runIN (C : zv_C p s m args c cc nL own Ts G cI A) (hB : zi_B cI s) {y : MethodName} {host : String} {bytes : ByteArray} {maxL mc ms n index : Nat} {wsc : List Cond} {rm : Room} {b : Nat} {As : List Value} {wc : va_W} {Qc : (Nat → Prop) → Array Value → State → Outcome → State → Prop}
    (hM : ∀ sz, Met l y wsc rm (va_Pc (.ref b :: As) (zi_in G cI wc sz)) (Qc (va_A wc sz)) mc ms (va_A wc sz)) (cw : va_CN R s args own index y host bytes maxL none wsc rm mc ms n ∧ y.name = "<init>" ∧ (Cond.instanceMethod y).before args s = true)
    (hn : As.length = n) (hst : st0 = As.reverse ++ .ref b :: rest) (hroom : (rest.map fun v => v.category).sum ≤ 8) (hf : cells + mc ≤ R.cells ∧ slots + ms ≤ R.slots) (hd : decode cc pc = .ok (.invokespecial index, 3)) :
    zv_Run p l e R s m args below meth c G A nL cells slots ws pc lv st0 mc ms rest wc (fun A1 => Qc A1 (Value.ref b :: As).toArray) := fun H locs ls hPc hP hD hl =>
  va_runIN ⟨C.1, C.2.1, C.2.2.1, C.2.2.2.1, C.2.2.2.2.1⟩ (hM H.size) cw ⟨zi_blind, zi_pre hB C.2.2.2.2.2.1 hPc hD⟩ rfl hn hl.1 hst (lv_room hroom) hd hf
/-- a call that makes cells: the others, then what came back -/
theorem zi_cv (C : zv_C p s m args c cc nL own Ts G cI A) {S : Type} {post : S → Prop} {w1 ws' : S → va_W} {wc : va_W} {a : Array Value} {mc ms : Nat}
    (hrun : zv_Run p l e R s m args below meth c G A nL cells slots ws pc lv st0 mc ms rest wc (fun A1 => va_Qv post (fun u t => zv_out G cI A1 (w1 u) t) A1 a))
    (isC isR : List Nat) (hC : isC.map (fun i => ws[i]?) = wc.map some) (hR : isR.all (fun i => (ws[i]?).isSome) = true) (hnC : znd isC = true) (hnR : znd isR = true) (hdis : zdj isR isC = true) (hw : ∀ u, isR.filterMap (fun i => ws[i]?) ++ w1 u = ws' u)
    (k : ∀ u : S, post u → zv_V p l e R s m args below meth c Q G A nL (cells + mc) (slots + ms) (ws' u) (pc + 3) lv rest) : zv_V p l e R s m args below meth c Q G A nL cells slots ws pc lv st0 := by
  intro H locs ls hP hD hS hl
  have hDc : va_D A wc := hD.sub isC (znd_nd hnC) hC
  have hPc : va_P G vwCl wc H := zv_psub hP hC
  have hFc := va_free (wc := wc) hD hS C.2.2.2.2.2.2 isC hC
  refine va_callv (hrun H locs ls hPc hP hDc hl) hS (fun q _ h => hFc q h) hFc (fun u t H1 locs1 ht hvm hw9 hB hz1 hk1 hS => ?_)
  obtain ⟨hP1, hK1, hD1⟩ := hB
  rw [ht] at hP1
  obtain ⟨hP, hD⟩ := va_join (wr := isR.filterMap (fun i => ws[i]?)) (w1 := w1 u) hP hD isC isR hC (zv_fm hR) (znd_nd hnR) (zdj_dis hdis) hk1 hFc hP1 hD1
  rw [hw u] at hP hD
  exact k u hw9 H1 locs1 ls hP hD hS hl
end ZI
