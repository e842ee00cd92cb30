/-! rows for the law's body -/
section ZM
variable {p : Program} {l : Launch} {e : Env} {R : Room} {s : State} {m : MethodId} {args : Array Value} {below : List Frame} {meth : Method} {c : Code} {cells slots : Nat} {Q : State → Prop}
variable {G : va_G} {cI cL : ClassId} {A : Nat → Prop} {cc : ByteArray} {nL : Nat} {own : String} {Ts : List Cond}
variable {pc : Nat} {ws : va_W} {lv : List (Nat × Value)} {rest st0 : List Value}
theorem zm_slen (C : zv_C p s m args c cc nL own Ts G cI A) {b L : Nat} {xs : Nat → Int32} (hX : va_X b L xs s s.heap) (hbl : b < s.heap.size) (hbA : ¬ A b) (hd : decode cc pc = .ok (.arraylength, 1)) (k : zv_V p l e R s m args below meth c Q G A nL cells slots ws (pc + 1) lv (.int (Int32.ofNat L) :: rest)) : zv_V p l e R s m args below meth c Q G A nL cells slots ws pc lv (.ref b :: rest) := fun H locs ls hP hD hS hl =>
  va_slen C.1 C.2.1 hX hbl hbA hS hd (k H locs ls hP hD hS hl)
theorem zm_tin (C : zv_C p s m args c cc nL own Ts G cI A) {dflt lo hi : Int} {offs : Array Int} {len : Nat} {x : Int32} {off : Int} {tgt : Nat} (hd : decode cc pc = .ok (.tableswitch dflt lo hi offs, len)) (h1 : ¬ x.toInt < lo) (h2 : ¬ hi < x.toInt) (ho : offs[(x.toInt - lo).toNat]? = some off) (ht : (pc : Int) + off = (tgt : Int)) (k : zv_V p l e R s m args below meth c Q G A nL cells slots ws tgt lv rest) : zv_V p l e R s m args below meth c Q G A nL cells slots ws pc lv (.int x :: rest) := fun H locs ls hP hD hS hl =>
  lv_tableIn C.1 C.2.1 hd h1 h2 ho ht (k H locs ls hP hD hS hl)
theorem zm_tout (C : zv_C p s m args c cc nL own Ts G cI A) {dflt lo hi : Int} {offs : Array Int} {len : Nat} {x : Int32} {tgt : Nat} (hd : decode cc pc = .ok (.tableswitch dflt lo hi offs, len)) (h : x.toInt < lo ∨ hi < x.toInt) (ht : (pc : Int) + dflt = (tgt : Int)) (k : zv_V p l e R s m args below meth c Q G A nL cells slots ws tgt lv rest) : zv_V p l e R s m args below meth c Q G A nL cells slots ws pc lv (.int x :: rest) := fun H locs ls hP hD hS hl =>
  lv_tableOut C.1 C.2.1 hd h ht (k H locs ls hP hD hS hl)
def zm_Run (p : Program) (l : Launch) (e : Env) (R : Room) (s : State) (m : MethodId) (args : Array Value) (below : List Frame) (meth : Method) (c : Code) (G : va_G) (A : Nat → Prop) (nL cells slots : Nat) (ws : va_W) (pc : Nat) (lv : List (Nat × Value)) (st0 : List Value) (rest : List Value) (wc : va_W) (Qa : (Nat → Prop) → State → Outcome → State → Prop) : Prop :=
  ∀ (H : Heap) (locs : List Loc) (ls : Array Slot), va_P G vwCl wc H → va_D A wc → va_S A s.heap H locs → (∀ q, va_A wc H.size q → A q) → lv_has ls nL lv → va_Run p l e R s m args below meth c H locs cells slots 1 6 (F0 m pc ls st0) rest (Qa (va_A wc H.size)) (va_A wc H.size)
/-- a call of a wrapper -/
theorem zm_runW (C : zv_C p s m args c cc nL own Ts G cI A) (hB : zx_B A s) (hKL : va_K G vwCl [(cL, .long)] s) (hN : zl_B s) {y : MethodName} {bytes : ByteArray} {maxL n index : Nat} {ret : Option FieldType} {hh : List (Nat × Nat × Nat × Nat)} {wsc : List Cond} {rm : Room} {As : List Value} {wc : va_W} {Qc : (Nat → Prop) → Array Value → State → Outcome → State → Prop}
    (hM : ∀ sz, Met l y wsc rm (va_Pc As (zl_in G cI cL wc sz)) (Qc (va_A wc sz)) 1 6 (va_A wc sz)) (cw : vx_CSW R s args own index y bytes maxL ret hh wsc rm 1 6 n)
    (hn : As.length = n) (hst : st0 = As.reverse ++ rest) (hroom : (rest.map fun v => v.category).sum ≤ 8) (hf : cells + 1 ≤ R.cells ∧ slots + 6 ≤ R.slots) (hd : decode cc pc = .ok (.invokestatic index, 3)) :
    zm_Run p l e R s m args below meth c G A nL cells slots ws pc lv st0 rest wc (fun A1 => Qc A1 As.toArray) := fun H locs ls hPc hD hS hFc hl =>
  vx_runSW ⟨C.1, C.2.1, C.2.2.1, C.2.2.2.1, C.2.2.2.2.1⟩ (hM H.size) cw ⟨zl_blind, fun U hU hW => ⟨rfl, ⟨(zv_pre (av := []) C.2.2.2.2.2.1 hPc hD U hU hW).2, hB.pass hS hFc hU hW⟩, va_K.moved hW.alike hKL, hN.moved hW.alike⟩⟩ rfl hn hl.1 hst (lv_room hroom) hd hf
theorem zm_ci (C : zv_C p s m args c cc nL own Ts G cI A) {S : Type} {post : Int32 → S → Prop} {w1 ws' : S → va_W} {wc : va_W} {a : Array Value}
    (hrun : zm_Run p l e R s m args below meth c G A nL cells slots ws pc lv st0 rest wc (fun A1 => va_Qi post (fun u t => zv_out G cI A1 (w1 u) t) A1 a))
    (isC isR : List Nat) (hC : isC.map (fun i => ws[i]?) = wc.map some) (hR : isR.all (fun i => (ws[i]?).isSome) = true) (hnC : znd isC = true) (hnR : znd isR = true) (hdis : zdj isR isC = true)
    (hC2 : ∀ u, isC.map (fun i => (ws' u)[i]?) = (w1 u).map some) (hR2 : ∀ u, isR.map (fun i => (ws' u)[i]?) = (isR.filterMap (fun i => ws[i]?)).map some) (hcov : ∀ u, zcov isC isR (ws' u).length = true)
    (k : ∀ (r : Int32) (u : S), post r u → zv_V p l e R s m args below meth c Q G A nL (cells + 1) (slots + 6) (ws' u) (pc + 3) lv (.int r :: rest)) : zv_V p l e R s m args below meth c Q G A nL cells slots ws pc lv st0 := by
  intro H locs ls hP hD hS hl
  have hDc : va_D A wc := hD.sub isC (znd_nd hnC) hC
  have hPc : va_P G vwCl wc H := zv_psub hP hC
  have hFc := va_free (wc := wc) hD hS C.2.2.2.2.2.2 isC hC
  refine va_calli (hrun H locs ls hPc hDc hS hFc hl) hS (fun q _ h => hFc q h) hFc (fun r u t H1 locs1 ht hvm hw hB hz1 hk1 hS => ?_)
  obtain ⟨hP1, hK1, hD1⟩ := hB
  rw [ht] at hP1
  obtain ⟨hP, hD⟩ := va_join (wr := isR.filterMap (fun i => ws[i]?)) (w1 := w1 u) hP hD isC isR hC (zv_fm hR) (znd_nd hnR) (zdj_dis hdis) hk1 hFc hP1 hD1
  obtain ⟨hP, hD⟩ := zv_place (w2 := ws' u) (hC2 u) (hR2 u) (hcov u) hP hD
  exact k r u hw H1 locs1 ls hP hD hS hl
/-- the row of longs that the law makes; its class comes with it -/
theorem zm_newl (C : zv_C p s m args c cc nL own Ts G cI A) (harr : Cond.arrayClass (newarray.typeOf .long) ∈ Ts) {n : Int32} {N' : Nat} (hn : ¬ n < 0) (hN : n.toNatClampNeg = N') (hbytes : N' * componentBytes (newarray.typeOf .long) ≤ 536870912) (hcells : cells + 1 ≤ R.cells) (hslots : slots + N' ≤ R.slots) (hd : decode cc pc = .ok (.newarray .long, 2))
    (k : ∀ (q : Nat) (cL : ClassId), va_K G vwCl [(cL, .long)] s → zv_V p l e R s m args below meth c Q G A nL (cells + 1) (slots + N') (ws ++ [(q, .inl (cL, N', .inr (.inl (fun _ => (0 : Int64)))))]) (pc + 2) lv (.ref q :: rest)) : zv_V p l e R s m args below meth c Q G A nL cells slots ws pc lv (.int n :: rest) := by
  intro H locs ls hP hD hS hl
  refine va_newa (D := G) (cl := vwCl) (tys := []) C.1 C.2.1 (C.2.2.2.2.1 _ harr) (ty := .long) rfl ⟨C.2.2.2.2.2.1.1, fun k q h => by simp at h⟩ hP hD hS C.2.2.2.2.2.2 (a0 := (N', .inr (.inl (fun _ => (0 : Int64))))) (fun _ => rfl) hn hN hbytes hcells hslots hd (fun q cA H1 hK hP hD hS => ?_)
  exact k q cA hK H1 locs ls hP hD hS hl
end ZM
