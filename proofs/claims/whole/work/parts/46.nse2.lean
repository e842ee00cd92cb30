def zn_ow (own : String) (ic : Nat) : List Cond := zn_own own ic "java/util/NoSuchElementException" "java/lang/RuntimeException" 13 prog_18_method_4_code ["java/lang/Exception"]
def zn_at (own : String) (ic : Nat) : List Cond := (zn_ow own ic).filter vx_no
theorem zn_throwS {p : Program} {l : Launch} {e : Env} {R : Room} {s : State} {m : MethodId} {args : Array Value} {below : List Frame} {meth : Method} {c : Code} {H : Heap} {locs : List Loc} {cells slots : Nat} {free : Addr → Prop} {ls : Array Slot} {rest : List Value} {Qc : Array Value → State → Outcome → State → Prop} {XC : String → State → State → Prop} {cc : ByteArray} {pc : Nat} (hexec : p.tables.exec = Jvm.exec) (hb : c.code = cc) (hl : l.stackTraces = false) {own text : String} {ik is ic mc ms sa : Nat} {A : Nat → Prop}
    (hown : s.vm.findClass own = some m.cls) 
    (hk : (Cond.classLink own ik "java/util/NoSuchElementException").before args s = true) (hini : (Cond.initialized "java/util/NoSuchElementException").before args s = true) (hstr : vk_R own is text sa s) (hat : ∀ w ∈ zn_at own ic, w.before args s = true)
    (hgood : ∀ w ∈ Cond.classLink own ik "java/util/NoSuchElementException" :: Cond.initialized "java/util/NoSuchElementException" :: zn_at own ic, vx_ot w = true)
    (hU : vx_Zq Bundle.tN "UNASSIGNED_STACK" Bundle.steD A s s.heap) (hN : vx_Zq Bundle.tN "SUPPRESSED_SENTINEL" Bundle.listD A s s.heap) (hS : va_S A s.heap H locs) (hsize : ls.size = c.maxLocals)
    (d0 : decode cc pc = .ok (.new ik, 3)) (d3 : decode cc (pc + 3) = .ok (.dup, 1)) (d4 : decode cc (pc + 4) = .ok (.ldc is, 2)) (d6 : decode cc (pc + 6) = .ok (.invokespecial ic, 3)) (d9 : decode cc (pc + 9) = .ok (.athrow, 1))
    (hout : ∀ x ∈ c.exceptionTable.toList, covers x (pc + 9) = false)
    (hRframes : 5 < R.frames) (hRlocals : (rest.map fun v => v.category).sum + 82 ≤ R.locals) (hRcells : cells + 1 ≤ R.cells) (hRslots : slots + 6 ≤ R.slots) (hlocks : meth.locks = false)
    (hx : ∀ t : State, s.vm.Alike t.vm → H.size ≤ t.heap.size → (∀ q : Nat, q < H.size → t.heap[q]? = H[q]?) → XC "java/util/NoSuchElementException" s t)
    (hf : ∀ z ∈ locs, free z.base) (hc : cells + 1 ≤ mc) (hs : slots + 6 ≤ ms) :
    W p l e R s m args below meth c H locs cells slots (vx_MQ below Qc XC args s mc ms free) (F0 m pc ls rest) := by
  intro T hT X
  have htr : e.platform.stackTraces = false := (show e.platform.stackTraces = l.stackTraces by rw [X.admits.platform]).trans hl
  have Y := vx_rebase X (R' := { frames := R.frames, locals := R.locals, cells := 1, slots := 6 }) (Nat.le_refl _) (Nat.le_refl _) hRcells hRslots
  obtain ⟨s', hA⟩ : ∃ z, z = (T.setVm s.vm).setFrames (.invoking m args :: below) := ⟨_, rfl⟩
  rw [← hA] at Y
  have hvm : s'.vm = s.vm := by rw [hA]; rfl
  have hhp : s'.heap = H := by rw [hA]; exact hT
  have hW0 : s.WarmedH s'.vm := by rw [hvm]; exact State.WarmedH.refl s
  have hat' : ∀ w ∈ zn_at own ic, w.before args s' = true := fun w hw => vx_ot_at hW0 hvm.symm (hgood w (List.mem_cons_of_mem _ (List.mem_cons_of_mem _ hw))) (hat w hw)
  have hk' : (Cond.classLink own ik "java/util/NoSuchElementException").before args s' = true := vx_ot_at hW0 hvm.symm (hgood _ List.mem_cons_self) hk
  have hini' : (Cond.initialized "java/util/NoSuchElementException").before args s' = true := vx_ot_at hW0 hvm.symm (hgood _ (List.mem_cons_of_mem _ List.mem_cons_self)) hini
  have hU' : vx_Zq Bundle.tN "UNASSIGNED_STACK" Bundle.steD A s' s'.heap := by rw [hhp]; exact vx_Zq.moved hW0.alike (hU.kept hS.2.1)
  have hN' : vx_Zq Bundle.tN "SUPPRESSED_SENTINEL" Bundle.listD A s' s'.heap := by rw [hhp]; exact vx_Zq.moved hW0.alike (hN.kept hS.2.1)
  have h : ∀ w ∈ zn_ow own ic, w.before args s' = true := vx_own hat' (vx_isRefq hU'.1) (vx_isRefq hN'.1) hU'.2.word hN'.2.word
  have hown' : s'.vm.findClass own = some m.cls := by rw [hvm]; exact hown
  have hins : (Cond.instantiable "java/util/NoSuchElementException" 6).before args s' = true := h _ (by simp [zn_ow, zn_own])
  obtain ⟨vm₁, cX, kX, hfX, hkX, -, -, X₁, st1⟩ := Y.newCold hexec (own := own) (C := "java/util/NoSuchElementException") (index := ik) (n := 6) hown' hk' hins hini'
    (g := F0 m pc ls rest) rfl (by rw [hb]; exact d0) (Nat.le_refl _) (Nat.le_refl _)
  generalize hT1 : (T.setVm vm₁).pushCell { cls := cX, slots := kX.instanceTypes.map defaultValue, vm := .none } = T1 at X₁ st1
  have hcat : (Value.ref T.heap.size).category = 1 := rfl
  have hcellA : T1.heap[T.heap.size]? = some (freshCell cX kX) := by rw [← hT1]; exact State.heap_pushCell_size _ _
  have d3' : decode c.code (pc + 3) = .ok (.dup, 1) := by rw [hb]; exact d3
  have d4' : decode c.code (pc + 4) = .ok (.ldc is, 2) := by rw [hb]; exact d4
  have hstr' : vk_R own is text sa s' := vk_R.warm hW0 hstr
  obtain ⟨U, hsteps, hrun, hend, hW, hsame, ce, hce, hOv, hOc⟩ := zn_ctor X₁ hexec htr (own := own) (cls := "java/util/NoSuchElementException") (Y := "java/lang/RuntimeException") (idx := 13) (bytes := prog_18_method_4_code) (r := ["java/lang/Exception"]) (ic := ic) hown' (by decide +kernel) (by decide +kernel) (by decide +kernel) (by decide +kernel) (by decide +kernel) (by decide +kernel) (by decide +kernel) h (fun x hx => nomatch hx) hfX hkX hcellA (by rw [hhp, hT]; exact Nat.le_refl _) (msg := .ref sa) rfl
    (g := { method := m, pc := pc + 6, locals := ls, stack := .ref sa :: .ref T.heap.size :: .ref T.heap.size :: rest, locked := none }) rfl hsize rfl rfl (rest := rest) rfl
    (by rw [hb]; exact d6) (by rw [hb]; exact d9) hout (by show 1 + 4 < _; omega) (by show _ + (13 * (1 + 2) + 42) ≤ _; simp only [List.map_cons, List.sum_cons, hcat]; omega) hlocks
  obtain ⟨f1, f2⟩ := vx_frame hsame
  rw [hhp] at f1 f2
  have hWs : s.WarmedH U.vm := State.WarmedH.trans hW0 hW
  have hcl : s.vm.findClass "java/util/NoSuchElementException" = some ce.cls := by
    have h9 := hOc
    rw [hvm] at h9
    exact h9
  have hall : s.sameButNew ({ U with vm := s.vm } : State) locs mc ms := by
    subst hA
    obtain ⟨e1, e2⟩ := hsame
    rw [State.setFrames_setFrames] at e1
    have h2 : (T.setVm s.vm).sameButNew ({ U with vm := s.vm } : State) [] (0 + 1) (0 + 6) := ⟨e1, e2⟩
    have h3 := X.same.trans h2
    rw [List.append_nil] at h3
    exact h3.mono hc hs
  refine ⟨U, ?_, .threw T.heap.size, hrun, hend, Or.inr ⟨T.heap.size, rfl, "java/util/NoSuchElementException", ce, locs, hx U hWs.alike f1 (fun q hq => f2 q hq (fun z hz => nomatch hz)), hce, hOv, hcl, hWs, hall, hf⟩⟩
  refine st1 _ ?_
  show Steps p.tables e below (T1.setTop { method := m, pc := pc + 3, locals := ls, stack := .ref T.heap.size :: rest, locked := none }) _
  jvm_step X₁.here [X₁.here.top, hexec, d3', Value.category]
  exact X₁.ldcString hexec (own := own) (text := text) (index := is) (a := sa) hown' hstr'.1 hstr'.2
    (g := { method := m, pc := pc + 4, locals := ls, stack := .ref T.heap.size :: .ref T.heap.size :: rest, locked := none }) rfl d4' _ hsteps
section ZN2
variable {p : Program} {l : Launch} {e : Env} {R : Room} {s : State} {m : MethodId} {args : Array Value} {below : List Frame} {meth : Method} {c : Code} {cells slots : Nat} {Q : State → Prop}
variable {G : va_G} {cI : ClassId} {A : Nat → Prop} {cc : ByteArray} {nL : Nat} {own : String} {Ts : List Cond}
variable {pc : Nat} {ws : va_W} {lv : List (Nat × Value)} {rest st0 : List Value}
theorem zn_hat {own : String} {ic : Nat} (hts : ∀ w ∈ Ts, w.before args s = true) (hB : zx_B A s) (hg : ∀ w ∈ (zn_at own ic).filter goodWord, w ∈ Ts) (hb : ∀ w ∈ (zn_at own ic).filter (fun w => !goodWord w), w ∈ zx_bw) : ∀ w ∈ zn_at own ic, w.before args s = true :=
  vx_hat (B := zx_bw) (fun w h => hts w (hg w h)) hb (fun w h => va_Nw.use (zx_bw_on w h) (hB.2.2.2 w h))
theorem zn_throw (C : zv_C p s m args c cc nL own Ts G cI A) (hB : zx_B A s) (hT : ∀ x ∈ c.exceptionTable.toList, False) (hlt : l.stackTraces = false) (hlk : meth.locks = false) {text : String} {ik is ic mc ms : Nat} {Qc : Array Value → State → Outcome → State → Prop} {ws0 : va_W} {PX : String → Prop} (hown5 : own = RX5)
    (hs : (is, text) ∈ zx_sx) (hk : Cond.classLink own ik "java/util/NoSuchElementException" ∈ Ts) (hini : Cond.initialized "java/util/NoSuchElementException" ∈ Ts) (hg : ∀ w ∈ (zn_at own ic).filter goodWord, w ∈ Ts) (hb : ∀ w ∈ (zn_at own ic).filter (fun w => !goodWord w), w ∈ zx_bw)
    (hgood : ∀ w ∈ Cond.classLink own ik "java/util/NoSuchElementException" :: Cond.initialized "java/util/NoSuchElementException" :: zn_at own ic, vx_ot w = true)
    (d0 : decode cc pc = .ok (.new ik, 3)) (d3 : decode cc (pc + 3) = .ok (.dup, 1)) (d4 : decode cc (pc + 4) = .ok (.ldc is, 2)) (d6 : decode cc (pc + 6) = .ok (.invokespecial ic, 3)) (d9 : decode cc (pc + 9) = .ok (.athrow, 1))
    (hRframes : 5 < R.frames) (hRlocals : (rest.map fun v => v.category).sum + 82 ≤ R.locals) (hRcells : cells + 1 ≤ R.cells) (hRslots : slots + 6 ≤ R.slots) (hc : cells + 1 ≤ mc) (hsl : slots + 6 ≤ ms) (hw : ws = ws0) (hE : PX "java/util/NoSuchElementException") :
    zv_V p l e R s m args below meth c (vx_MQ below Qc (zx_X G cI A ws0 PX) args s mc ms A) G A nL cells slots ws pc lv rest := by
  intro H locs ls hP hD hS hl
  obtain ⟨sa, hsa⟩ := hB.2.2.1 _ hs
  subst hown5
  exact zn_throwS C.1 C.2.1 hlt C.2.2.2.1 (C.2.2.2.2.1 _ hk) (C.2.2.2.2.1 _ hini) hsa (zn_hat C.2.2.2.2.1 hB hg hb) hgood hB.1 hB.2.1 hS (hl.1.trans C.2.2.1.symm) d0 d3 d4 d6 d9 (fun x hx => (hT x hx).elim) hRframes hRlocals hRcells hRslots hlk (zx_out C hP hD hS hw hE) hS.2.2 hc hsl
theorem znb_106 : ∀ w ∈ (zn_at RX5 106).filter (fun w => !goodWord w), w ∈ zx_bw := by decide +kernel
end ZN2
theorem zng_102_106 : ∀ w ∈ Cond.classLink RX5 102 "java/util/NoSuchElementException" :: Cond.initialized "java/util/NoSuchElementException" :: zn_at RX5 106, vx_ot w = true := by decide +kernel
def wsN_X5_drop : List Cond := .code yX5_drop cX5_drop 4 (some .int) :: ((wsX5_drop_r1 ++ wsX5_drop_r2) ++ wsX30 ++ wsX50 ++ (zn_at RX5 106).filter goodWord ++ (vx_atS RX5 228 "java/lang/IndexOutOfBoundsException" ["java/lang/RuntimeException", "java/lang/Exception"]).filter goodWord)
def wsN_X5_about : List Cond := .code yX5_about cX5_about 5 (some .int) :: ((wsX5_about_r1 ++ wsX5_about_r2) ++ wsX30 ++ wsX50 ++ (zn_at RX5 106).filter goodWord ++ (vx_atS RX5 228 "java/lang/IndexOutOfBoundsException" ["java/lang/RuntimeException", "java/lang/Exception"]).filter goodWord)
def wsN_L_drop : List Cond := .codeWith yL_drop cL_drop 5 (some .int) [(0, 10, 13, 13), (0, 10, 17, 25)] :: ((wsL_drop_r1 ++ wsL_drop_r2) ++ wsX30 ++ wsX50 ++ (zn_at RX5 106).filter goodWord ++ (vx_atS RX5 228 "java/lang/IndexOutOfBoundsException" ["java/lang/RuntimeException", "java/lang/Exception"]).filter goodWord)
def wsN_L_about : List Cond := .codeWith yL_about cL_about 6 (some .int) [(0, 12, 15, 13), (0, 12, 19, 25)] :: ((wsL_about_r1 ++ wsL_about_r2) ++ wsX30 ++ wsX50 ++ (zn_at RX5 106).filter goodWord ++ (vx_atS RX5 228 "java/lang/IndexOutOfBoundsException" ["java/lang/RuntimeException", "java/lang/Exception"]).filter goodWord)
set_option maxRecDepth 20000 in
theorem ggN_X5_drop_X5_pileAt : GoodIn wsN_X5_drop wsX5_pileAt := goodIn_ca (goodIn_r _ [8, 9, 10, 11, 12, 32, 33, 34, 35, 36, 37, 38, 39, 40, 41, 42, 43, 44, 45, 46] (by decide +kernel) (by decide +kernel)) (goodIn_sub (fun _ h => List.mem_cons_of_mem _ (List.mem_append_right _ h)) (by decide +kernel))
set_option maxRecDepth 20000 in
theorem gN_X5_drop_X5_pileAt : GoodIn wsN_X5_drop (wsV RX5 72 RX5 yX5_pileAt wsX5_pileAt) := goodIn_app (goodIn_r _ [4, 5, 6, 7] rfl rfl) ggN_X5_drop_X5_pileAt
set_option maxRecDepth 20000 in
theorem ggN_X5_drop_X3_remove : GoodIn wsN_X5_drop wsX3_remove := goodIn_r _ [17, 18, 19, 20, 21, 16, 22, 23, 24, 25, 26, 27, 28, 29, 30, 31] rfl rfl
set_option maxRecDepth 20000 in
theorem gN_X5_drop_X3_remove : GoodIn wsN_X5_drop (wsV RX5 107 RX3 yX3_remove wsX3_remove) := goodIn_app (goodIn_r _ [13, 14, 15, 16] rfl rfl) ggN_X5_drop_X3_remove
set_option maxRecDepth 20000 in
theorem ggN_X5_about_X5_pileAt : GoodIn wsN_X5_about wsX5_pileAt := goodIn_ca (goodIn_r _ [8, 9, 10, 11, 12, 34, 35, 36, 37, 38, 39, 40, 41, 42, 43, 44, 45, 46, 47, 48] (by decide +kernel) (by decide +kernel)) (goodIn_sub (fun _ h => List.mem_cons_of_mem _ (List.mem_append_right _ h)) (by decide +kernel))
set_option maxRecDepth 20000 in
theorem gN_X5_about_X5_pileAt : GoodIn wsN_X5_about (wsV RX5 72 RX5 yX5_pileAt wsX5_pileAt) := goodIn_app (goodIn_r _ [4, 5, 6, 7] rfl rfl) ggN_X5_about_X5_pileAt
set_option maxRecDepth 20000 in
theorem ggN_X5_about_X3_edgePart : GoodIn wsN_X5_about wsX3_edgePart := goodIn_r _ [17, 18, 19, 28, 29, 30, 31, 32, 33] rfl rfl
set_option maxRecDepth 20000 in
theorem gN_X5_about_X3_edgePart : GoodIn wsN_X5_about (wsV RX5 111 RX3 yX3_edgePart wsX3_edgePart) := goodIn_app (goodIn_r _ [13, 14, 15, 16] rfl rfl) ggN_X5_about_X3_edgePart
set_option maxRecDepth 20000 in
theorem ggN_X5_about_X3_layerPart : GoodIn wsN_X5_about wsX3_layerPart := goodIn_r _ [23, 24, 25, 26, 27, 28, 29, 30, 31, 32, 33] rfl rfl
set_option maxRecDepth 20000 in
theorem gN_X5_about_X3_layerPart : GoodIn wsN_X5_about (wsV RX5 117 RX3 yX3_layerPart wsX3_layerPart) := goodIn_app (goodIn_r _ [20, 21, 22, 16] rfl rfl) ggN_X5_about_X3_layerPart
set_option maxRecDepth 20000 in
theorem ggN_L_drop_X5_drop : GoodIn wsN_L_drop wsN_X5_drop := goodIn_ca (goodIn_ca (goodIn_r _ [7, 8, 9, 10, 11, 12, 13, 6, 14, 15, 16, 17, 18, 19, 20, 21, 22, 23, 24, 25, 26, 27, 28, 29, 30, 31, 32, 33, 34, 35, 36, 37, 38, 39, 40, 41, 42, 43, 44, 45, 46, 47, 48, 49, 50, 51, 52] (by decide +kernel) (by decide +kernel)) (goodIn_sub (fun _ h => List.mem_cons_of_mem _ (List.mem_append_left _ (List.mem_append_right _ h))) (by decide +kernel))) (goodIn_sub (fun _ h => List.mem_cons_of_mem _ (List.mem_append_right _ h)) (by decide +kernel))
set_option maxRecDepth 20000 in
theorem gN_L_drop_X5_drop : GoodIn wsN_L_drop (wsV RL 21 RX5 yX5_drop wsN_X5_drop) := goodIn_app (goodIn_r _ [3, 4, 5, 6] rfl rfl) ggN_L_drop_X5_drop
set_option maxRecDepth 20000 in
theorem ggN_L_about_X5_about : GoodIn wsN_L_about wsN_X5_about := goodIn_ca (goodIn_ca (goodIn_r _ [7, 8, 9, 10, 11, 12, 13, 6, 14, 15, 16, 17, 18, 19, 20, 21, 22, 23, 24, 25, 26, 27, 28, 29, 30, 31, 32, 33, 34, 35, 36, 37, 38, 39, 40, 41, 42, 43, 44, 45, 46, 47, 48, 49, 50, 51, 52, 53, 54] (by decide +kernel) (by decide +kernel)) (goodIn_sub (fun _ h => List.mem_cons_of_mem _ (List.mem_append_left _ (List.mem_append_right _ h))) (by decide +kernel))) (goodIn_sub (fun _ h => List.mem_cons_of_mem _ (List.mem_append_right _ h)) (by decide +kernel))
set_option maxRecDepth 20000 in
theorem gN_L_about_X5_about : GoodIn wsN_L_about (wsV RL 27 RX5 yX5_about wsN_X5_about) := goodIn_app (goodIn_r _ [3, 4, 5, 6] rfl rfl) ggN_L_about_X5_about
