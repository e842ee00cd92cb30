/-! X5_drop -/
def zd_X5_drop (cI : ClassId) (adO qO3 qO4 qO5 qO6 adP0 qP00 qP01 qP02 qP03 qP04 adP1 qP10 qP11 qP12 qP13 qP14 oO2 oO7 oO8 oO9 oO10 oO11 : Nat) (O : zMem) (P0 : zMem) (P1 : zMem) : va_W := [(adO, .inr (4, [.ref adP0, .ref adP1, .ref oO2, .ref qO3, .ref qO4, .ref qO5, .ref qO6, .ref oO7, .ref oO8, .ref oO9, .ref oO10, .ref oO11, .int (O 12 0), .int (O 13 0), .int (O 14 0)])), (qO3, .inl (cI, 6, .inl (O 3))), (qO4, .inl (cI, 6, .inl (O 4))), (qO5, .inl (cI, 3, .inl (O 5))), (qO6, .inl (cI, 3, .inl (O 6))), (adP0, .inr (2, [.ref qP00, .ref qP01, .ref qP02, .ref qP03, .ref qP04, .int (P0 5 0)])), (qP00, .inl (cI, 2, .inl (P0 0))), (qP01, .inl (cI, 2, .inl (P0 1))), (qP02, .inl (cI, 6, .inl (P0 2))), (qP03, .inl (cI, 6, .inl (P0 3))), (qP04, .inl (cI, 6, .inl (P0 4))), (adP1, .inr (2, [.ref qP10, .ref qP11, .ref qP12, .ref qP13, .ref qP14, .int (P1 5 0)])), (qP10, .inl (cI, 2, .inl (P1 0))), (qP11, .inl (cI, 2, .inl (P1 1))), (qP12, .inl (cI, 6, .inl (P1 2))), (qP13, .inl (cI, 6, .inl (P1 3))), (qP14, .inl (cI, 6, .inl (P1 4)))]
abbrev rmX5_drop : Room := { frames := 7, cells := 1, slots := 6, locals := 111 }
def zw_X5_drop (O : zMem) (P0 : zMem) (P1 : zMem) (st : Int32) (i : Int32) (post : Int32 → zMem → zMem → Prop) (PXI PXN : Prop) : Prop := zw_X5_pileAt O st (((i < 0 → PXN) ∧ (¬ i < 0 → ((i < (P0 5 0) → zw_X3_remove P0 i (fun (T_3 : zMem) => post (T_3 5 0) T_3 P1)) ∧ (¬ i < (P0 5 0) → PXN))))) (((i < 0 → PXN) ∧ (¬ i < 0 → ((i < (P1 5 0) → zw_X3_remove P1 i (fun (T_6 : zMem) => post (T_6 5 0) P0 T_6)) ∧ (¬ i < (P1 5 0) → PXN))))) PXI
/-! X5_about -/
def zd_X5_about (cI : ClassId) (adO qO3 qO4 qO5 qO6 adP0 qP00 qP01 qP02 qP03 qP04 adP1 qP10 qP11 qP12 qP13 qP14 oO2 oO7 oO8 oO9 oO10 oO11 : Nat) (O : zMem) (P0 : zMem) (P1 : zMem) : va_W := [(adO, .inr (4, [.ref adP0, .ref adP1, .ref oO2, .ref qO3, .ref qO4, .ref qO5, .ref qO6, .ref oO7, .ref oO8, .ref oO9, .ref oO10, .ref oO11, .int (O 12 0), .int (O 13 0), .int (O 14 0)])), (qO3, .inl (cI, 6, .inl (O 3))), (qO4, .inl (cI, 6, .inl (O 4))), (qO5, .inl (cI, 3, .inl (O 5))), (qO6, .inl (cI, 3, .inl (O 6))), (adP0, .inr (2, [.ref qP00, .ref qP01, .ref qP02, .ref qP03, .ref qP04, .int (P0 5 0)])), (qP00, .inl (cI, 2, .inl (P0 0))), (qP01, .inl (cI, 2, .inl (P0 1))), (qP02, .inl (cI, 6, .inl (P0 2))), (qP03, .inl (cI, 6, .inl (P0 3))), (qP04, .inl (cI, 6, .inl (P0 4))), (adP1, .inr (2, [.ref qP10, .ref qP11, .ref qP12, .ref qP13, .ref qP14, .int (P1 5 0)])), (qP10, .inl (cI, 2, .inl (P1 0))), (qP11, .inl (cI, 2, .inl (P1 1))), (qP12, .inl (cI, 6, .inl (P1 2))), (qP13, .inl (cI, 6, .inl (P1 3))), (qP14, .inl (cI, 6, .inl (P1 4)))]
abbrev rmX5_about : Room := { frames := 7, cells := 1, slots := 6, locals := 111 }
def zw_X5_about (O : zMem) (P0 : zMem) (P1 : zMem) (st : Int32) (i : Int32) (wh : Int32) (post : Int32 → Prop) (PXI PXN : Prop) : Prop := zw_X5_pileAt O st ((∃ KJ_2 : Prop, (KJ_2  → (∃ KJ_4 : Prop, (KJ_4  → (∃ KJ_6 : Prop, (KJ_6  → ((i < 0 → PXN) ∧ (¬ i < 0 → (((P0 5 0) ≤ i → PXN) ∧ (¬ (P0 5 0) ≤ i → ((wh < 0 → PXN) ∧ (¬ wh < 0 → ((wh ≤ (2 : Int32) → zw_X3_layerPart P0 i wh (fun (v_11 : Int32) => post v_11 )) ∧ (¬ wh ≤ (2 : Int32) → PXN))))))))) ∧ ((¬ i = (-3 : Int32) → (KJ_6 )) ∧ (i = (-3 : Int32) → ((wh = 0 → zw_X3_edgePart P0 (1 : Int32) wh (fun (v_13 : Int32) => post v_13 )) ∧ (¬ wh = 0 → ((¬ wh = (1 : Int32) → (KJ_6 )) ∧ (wh = (1 : Int32) → zw_X3_edgePart P0 (1 : Int32) wh (fun (v_15 : Int32) => post v_15 ))))))))) ∧ ((¬ i = (-2 : Int32) → (KJ_4 )) ∧ (i = (-2 : Int32) → ((wh = 0 → zw_X3_edgePart P0 (0 : Int32) wh (fun (v_17 : Int32) => post v_17 )) ∧ (¬ wh = 0 → ((¬ wh = (1 : Int32) → (KJ_4 )) ∧ (wh = (1 : Int32) → zw_X3_edgePart P0 (0 : Int32) wh (fun (v_19 : Int32) => post v_19 ))))))))) ∧ ((¬ i = (-1 : Int32) → (KJ_2 )) ∧ (i = (-1 : Int32) → ((¬ wh = 0 → (KJ_2 )) ∧ (wh = 0 → post (P0 5 0) )))))) ((∃ KJ_22 : Prop, (KJ_22  → (∃ KJ_24 : Prop, (KJ_24  → (∃ KJ_26 : Prop, (KJ_26  → ((i < 0 → PXN) ∧ (¬ i < 0 → (((P1 5 0) ≤ i → PXN) ∧ (¬ (P1 5 0) ≤ i → ((wh < 0 → PXN) ∧ (¬ wh < 0 → ((wh ≤ (2 : Int32) → zw_X3_layerPart P1 i wh (fun (v_31 : Int32) => post v_31 )) ∧ (¬ wh ≤ (2 : Int32) → PXN))))))))) ∧ ((¬ i = (-3 : Int32) → (KJ_26 )) ∧ (i = (-3 : Int32) → ((wh = 0 → zw_X3_edgePart P1 (1 : Int32) wh (fun (v_33 : Int32) => post v_33 )) ∧ (¬ wh = 0 → ((¬ wh = (1 : Int32) → (KJ_26 )) ∧ (wh = (1 : Int32) → zw_X3_edgePart P1 (1 : Int32) wh (fun (v_35 : Int32) => post v_35 ))))))))) ∧ ((¬ i = (-2 : Int32) → (KJ_24 )) ∧ (i = (-2 : Int32) → ((wh = 0 → zw_X3_edgePart P1 (0 : Int32) wh (fun (v_37 : Int32) => post v_37 )) ∧ (¬ wh = 0 → ((¬ wh = (1 : Int32) → (KJ_24 )) ∧ (wh = (1 : Int32) → zw_X3_edgePart P1 (0 : Int32) wh (fun (v_39 : Int32) => post v_39 ))))))))) ∧ ((¬ i = (-1 : Int32) → (KJ_22 )) ∧ (i = (-1 : Int32) → ((¬ wh = 0 → (KJ_22 )) ∧ (wh = 0 → post (P1 5 0) )))))) PXI
theorem zf_X5_drop_93 : Cond.fieldLink RX5 93 "GlassStack$Pile" "count" "I" ∈ wsN_X5_drop := (List.mem_of_getElem? (i := 3) rfl)
theorem zi_X5_drop_X3 : ∀ w ∈ wsX30, w ∈ wsN_X5_drop := fun w h => List.mem_cons_of_mem _ (List.mem_append_left _ (List.mem_append_left _ (List.mem_append_left _ (List.mem_append_right _ h))))
theorem zy_X5_drop : yX5_drop.cls = RX5 ∧ yX5_drop.cls ≠ "java/lang/invoke/MethodHandle" ∧ yX5_drop.cls ≠ "java/lang/invoke/VarHandle" ∧ (parseMethodDescriptor yX5_drop.desc).map (fun d => d.parameters.length) = some 2 := by decide +kernel
set_option maxHeartbeats 4000000 in
set_option maxRecDepth 100000 in
theorem zc_X5_drop (l : Launch) (hlt : l.stackTraces = false) (G : va_G) (cI : ClassId) (adO qO3 qO4 qO5 qO6 adP0 qP00 qP01 qP02 qP03 qP04 adP1 qP10 qP11 qP12 qP13 qP14 oO2 oO7 oO8 oO9 oO10 oO11 : Nat) (O : zMem) (P0 : zMem) (P1 : zMem) (st : Int32) (i : Int32) (post : Int32 → zMem → zMem → Prop) (PXI PXN : Prop) (hF : zw_X5_drop O P0 P1 st i post PXI PXN) (sz : Nat) : vx_Met l yX5_drop wsN_X5_drop rmX5_drop (va_Pc [.ref adO, .int st, .int i] (zx_in G cI (zd_X5_drop cI adO qO3 qO4 qO5 qO6 adP0 qP00 qP01 qP02 qP03 qP04 adP1 qP10 qP11 qP12 qP13 qP14 oO2 oO7 oO8 oO9 oO10 oO11 O P0 P1) sz)) (va_Qi (fun (rz : Int32) (uz : zMem × zMem) => post rz uz.1 uz.2) (fun (uz : zMem × zMem) t => zv_out G cI (va_A (zd_X5_drop cI adO qO3 qO4 qO5 qO6 adP0 qP00 qP01 qP02 qP03 qP04 adP1 qP10 qP11 qP12 qP13 qP14 oO2 oO7 oO8 oO9 oO10 oO11 O P0 P1) sz) (zd_X5_drop cI adO qO3 qO4 qO5 qO6 adP0 qP00 qP01 qP02 qP03 qP04 adP1 qP10 qP11 qP12 qP13 qP14 oO2 oO7 oO8 oO9 oO10 oO11 O uz.1 uz.2) t) (va_A (zd_X5_drop cI adO qO3 qO4 qO5 qO6 adP0 qP00 qP01 qP02 qP03 qP04 adP1 qP10 qP11 qP12 qP13 qP14 oO2 oO7 oO8 oO9 oO10 oO11 O P0 P1) sz)) (zx_X G cI (va_A (zd_X5_drop cI adO qO3 qO4 qO5 qO6 adP0 qP00 qP01 qP02 qP03 qP04 adP1 qP10 qP11 qP12 qP13 qP14 oO2 oO7 oO8 oO9 oO10 oO11 O P0 P1) sz) (zd_X5_drop cI adO qO3 qO4 qO5 qO6 adP0 qP00 qP01 qP02 qP03 qP04 adP1 qP10 qP11 qP12 qP13 qP14 oO2 oO7 oO8 oO9 oO10 oO11 O P0 P1) (fun E => (E = "java/lang/IndexOutOfBoundsException" ∧ PXI) ∨ (E = "java/util/NoSuchElementException" ∧ PXN))) 1 6 (va_A (zd_X5_drop cI adO qO3 qO4 qO5 qO6 adP0 qP00 qP01 qP02 qP03 qP04 adP1 qP10 qP11 qP12 qP13 qP14 oO2 oO7 oO8 oO9 oO10 oO11 O P0 P1) sz) := by
  refine zx_met (cc := cX5_drop) (maxL := 4) (ret := (some .int)) (lv0 := [(0, .ref adO), (1, .int st), (2, .int i)]) (Qc := fun A => va_Qi (fun (rz : Int32) (uz : zMem × zMem) => post rz uz.1 uz.2) (fun (uz : zMem × zMem) t => zv_out G cI A (zd_X5_drop cI adO qO3 qO4 qO5 qO6 adP0 qP00 qP01 qP02 qP03 qP04 adP1 qP10 qP11 qP12 qP13 qP14 oO2 oO7 oO8 oO9 oO10 oO11 O uz.1 uz.2) t) A) (XC := fun A => zx_X G cI A (zd_X5_drop cI adO qO3 qO4 qO5 qO6 adP0 qP00 qP01 qP02 qP03 qP04 adP1 qP10 qP11 qP12 qP13 qP14 oO2 oO7 oO8 oO9 oO10 oO11 O P0 P1) (fun E => (E = "java/lang/IndexOutOfBoundsException" ∧ PXI) ∨ (E = "java/util/NoSuchElementException" ∧ PXN))) (by decide) rfl (Nat.le_of_ble_eq_true rfl) rfl ?_ sz
  intro p e s m below meth c A C hB hT hr hlk
  clear sz
  refine zv_aload_n (pc := 0) C rfl 0 rfl dX5_drop_0 ?_
  refine zv_iload_n (pc := 1) C rfl 1 rfl dX5_drop_1 ?_
  refine zu_cr (pc := 2) (mc := 1) (ms := 6) C hT hlk rfl (Nat.le_of_ble_eq_true rfl) (Nat.le_of_ble_eq_true rfl) (fun _ h => Or.inl (h)) (zu_runV (As := [.int st]) (b := adO) (rest := []) (ci := 4) (q0 := 0) C hB (zc_X5_pileAt l hlt G cI adO qO3 qO4 qO5 qO6 adP0 adP1 oO2 oO7 oO8 oO9 oO10 oO11 O st _ _ _ hF) (cwV 1 C.2.2.2.2.1 gN_X5_drop_X5_pileAt rfl rfl rfl zy_X5_pileAt ⟨(Nat.le_of_ble_eq_true rfl), (Nat.le_of_ble_eq_true rfl)⟩) [0, 1, 2, 3, 4] rfl rfl rfl rfl rfl rfl (Nat.le_of_ble_eq_true rfl) ⟨(Nat.le_of_ble_eq_true rfl), (Nat.le_of_ble_eq_true rfl)⟩ dX5_drop_2) (fun u ra hF hra => ?_)
  rcases hF with ⟨rfl, hF⟩ | ⟨rfl, hF⟩
  · have hra2 : adP0 = ra := hra.symm
    subst hra2
    refine zv_astore_n (pc := 5) (lv' := [(3, .ref adP0), (0, .ref adO), (1, .int st), (2, .int i)]) C rfl (by decide) rfl dX5_drop_5 ?_
    refine zv_iload_n (pc := 6) C rfl 3 rfl dX5_drop_6 ?_
    refine zv_if_lt (pc := 7) (tgt := 18) C dX5_drop_7 (by decide) (fun c_1 => ?_) (fun c_1 => ?_)
    · replace hF := And.left hF c_1
      exact zn_throw (pc := 18) (text := "no such layer") (ik := 102) (is := 104) (ic := 106) C hB hT hlt hlk rfl (List.mem_of_getElem? (i := 5) rfl) (List.mem_of_getElem? (i := 1) rfl) (List.mem_of_getElem? (i := 2) rfl) (fun w h => List.mem_cons_of_mem _ (List.mem_append_left _ (List.mem_append_right _ h))) znb_106 zng_102_106 dX5_drop_18 dX5_drop_21 dX5_drop_22 dX5_drop_24 dX5_drop_27 (Nat.le_of_ble_eq_true rfl) (Nat.le_of_ble_eq_true rfl) (Nat.le_of_ble_eq_true rfl) (Nat.le_of_ble_eq_true rfl) (Nat.le_of_ble_eq_true rfl) (Nat.le_of_ble_eq_true rfl) rfl (Or.inr (⟨rfl, hF⟩))
    · replace hF := And.right hF c_1
      refine zv_iload_n (pc := 10) C rfl 3 rfl dX5_drop_10 ?_
      refine zv_aload_n (pc := 11) C rfl 0 rfl dX5_drop_11 ?_
      refine zv_get (pc := 12) (CC := RX3) (T := TX3) (N := 6) (ci := 2) (v := .int (P0 5 0)) C zi_X5_drop_X3 5 rfl 5 (by decide) zf_X5_drop_93 rfl rfl dX5_drop_12 ?_
      refine zv_icmp_lt (pc := 15) (tgt := 28) C dX5_drop_15 (by decide) (fun c_2 => ?_) (fun c_2 => ?_)
      · replace hF := And.left hF c_2
        refine zv_aload_n (pc := 28) C rfl 0 rfl dX5_drop_28 ?_
        refine zv_iload_n (pc := 29) C rfl 3 rfl dX5_drop_29 ?_
        refine zv_cv0 (pc := 30) (ws' := (fun uz : zMem => (zd_X5_drop cI adO qO3 qO4 qO5 qO6 adP0 qP00 qP01 qP02 qP03 qP04 adP1 qP10 qP11 qP12 qP13 qP14 oO2 oO7 oO8 oO9 oO10 oO11 O uz P1))) C (zv_runV (As := [.int i]) (b := adP0) (rest := []) (ci := 2) (q0 := 5) C (zc_X3_remove l G cI adP0 qP00 qP01 qP02 qP03 qP04 P0 i _ hF) (cwV 1 C.2.2.2.2.1 gN_X5_drop_X3_remove rfl rfl rfl zy_X3_remove ⟨Nat.le_of_ble_eq_true rfl, Nat.le_of_ble_eq_true rfl⟩) rfl rfl rfl rfl rfl (Nat.le_of_ble_eq_true rfl) ⟨Nat.zero_le _, Nat.zero_le _⟩ dX5_drop_30) [5, 6, 7, 8, 9, 10] [0, 1, 2, 3, 4, 11, 12, 13, 14, 15, 16] rfl rfl rfl rfl rfl (fun _ => rfl) (fun _ => rfl) (fun _ => rfl) (fun uz hF => ?_)
        obtain ⟨T_3, hE⟩ : ∃ z, z = uz := ⟨_, rfl⟩; subst hE
        refine zv_aload_n (pc := 33) C rfl 0 rfl dX5_drop_33 ?_
        refine zv_get (pc := 34) (CC := RX3) (T := TX3) (N := 6) (ci := 2) (v := .int (T_3 5 0)) C zi_X5_drop_X3 5 rfl 5 (by decide) zf_X5_drop_93 rfl rfl dX5_drop_34 ?_
        refine zx_ret (mc := 1) (ms := 6) (Nat.le_of_ble_eq_true rfl) (Nat.le_of_ble_eq_true rfl) ?_
        exact zv_iret (pc := 37) C hr hlk (T_3 5 0) (T_3, P1) hF rfl dX5_drop_37
      · replace hF := And.right hF c_2
        exact zn_throw (pc := 18) (text := "no such layer") (ik := 102) (is := 104) (ic := 106) C hB hT hlt hlk rfl (List.mem_of_getElem? (i := 5) rfl) (List.mem_of_getElem? (i := 1) rfl) (List.mem_of_getElem? (i := 2) rfl) (fun w h => List.mem_cons_of_mem _ (List.mem_append_left _ (List.mem_append_right _ h))) znb_106 zng_102_106 dX5_drop_18 dX5_drop_21 dX5_drop_22 dX5_drop_24 dX5_drop_27 (Nat.le_of_ble_eq_true rfl) (Nat.le_of_ble_eq_true rfl) (Nat.le_of_ble_eq_true rfl) (Nat.le_of_ble_eq_true rfl) (Nat.le_of_ble_eq_true rfl) (Nat.le_of_ble_eq_true rfl) rfl (Or.inr (⟨rfl, hF⟩))
  · have hra2 : adP1 = ra := hra.symm
    subst hra2
    refine zv_astore_n (pc := 5) (lv' := [(3, .ref adP1), (0, .ref adO), (1, .int st), (2, .int i)]) C rfl (by decide) rfl dX5_drop_5 ?_
    refine zv_iload_n (pc := 6) C rfl 3 rfl dX5_drop_6 ?_
    refine zv_if_lt (pc := 7) (tgt := 18) C dX5_drop_7 (by decide) (fun c_4 => ?_) (fun c_4 => ?_)
    · replace hF := And.left hF c_4
      exact zn_throw (pc := 18) (text := "no such layer") (ik := 102) (is := 104) (ic := 106) C hB hT hlt hlk rfl (List.mem_of_getElem? (i := 5) rfl) (List.mem_of_getElem? (i := 1) rfl) (List.mem_of_getElem? (i := 2) rfl) (fun w h => List.mem_cons_of_mem _ (List.mem_append_left _ (List.mem_append_right _ h))) znb_106 zng_102_106 dX5_drop_18 dX5_drop_21 dX5_drop_22 dX5_drop_24 dX5_drop_27 (Nat.le_of_ble_eq_true rfl) (Nat.le_of_ble_eq_true rfl) (Nat.le_of_ble_eq_true rfl) (Nat.le_of_ble_eq_true rfl) (Nat.le_of_ble_eq_true rfl) (Nat.le_of_ble_eq_true rfl) rfl (Or.inr (⟨rfl, hF⟩))
    · replace hF := And.right hF c_4
      refine zv_iload_n (pc := 10) C rfl 3 rfl dX5_drop_10 ?_
      refine zv_aload_n (pc := 11) C rfl 0 rfl dX5_drop_11 ?_
      refine zv_get (pc := 12) (CC := RX3) (T := TX3) (N := 6) (ci := 2) (v := .int (P1 5 0)) C zi_X5_drop_X3 11 rfl 5 (by decide) zf_X5_drop_93 rfl rfl dX5_drop_12 ?_
      refine zv_icmp_lt (pc := 15) (tgt := 28) C dX5_drop_15 (by decide) (fun c_5 => ?_) (fun c_5 => ?_)
      · replace hF := And.left hF c_5
        refine zv_aload_n (pc := 28) C rfl 0 rfl dX5_drop_28 ?_
        refine zv_iload_n (pc := 29) C rfl 3 rfl dX5_drop_29 ?_
        refine zv_cv0 (pc := 30) (ws' := (fun uz : zMem => (zd_X5_drop cI adO qO3 qO4 qO5 qO6 adP0 qP00 qP01 qP02 qP03 qP04 adP1 qP10 qP11 qP12 qP13 qP14 oO2 oO7 oO8 oO9 oO10 oO11 O P0 uz))) C (zv_runV (As := [.int i]) (b := adP1) (rest := []) (ci := 2) (q0 := 11) C (zc_X3_remove l G cI adP1 qP10 qP11 qP12 qP13 qP14 P1 i _ hF) (cwV 1 C.2.2.2.2.1 gN_X5_drop_X3_remove rfl rfl rfl zy_X3_remove ⟨Nat.le_of_ble_eq_true rfl, Nat.le_of_ble_eq_true rfl⟩) rfl rfl rfl rfl rfl (Nat.le_of_ble_eq_true rfl) ⟨Nat.zero_le _, Nat.zero_le _⟩ dX5_drop_30) [11, 12, 13, 14, 15, 16] [0, 1, 2, 3, 4, 5, 6, 7, 8, 9, 10] rfl rfl rfl rfl rfl (fun _ => rfl) (fun _ => rfl) (fun _ => rfl) (fun uz hF => ?_)
        obtain ⟨T_6, hE⟩ : ∃ z, z = uz := ⟨_, rfl⟩; subst hE
        refine zv_aload_n (pc := 33) C rfl 0 rfl dX5_drop_33 ?_
        refine zv_get (pc := 34) (CC := RX3) (T := TX3) (N := 6) (ci := 2) (v := .int (T_6 5 0)) C zi_X5_drop_X3 11 rfl 5 (by decide) zf_X5_drop_93 rfl rfl dX5_drop_34 ?_
        refine zx_ret (mc := 1) (ms := 6) (Nat.le_of_ble_eq_true rfl) (Nat.le_of_ble_eq_true rfl) ?_
        exact zv_iret (pc := 37) C hr hlk (T_6 5 0) (P0, T_6) hF rfl dX5_drop_37
      · replace hF := And.right hF c_5
        exact zn_throw (pc := 18) (text := "no such layer") (ik := 102) (is := 104) (ic := 106) C hB hT hlt hlk rfl (List.mem_of_getElem? (i := 5) rfl) (List.mem_of_getElem? (i := 1) rfl) (List.mem_of_getElem? (i := 2) rfl) (fun w h => List.mem_cons_of_mem _ (List.mem_append_left _ (List.mem_append_right _ h))) znb_106 zng_102_106 dX5_drop_18 dX5_drop_21 dX5_drop_22 dX5_drop_24 dX5_drop_27 (Nat.le_of_ble_eq_true rfl) (Nat.le_of_ble_eq_true rfl) (Nat.le_of_ble_eq_true rfl) (Nat.le_of_ble_eq_true rfl) (Nat.le_of_ble_eq_true rfl) (Nat.le_of_ble_eq_true rfl) rfl (Or.inr (⟨rfl, hF⟩))
theorem zf_X5_about_93 : Cond.fieldLink RX5 93 "GlassStack$Pile" "count" "I" ∈ wsN_X5_about := (List.mem_of_getElem? (i := 3) rfl)
theorem zi_X5_about_X3 : ∀ w ∈ wsX30, w ∈ wsN_X5_about := fun w h => List.mem_cons_of_mem _ (List.mem_append_left _ (List.mem_append_left _ (List.mem_append_left _ (List.mem_append_right _ h))))
theorem zy_X5_about : yX5_about.cls = RX5 ∧ yX5_about.cls ≠ "java/lang/invoke/MethodHandle" ∧ yX5_about.cls ≠ "java/lang/invoke/VarHandle" ∧ (parseMethodDescriptor yX5_about.desc).map (fun d => d.parameters.length) = some 3 := by decide +kernel
set_option maxHeartbeats 4000000 in
set_option maxRecDepth 100000 in
theorem zc_X5_about (l : Launch) (hlt : l.stackTraces = false) (G : va_G) (cI : ClassId) (adO qO3 qO4 qO5 qO6 adP0 qP00 qP01 qP02 qP03 qP04 adP1 qP10 qP11 qP12 qP13 qP14 oO2 oO7 oO8 oO9 oO10 oO11 : Nat) (O : zMem) (P0 : zMem) (P1 : zMem) (st : Int32) (i : Int32) (wh : Int32) (post : Int32 → Prop) (PXI PXN : Prop) (hF : zw_X5_about O P0 P1 st i wh post PXI PXN) (sz : Nat) : vx_Met l yX5_about wsN_X5_about rmX5_about (va_Pc [.ref adO, .int st, .int i, .int wh] (zx_in G cI (zd_X5_about cI adO qO3 qO4 qO5 qO6 adP0 qP00 qP01 qP02 qP03 qP04 adP1 qP10 qP11 qP12 qP13 qP14 oO2 oO7 oO8 oO9 oO10 oO11 O P0 P1) sz)) (va_Qi (fun (rz : Int32) (uz : Unit) => post rz ) (fun (uz : Unit) t => zv_out G cI (va_A (zd_X5_about cI adO qO3 qO4 qO5 qO6 adP0 qP00 qP01 qP02 qP03 qP04 adP1 qP10 qP11 qP12 qP13 qP14 oO2 oO7 oO8 oO9 oO10 oO11 O P0 P1) sz) (zd_X5_about cI adO qO3 qO4 qO5 qO6 adP0 qP00 qP01 qP02 qP03 qP04 adP1 qP10 qP11 qP12 qP13 qP14 oO2 oO7 oO8 oO9 oO10 oO11 O P0 P1) t) (va_A (zd_X5_about cI adO qO3 qO4 qO5 qO6 adP0 qP00 qP01 qP02 qP03 qP04 adP1 qP10 qP11 qP12 qP13 qP14 oO2 oO7 oO8 oO9 oO10 oO11 O P0 P1) sz)) (zx_X G cI (va_A (zd_X5_about cI adO qO3 qO4 qO5 qO6 adP0 qP00 qP01 qP02 qP03 qP04 adP1 qP10 qP11 qP12 qP13 qP14 oO2 oO7 oO8 oO9 oO10 oO11 O P0 P1) sz) (zd_X5_about cI adO qO3 qO4 qO5 qO6 adP0 qP00 qP01 qP02 qP03 qP04 adP1 qP10 qP11 qP12 qP13 qP14 oO2 oO7 oO8 oO9 oO10 oO11 O P0 P1) (fun E => (E = "java/lang/IndexOutOfBoundsException" ∧ PXI) ∨ (E = "java/util/NoSuchElementException" ∧ PXN))) 1 6 (va_A (zd_X5_about cI adO qO3 qO4 qO5 qO6 adP0 qP00 qP01 qP02 qP03 qP04 adP1 qP10 qP11 qP12 qP13 qP14 oO2 oO7 oO8 oO9 oO10 oO11 O P0 P1) sz) := by
  refine zx_met (cc := cX5_about) (maxL := 5) (ret := (some .int)) (lv0 := [(0, .ref adO), (1, .int st), (2, .int i), (3, .int wh)]) (Qc := fun A => va_Qi (fun (rz : Int32) (uz : Unit) => post rz ) (fun (uz : Unit) t => zv_out G cI A (zd_X5_about cI adO qO3 qO4 qO5 qO6 adP0 qP00 qP01 qP02 qP03 qP04 adP1 qP10 qP11 qP12 qP13 qP14 oO2 oO7 oO8 oO9 oO10 oO11 O P0 P1) t) A) (XC := fun A => zx_X G cI A (zd_X5_about cI adO qO3 qO4 qO5 qO6 adP0 qP00 qP01 qP02 qP03 qP04 adP1 qP10 qP11 qP12 qP13 qP14 oO2 oO7 oO8 oO9 oO10 oO11 O P0 P1) (fun E => (E = "java/lang/IndexOutOfBoundsException" ∧ PXI) ∨ (E = "java/util/NoSuchElementException" ∧ PXN))) (by decide) rfl (Nat.le_of_ble_eq_true rfl) rfl ?_ sz
  intro p e s m below meth c A C hB hT hr hlk
  clear sz
  refine zv_aload_n (pc := 0) C rfl 0 rfl dX5_about_0 ?_
  refine zv_iload_n (pc := 1) C rfl 1 rfl dX5_about_1 ?_
  refine zu_cr (pc := 2) (mc := 1) (ms := 6) C hT hlk rfl (Nat.le_of_ble_eq_true rfl) (Nat.le_of_ble_eq_true rfl) (fun _ h => Or.inl (h)) (zu_runV (As := [.int st]) (b := adO) (rest := []) (ci := 4) (q0 := 0) C hB (zc_X5_pileAt l hlt G cI adO qO3 qO4 qO5 qO6 adP0 adP1 oO2 oO7 oO8 oO9 oO10 oO11 O st _ _ _ hF) (cwV 1 C.2.2.2.2.1 gN_X5_about_X5_pileAt rfl rfl rfl zy_X5_pileAt ⟨(Nat.le_of_ble_eq_true rfl), (Nat.le_of_ble_eq_true rfl)⟩) [0, 1, 2, 3, 4] rfl rfl rfl rfl rfl rfl (Nat.le_of_ble_eq_true rfl) ⟨(Nat.le_of_ble_eq_true rfl), (Nat.le_of_ble_eq_true rfl)⟩ dX5_about_2) (fun u ra hF hra => ?_)
  rcases hF with ⟨rfl, hF⟩ | ⟨rfl, hF⟩
  · have hra2 : adP0 = ra := hra.symm
    subst hra2
    refine zv_astore (pc := 5) (lv' := [(4, .ref adP0), (0, .ref adO), (1, .int st), (2, .int i), (3, .int wh)]) C (by decide) rfl dX5_about_5 ?_
    refine zv_iload_n (pc := 7) C rfl 3 rfl dX5_about_7 ?_
    refine zv_iconst (pc := 8) (v := -1) C (by decide) dX5_about_8 ?_
    obtain ⟨KJ_2, h0KJ_2, hF⟩ := hF
    refine zv_join (α := Unit) (KK := fun uz => KJ_2 ) (wsJ := fun uz => (zd_X5_about cI adO qO3 qO4 qO5 qO6 adP0 qP00 qP01 qP02 qP03 qP04 adP1 qP10 qP11 qP12 qP13 qP14 oO2 oO7 oO8 oO9 oO10 oO11 O P0 P1)) (pcJ := 22) (lvJ := fun uz => [(2, .int i), (3, .int wh), (4, .ref adP0)]) (stJ := fun uz => []) ?_ (fun hKJ_2 => ?_)
    · rintro - hF
      replace hF := h0KJ_2  hF
      refine zv_iload_n (pc := 22) C rfl 0 rfl dX5_about_22 ?_
      refine zv_bipush (pc := 23) (v := -2) C (by decide) dX5_about_23 ?_
      obtain ⟨KJ_4, h0KJ_4, hF⟩ := hF
      refine zv_join (α := Unit) (KK := fun uz => KJ_4 ) (wsJ := fun uz => (zd_X5_about cI adO qO3 qO4 qO5 qO6 adP0 qP00 qP01 qP02 qP03 qP04 adP1 qP10 qP11 qP12 qP13 qP14 oO2 oO7 oO8 oO9 oO10 oO11 O P0 P1)) (pcJ := 45) (lvJ := fun uz => [(2, .int i), (3, .int wh), (4, .ref adP0)]) (stJ := fun uz => []) ?_ (fun hKJ_4 => ?_)
      · rintro - hF
        replace hF := h0KJ_4  hF
        refine zv_iload_n (pc := 45) C rfl 0 rfl dX5_about_45 ?_
        refine zv_bipush (pc := 46) (v := -3) C (by decide) dX5_about_46 ?_
        obtain ⟨KJ_6, h0KJ_6, hF⟩ := hF
        refine zv_join (α := Unit) (KK := fun uz => KJ_6 ) (wsJ := fun uz => (zd_X5_about cI adO qO3 qO4 qO5 qO6 adP0 qP00 qP01 qP02 qP03 qP04 adP1 qP10 qP11 qP12 qP13 qP14 oO2 oO7 oO8 oO9 oO10 oO11 O P0 P1)) (pcJ := 68) (lvJ := fun uz => [(2, .int i), (3, .int wh), (4, .ref adP0)]) (stJ := fun uz => []) ?_ (fun hKJ_6 => ?_)
        · rintro - hF
          replace hF := h0KJ_6  hF
          refine zv_iload_n (pc := 68) C rfl 0 rfl dX5_about_68 ?_
          refine zv_if_lt (pc := 69) (tgt := 90) C dX5_about_69 (by decide) (fun c_7 => ?_) (fun c_7 => ?_)
          · replace hF := And.left hF c_7
            exact zn_throw (pc := 90) (text := "no such layer, or nothing such about it") (ik := 102) (is := 115) (ic := 106) C hB hT hlt hlk rfl (List.mem_of_getElem? (i := 6) rfl) (List.mem_of_getElem? (i := 1) rfl) (List.mem_of_getElem? (i := 2) rfl) (fun w h => List.mem_cons_of_mem _ (List.mem_append_left _ (List.mem_append_right _ h))) znb_106 zng_102_106 dX5_about_90 dX5_about_93 dX5_about_94 dX5_about_96 dX5_about_99 (Nat.le_of_ble_eq_true rfl) (Nat.le_of_ble_eq_true rfl) (Nat.le_of_ble_eq_true rfl) (Nat.le_of_ble_eq_true rfl) (Nat.le_of_ble_eq_true rfl) (Nat.le_of_ble_eq_true rfl) rfl (Or.inr (⟨rfl, hF⟩))
          · replace hF := And.right hF c_7
            refine zv_iload_n (pc := 72) C rfl 0 rfl dX5_about_72 ?_
            refine zv_aload (pc := 73) C 2 rfl dX5_about_73 ?_
            refine zv_get (pc := 75) (CC := RX3) (T := TX3) (N := 6) (ci := 2) (v := .int (P0 5 0)) C zi_X5_about_X3 5 rfl 5 (by decide) zf_X5_about_93 rfl rfl dX5_about_75 ?_
            refine zv_icmp_ge (pc := 78) (tgt := 90) C dX5_about_78 (by decide) (fun c_8 => ?_) (fun c_8 => ?_)
            · replace hF := And.left hF c_8
              exact zn_throw (pc := 90) (text := "no such layer, or nothing such about it") (ik := 102) (is := 115) (ic := 106) C hB hT hlt hlk rfl (List.mem_of_getElem? (i := 6) rfl) (List.mem_of_getElem? (i := 1) rfl) (List.mem_of_getElem? (i := 2) rfl) (fun w h => List.mem_cons_of_mem _ (List.mem_append_left _ (List.mem_append_right _ h))) znb_106 zng_102_106 dX5_about_90 dX5_about_93 dX5_about_94 dX5_about_96 dX5_about_99 (Nat.le_of_ble_eq_true rfl) (Nat.le_of_ble_eq_true rfl) (Nat.le_of_ble_eq_true rfl) (Nat.le_of_ble_eq_true rfl) (Nat.le_of_ble_eq_true rfl) (Nat.le_of_ble_eq_true rfl) rfl (Or.inr (⟨rfl, hF⟩))
            · replace hF := And.right hF c_8
              refine zv_iload_n (pc := 81) C rfl 1 rfl dX5_about_81 ?_
              refine zv_if_lt (pc := 82) (tgt := 90) C dX5_about_82 (by decide) (fun c_9 => ?_) (fun c_9 => ?_)
              · replace hF := And.left hF c_9
                exact zn_throw (pc := 90) (text := "no such layer, or nothing such about it") (ik := 102) (is := 115) (ic := 106) C hB hT hlt hlk rfl (List.mem_of_getElem? (i := 6) rfl) (List.mem_of_getElem? (i := 1) rfl) (List.mem_of_getElem? (i := 2) rfl) (fun w h => List.mem_cons_of_mem _ (List.mem_append_left _ (List.mem_append_right _ h))) znb_106 zng_102_106 dX5_about_90 dX5_about_93 dX5_about_94 dX5_about_96 dX5_about_99 (Nat.le_of_ble_eq_true rfl) (Nat.le_of_ble_eq_true rfl) (Nat.le_of_ble_eq_true rfl) (Nat.le_of_ble_eq_true rfl) (Nat.le_of_ble_eq_true rfl) (Nat.le_of_ble_eq_true rfl) rfl (Or.inr (⟨rfl, hF⟩))
              · replace hF := And.right hF c_9
                refine zv_iload_n (pc := 85) C rfl 1 rfl dX5_about_85 ?_
                refine zv_iconst (pc := 86) (v := 2) C (by decide) dX5_about_86 ?_
                refine zv_icmp_le (pc := 87) (tgt := 100) C dX5_about_87 (by decide) (fun c_10 => ?_) (fun c_10 => ?_)
                · replace hF := And.left hF c_10
                  refine zv_aload (pc := 100) C 2 rfl dX5_about_100 ?_
                  refine zv_iload_n (pc := 102) C rfl 0 rfl dX5_about_102 ?_
                  refine zv_iload_n (pc := 103) C rfl 1 rfl dX5_about_103 ?_
                  refine zv_ci0 (pc := 104) (ws' := (fun uz : Unit => (zd_X5_about cI adO qO3 qO4 qO5 qO6 adP0 qP00 qP01 qP02 qP03 qP04 adP1 qP10 qP11 qP12 qP13 qP14 oO2 oO7 oO8 oO9 oO10 oO11 O P0 P1))) C (zv_runV (As := [.int i, .int wh]) (b := adP0) (rest := []) (ci := 2) (q0 := 5) C (zc_X3_layerPart l G cI adP0 qP00 qP01 qP02 qP03 qP04 P0 i wh _ hF) (cwV 2 C.2.2.2.2.1 gN_X5_about_X3_layerPart rfl rfl rfl zy_X3_layerPart ⟨Nat.le_of_ble_eq_true rfl, Nat.le_of_ble_eq_true rfl⟩) rfl rfl rfl rfl rfl (Nat.le_of_ble_eq_true rfl) ⟨Nat.zero_le _, Nat.zero_le _⟩ dX5_about_104) [5, 6, 7, 8, 9, 10] [0, 1, 2, 3, 4, 11, 12, 13, 14, 15, 16] rfl rfl rfl rfl rfl (fun _ => rfl) (fun _ => rfl) (fun _ => rfl) (fun v_11 uz hF => ?_)
                  refine zx_ret (mc := 1) (ms := 6) (Nat.le_of_ble_eq_true rfl) (Nat.le_of_ble_eq_true rfl) ?_
                  exact zv_iret (pc := 107) C hr hlk v_11 () hF rfl dX5_about_107
                · replace hF := And.right hF c_10
                  exact zn_throw (pc := 90) (text := "no such layer, or nothing such about it") (ik := 102) (is := 115) (ic := 106) C hB hT hlt hlk rfl (List.mem_of_getElem? (i := 6) rfl) (List.mem_of_getElem? (i := 1) rfl) (List.mem_of_getElem? (i := 2) rfl) (fun w h => List.mem_cons_of_mem _ (List.mem_append_left _ (List.mem_append_right _ h))) znb_106 zng_102_106 dX5_about_90 dX5_about_93 dX5_about_94 dX5_about_96 dX5_about_99 (Nat.le_of_ble_eq_true rfl) (Nat.le_of_ble_eq_true rfl) (Nat.le_of_ble_eq_true rfl) (Nat.le_of_ble_eq_true rfl) (Nat.le_of_ble_eq_true rfl) (Nat.le_of_ble_eq_true rfl) rfl (Or.inr (⟨rfl, hF⟩))
        · skip
          refine zv_icmp_ne (pc := 48) (tgt := 68) C dX5_about_48 (by decide) (fun c_5 => ?_) (fun c_5 => ?_)
          · replace hF := And.left hF c_5
            exact zv_lvs [0, 1, 2] rfl (hKJ_6 () hF)
          · replace hF := And.right hF c_5
            refine zv_iload_n (pc := 51) C rfl 1 rfl dX5_about_51 ?_
            refine zv_if_eq (pc := 52) (tgt := 60) C dX5_about_52 (by decide) (fun c_12 => ?_) (fun c_12 => ?_)
            · replace hF := And.left hF c_12
              refine zv_aload (pc := 60) C 2 rfl dX5_about_60 ?_
              refine zv_iconst (pc := 62) (v := 1) C (by decide) dX5_about_62 ?_
              refine zv_iload_n (pc := 63) C rfl 1 rfl dX5_about_63 ?_
              refine zv_ci0 (pc := 64) (ws' := (fun uz : Unit => (zd_X5_about cI adO qO3 qO4 qO5 qO6 adP0 qP00 qP01 qP02 qP03 qP04 adP1 qP10 qP11 qP12 qP13 qP14 oO2 oO7 oO8 oO9 oO10 oO11 O P0 P1))) C (zv_runV (As := [.int (1 : Int32), .int wh]) (b := adP0) (rest := []) (ci := 2) (q0 := 5) C (zc_X3_edgePart l G cI adP0 qP00 qP01 qP02 qP03 qP04 P0 (1 : Int32) wh _ hF) (cwV 2 C.2.2.2.2.1 gN_X5_about_X3_edgePart rfl rfl rfl zy_X3_edgePart ⟨Nat.le_of_ble_eq_true rfl, Nat.le_of_ble_eq_true rfl⟩) rfl rfl rfl rfl rfl (Nat.le_of_ble_eq_true rfl) ⟨Nat.zero_le _, Nat.zero_le _⟩ dX5_about_64) [5, 6, 7, 8, 9, 10] [0, 1, 2, 3, 4, 11, 12, 13, 14, 15, 16] rfl rfl rfl rfl rfl (fun _ => rfl) (fun _ => rfl) (fun _ => rfl) (fun v_13 uz hF => ?_)
              refine zx_ret (mc := 1) (ms := 6) (Nat.le_of_ble_eq_true rfl) (Nat.le_of_ble_eq_true rfl) ?_
              exact zv_iret (pc := 67) C hr hlk v_13 () hF rfl dX5_about_67
            · replace hF := And.right hF c_12
              refine zv_iload_n (pc := 55) C rfl 1 rfl dX5_about_55 ?_
              refine zv_iconst (pc := 56) (v := 1) C (by decide) dX5_about_56 ?_
              refine zv_icmp_ne (pc := 57) (tgt := 68) C dX5_about_57 (by decide) (fun c_14 => ?_) (fun c_14 => ?_)
              · replace hF := And.left hF c_14
                exact zv_lvs [0, 1, 2] rfl (hKJ_6 () hF)
              · replace hF := And.right hF c_14
                refine zv_aload (pc := 60) C 2 rfl dX5_about_60 ?_
                refine zv_iconst (pc := 62) (v := 1) C (by decide) dX5_about_62 ?_
                refine zv_iload_n (pc := 63) C rfl 1 rfl dX5_about_63 ?_
                refine zv_ci0 (pc := 64) (ws' := (fun uz : Unit => (zd_X5_about cI adO qO3 qO4 qO5 qO6 adP0 qP00 qP01 qP02 qP03 qP04 adP1 qP10 qP11 qP12 qP13 qP14 oO2 oO7 oO8 oO9 oO10 oO11 O P0 P1))) C (zv_runV (As := [.int (1 : Int32), .int wh]) (b := adP0) (rest := []) (ci := 2) (q0 := 5) C (zc_X3_edgePart l G cI adP0 qP00 qP01 qP02 qP03 qP04 P0 (1 : Int32) wh _ hF) (cwV 2 C.2.2.2.2.1 gN_X5_about_X3_edgePart rfl rfl rfl zy_X3_edgePart ⟨Nat.le_of_ble_eq_true rfl, Nat.le_of_ble_eq_true rfl⟩) rfl rfl rfl rfl rfl (Nat.le_of_ble_eq_true rfl) ⟨Nat.zero_le _, Nat.zero_le _⟩ dX5_about_64) [5, 6, 7, 8, 9, 10] [0, 1, 2, 3, 4, 11, 12, 13, 14, 15, 16] rfl rfl rfl rfl rfl (fun _ => rfl) (fun _ => rfl) (fun _ => rfl) (fun v_15 uz hF => ?_)
                refine zx_ret (mc := 1) (ms := 6) (Nat.le_of_ble_eq_true rfl) (Nat.le_of_ble_eq_true rfl) ?_
                exact zv_iret (pc := 67) C hr hlk v_15 () hF rfl dX5_about_67
      · skip
        refine zv_icmp_ne (pc := 25) (tgt := 45) C dX5_about_25 (by decide) (fun c_3 => ?_) (fun c_3 => ?_)
        · replace hF := And.left hF c_3
          exact zv_lvs [0, 1, 2] rfl (hKJ_4 () hF)
        · replace hF := And.right hF c_3
          refine zv_iload_n (pc := 28) C rfl 1 rfl dX5_about_28 ?_
          refine zv_if_eq (pc := 29) (tgt := 37) C dX5_about_29 (by decide) (fun c_16 => ?_) (fun c_16 => ?_)
          · replace hF := And.left hF c_16
            refine zv_aload (pc := 37) C 2 rfl dX5_about_37 ?_
            refine zv_iconst (pc := 39) (v := 0) C (by decide) dX5_about_39 ?_
            refine zv_iload_n (pc := 40) C rfl 1 rfl dX5_about_40 ?_
            refine zv_ci0 (pc := 41) (ws' := (fun uz : Unit => (zd_X5_about cI adO qO3 qO4 qO5 qO6 adP0 qP00 qP01 qP02 qP03 qP04 adP1 qP10 qP11 qP12 qP13 qP14 oO2 oO7 oO8 oO9 oO10 oO11 O P0 P1))) C (zv_runV (As := [.int (0 : Int32), .int wh]) (b := adP0) (rest := []) (ci := 2) (q0 := 5) C (zc_X3_edgePart l G cI adP0 qP00 qP01 qP02 qP03 qP04 P0 (0 : Int32) wh _ hF) (cwV 2 C.2.2.2.2.1 gN_X5_about_X3_edgePart rfl rfl rfl zy_X3_edgePart ⟨Nat.le_of_ble_eq_true rfl, Nat.le_of_ble_eq_true rfl⟩) rfl rfl rfl rfl rfl (Nat.le_of_ble_eq_true rfl) ⟨Nat.zero_le _, Nat.zero_le _⟩ dX5_about_41) [5, 6, 7, 8, 9, 10] [0, 1, 2, 3, 4, 11, 12, 13, 14, 15, 16] rfl rfl rfl rfl rfl (fun _ => rfl) (fun _ => rfl) (fun _ => rfl) (fun v_17 uz hF => ?_)
            refine zx_ret (mc := 1) (ms := 6) (Nat.le_of_ble_eq_true rfl) (Nat.le_of_ble_eq_true rfl) ?_
            exact zv_iret (pc := 44) C hr hlk v_17 () hF rfl dX5_about_44
          · replace hF := And.right hF c_16
            refine zv_iload_n (pc := 32) C rfl 1 rfl dX5_about_32 ?_
            refine zv_iconst (pc := 33) (v := 1) C (by decide) dX5_about_33 ?_
            refine zv_icmp_ne (pc := 34) (tgt := 45) C dX5_about_34 (by decide) (fun c_18 => ?_) (fun c_18 => ?_)
            · replace hF := And.left hF c_18
              exact zv_lvs [0, 1, 2] rfl (hKJ_4 () hF)
            · replace hF := And.right hF c_18
              refine zv_aload (pc := 37) C 2 rfl dX5_about_37 ?_
              refine zv_iconst (pc := 39) (v := 0) C (by decide) dX5_about_39 ?_
              refine zv_iload_n (pc := 40) C rfl 1 rfl dX5_about_40 ?_
              refine zv_ci0 (pc := 41) (ws' := (fun uz : Unit => (zd_X5_about cI adO qO3 qO4 qO5 qO6 adP0 qP00 qP01 qP02 qP03 qP04 adP1 qP10 qP11 qP12 qP13 qP14 oO2 oO7 oO8 oO9 oO10 oO11 O P0 P1))) C (zv_runV (As := [.int (0 : Int32), .int wh]) (b := adP0) (rest := []) (ci := 2) (q0 := 5) C (zc_X3_edgePart l G cI adP0 qP00 qP01 qP02 qP03 qP04 P0 (0 : Int32) wh _ hF) (cwV 2 C.2.2.2.2.1 gN_X5_about_X3_edgePart rfl rfl rfl zy_X3_edgePart ⟨Nat.le_of_ble_eq_true rfl, Nat.le_of_ble_eq_true rfl⟩) rfl rfl rfl rfl rfl (Nat.le_of_ble_eq_true rfl) ⟨Nat.zero_le _, Nat.zero_le _⟩ dX5_about_41) [5, 6, 7, 8, 9, 10] [0, 1, 2, 3, 4, 11, 12, 13, 14, 15, 16] rfl rfl rfl rfl rfl (fun _ => rfl) (fun _ => rfl) (fun _ => rfl) (fun v_19 uz hF => ?_)
              refine zx_ret (mc := 1) (ms := 6) (Nat.le_of_ble_eq_true rfl) (Nat.le_of_ble_eq_true rfl) ?_
              exact zv_iret (pc := 44) C hr hlk v_19 () hF rfl dX5_about_44
    · skip
      refine zv_icmp_ne (pc := 9) (tgt := 22) C dX5_about_9 (by decide) (fun c_1 => ?_) (fun c_1 => ?_)
      · replace hF := And.left hF c_1
        exact zv_lvs [3, 4, 0] rfl (hKJ_2 () hF)
      · replace hF := And.right hF c_1
        refine zv_iload_n (pc := 12) C rfl 4 rfl dX5_about_12 ?_
        refine zv_if_ne (pc := 13) (tgt := 22) C dX5_about_13 (by decide) (fun c_20 => ?_) (fun c_20 => ?_)
        · replace hF := And.left hF c_20
          exact zv_lvs [3, 4, 0] rfl (hKJ_2 () hF)
        · replace hF := And.right hF c_20
          refine zv_aload (pc := 16) C 0 rfl dX5_about_16 ?_
          refine zv_get (pc := 18) (CC := RX3) (T := TX3) (N := 6) (ci := 2) (v := .int (P0 5 0)) C zi_X5_about_X3 5 rfl 5 (by decide) zf_X5_about_93 rfl rfl dX5_about_18 ?_
          refine zx_ret (mc := 1) (ms := 6) (Nat.le_of_ble_eq_true rfl) (Nat.le_of_ble_eq_true rfl) ?_
          exact zv_iret (pc := 21) C hr hlk (P0 5 0) () hF rfl dX5_about_21
  · have hra2 : adP1 = ra := hra.symm
    subst hra2
    refine zv_astore (pc := 5) (lv' := [(4, .ref adP1), (0, .ref adO), (1, .int st), (2, .int i), (3, .int wh)]) C (by decide) rfl dX5_about_5 ?_
    refine zv_iload_n (pc := 7) C rfl 3 rfl dX5_about_7 ?_
    refine zv_iconst (pc := 8) (v := -1) C (by decide) dX5_about_8 ?_
    obtain ⟨KJ_22, h0KJ_22, hF⟩ := hF
    refine zv_join (α := Unit) (KK := fun uz => KJ_22 ) (wsJ := fun uz => (zd_X5_about cI adO qO3 qO4 qO5 qO6 adP0 qP00 qP01 qP02 qP03 qP04 adP1 qP10 qP11 qP12 qP13 qP14 oO2 oO7 oO8 oO9 oO10 oO11 O P0 P1)) (pcJ := 22) (lvJ := fun uz => [(2, .int i), (3, .int wh), (4, .ref adP1)]) (stJ := fun uz => []) ?_ (fun hKJ_22 => ?_)
    · rintro - hF
      replace hF := h0KJ_22  hF
      refine zv_iload_n (pc := 22) C rfl 0 rfl dX5_about_22 ?_
      refine zv_bipush (pc := 23) (v := -2) C (by decide) dX5_about_23 ?_
      obtain ⟨KJ_24, h0KJ_24, hF⟩ := hF
      refine zv_join (α := Unit) (KK := fun uz => KJ_24 ) (wsJ := fun uz => (zd_X5_about cI adO qO3 qO4 qO5 qO6 adP0 qP00 qP01 qP02 qP03 qP04 adP1 qP10 qP11 qP12 qP13 qP14 oO2 oO7 oO8 oO9 oO10 oO11 O P0 P1)) (pcJ := 45) (lvJ := fun uz => [(2, .int i), (3, .int wh), (4, .ref adP1)]) (stJ := fun uz => []) ?_ (fun hKJ_24 => ?_)
      · rintro - hF
        replace hF := h0KJ_24  hF
        refine zv_iload_n (pc := 45) C rfl 0 rfl dX5_about_45 ?_
        refine zv_bipush (pc := 46) (v := -3) C (by decide) dX5_about_46 ?_
        obtain ⟨KJ_26, h0KJ_26, hF⟩ := hF
        refine zv_join (α := Unit) (KK := fun uz => KJ_26 ) (wsJ := fun uz => (zd_X5_about cI adO qO3 qO4 qO5 qO6 adP0 qP00 qP01 qP02 qP03 qP04 adP1 qP10 qP11 qP12 qP13 qP14 oO2 oO7 oO8 oO9 oO10 oO11 O P0 P1)) (pcJ := 68) (lvJ := fun uz => [(2, .int i), (3, .int wh), (4, .ref adP1)]) (stJ := fun uz => []) ?_ (fun hKJ_26 => ?_)
        · rintro - hF
          replace hF := h0KJ_26  hF
          refine zv_iload_n (pc := 68) C rfl 0 rfl dX5_about_68 ?_
          refine zv_if_lt (pc := 69) (tgt := 90) C dX5_about_69 (by decide) (fun c_27 => ?_) (fun c_27 => ?_)
          · replace hF := And.left hF c_27
            exact zn_throw (pc := 90) (text := "no such layer, or nothing such about it") (ik := 102) (is := 115) (ic := 106) C hB hT hlt hlk rfl (List.mem_of_getElem? (i := 6) rfl) (List.mem_of_getElem? (i := 1) rfl) (List.mem_of_getElem? (i := 2) rfl) (fun w h => List.mem_cons_of_mem _ (List.mem_append_left _ (List.mem_append_right _ h))) znb_106 zng_102_106 dX5_about_90 dX5_about_93 dX5_about_94 dX5_about_96 dX5_about_99 (Nat.le_of_ble_eq_true rfl) (Nat.le_of_ble_eq_true rfl) (Nat.le_of_ble_eq_true rfl) (Nat.le_of_ble_eq_true rfl) (Nat.le_of_ble_eq_true rfl) (Nat.le_of_ble_eq_true rfl) rfl (Or.inr (⟨rfl, hF⟩))
          · replace hF := And.right hF c_27
            refine zv_iload_n (pc := 72) C rfl 0 rfl dX5_about_72 ?_
            refine zv_aload (pc := 73) C 2 rfl dX5_about_73 ?_
            refine zv_get (pc := 75) (CC := RX3) (T := TX3) (N := 6) (ci := 2) (v := .int (P1 5 0)) C zi_X5_about_X3 11 rfl 5 (by decide) zf_X5_about_93 rfl rfl dX5_about_75 ?_
            refine zv_icmp_ge (pc := 78) (tgt := 90) C dX5_about_78 (by decide) (fun c_28 => ?_) (fun c_28 => ?_)
            · replace hF := And.left hF c_28
              exact zn_throw (pc := 90) (text := "no such layer, or nothing such about it") (ik := 102) (is := 115) (ic := 106) C hB hT hlt hlk rfl (List.mem_of_getElem? (i := 6) rfl) (List.mem_of_getElem? (i := 1) rfl) (List.mem_of_getElem? (i := 2) rfl) (fun w h => List.mem_cons_of_mem _ (List.mem_append_left _ (List.mem_append_right _ h))) znb_106 zng_102_106 dX5_about_90 dX5_about_93 dX5_about_94 dX5_about_96 dX5_about_99 (Nat.le_of_ble_eq_true rfl) (Nat.le_of_ble_eq_true rfl) (Nat.le_of_ble_eq_true rfl) (Nat.le_of_ble_eq_true rfl) (Nat.le_of_ble_eq_true rfl) (Nat.le_of_ble_eq_true rfl) rfl (Or.inr (⟨rfl, hF⟩))
            · replace hF := And.right hF c_28
              refine zv_iload_n (pc := 81) C rfl 1 rfl dX5_about_81 ?_
              refine zv_if_lt (pc := 82) (tgt := 90) C dX5_about_82 (by decide) (fun c_29 => ?_) (fun c_29 => ?_)
              · replace hF := And.left hF c_29
                exact zn_throw (pc := 90) (text := "no such layer, or nothing such about it") (ik := 102) (is := 115) (ic := 106) C hB hT hlt hlk rfl (List.mem_of_getElem? (i := 6) rfl) (List.mem_of_getElem? (i := 1) rfl) (List.mem_of_getElem? (i := 2) rfl) (fun w h => List.mem_cons_of_mem _ (List.mem_append_left _ (List.mem_append_right _ h))) znb_106 zng_102_106 dX5_about_90 dX5_about_93 dX5_about_94 dX5_about_96 dX5_about_99 (Nat.le_of_ble_eq_true rfl) (Nat.le_of_ble_eq_true rfl) (Nat.le_of_ble_eq_true rfl) (Nat.le_of_ble_eq_true rfl) (Nat.le_of_ble_eq_true rfl) (Nat.le_of_ble_eq_true rfl) rfl (Or.inr (⟨rfl, hF⟩))
              · replace hF := And.right hF c_29
                refine zv_iload_n (pc := 85) C rfl 1 rfl dX5_about_85 ?_
                refine zv_iconst (pc := 86) (v := 2) C (by decide) dX5_about_86 ?_
                refine zv_icmp_le (pc := 87) (tgt := 100) C dX5_about_87 (by decide) (fun c_30 => ?_) (fun c_30 => ?_)
                · replace hF := And.left hF c_30
                  refine zv_aload (pc := 100) C 2 rfl dX5_about_100 ?_
                  refine zv_iload_n (pc := 102) C rfl 0 rfl dX5_about_102 ?_
                  refine zv_iload_n (pc := 103) C rfl 1 rfl dX5_about_103 ?_
                  refine zv_ci0 (pc := 104) (ws' := (fun uz : Unit => (zd_X5_about cI adO qO3 qO4 qO5 qO6 adP0 qP00 qP01 qP02 qP03 qP04 adP1 qP10 qP11 qP12 qP13 qP14 oO2 oO7 oO8 oO9 oO10 oO11 O P0 P1))) C (zv_runV (As := [.int i, .int wh]) (b := adP1) (rest := []) (ci := 2) (q0 := 11) C (zc_X3_layerPart l G cI adP1 qP10 qP11 qP12 qP13 qP14 P1 i wh _ hF) (cwV 2 C.2.2.2.2.1 gN_X5_about_X3_layerPart rfl rfl rfl zy_X3_layerPart ⟨Nat.le_of_ble_eq_true rfl, Nat.le_of_ble_eq_true rfl⟩) rfl rfl rfl rfl rfl (Nat.le_of_ble_eq_true rfl) ⟨Nat.zero_le _, Nat.zero_le _⟩ dX5_about_104) [11, 12, 13, 14, 15, 16] [0, 1, 2, 3, 4, 5, 6, 7, 8, 9, 10] rfl rfl rfl rfl rfl (fun _ => rfl) (fun _ => rfl) (fun _ => rfl) (fun v_31 uz hF => ?_)
                  refine zx_ret (mc := 1) (ms := 6) (Nat.le_of_ble_eq_true rfl) (Nat.le_of_ble_eq_true rfl) ?_
                  exact zv_iret (pc := 107) C hr hlk v_31 () hF rfl dX5_about_107
                · replace hF := And.right hF c_30
                  exact zn_throw (pc := 90) (text := "no such layer, or nothing such about it") (ik := 102) (is := 115) (ic := 106) C hB hT hlt hlk rfl (List.mem_of_getElem? (i := 6) rfl) (List.mem_of_getElem? (i := 1) rfl) (List.mem_of_getElem? (i := 2) rfl) (fun w h => List.mem_cons_of_mem _ (List.mem_append_left _ (List.mem_append_right _ h))) znb_106 zng_102_106 dX5_about_90 dX5_about_93 dX5_about_94 dX5_about_96 dX5_about_99 (Nat.le_of_ble_eq_true rfl) (Nat.le_of_ble_eq_true rfl) (Nat.le_of_ble_eq_true rfl) (Nat.le_of_ble_eq_true rfl) (Nat.le_of_ble_eq_true rfl) (Nat.le_of_ble_eq_true rfl) rfl (Or.inr (⟨rfl, hF⟩))
        · skip
          refine zv_icmp_ne (pc := 48) (tgt := 68) C dX5_about_48 (by decide) (fun c_25 => ?_) (fun c_25 => ?_)
          · replace hF := And.left hF c_25
            exact zv_lvs [0, 1, 2] rfl (hKJ_26 () hF)
          · replace hF := And.right hF c_25
            refine zv_iload_n (pc := 51) C rfl 1 rfl dX5_about_51 ?_
            refine zv_if_eq (pc := 52) (tgt := 60) C dX5_about_52 (by decide) (fun c_32 => ?_) (fun c_32 => ?_)
            · replace hF := And.left hF c_32
              refine zv_aload (pc := 60) C 2 rfl dX5_about_60 ?_
              refine zv_iconst (pc := 62) (v := 1) C (by decide) dX5_about_62 ?_
              refine zv_iload_n (pc := 63) C rfl 1 rfl dX5_about_63 ?_
              refine zv_ci0 (pc := 64) (ws' := (fun uz : Unit => (zd_X5_about cI adO qO3 qO4 qO5 qO6 adP0 qP00 qP01 qP02 qP03 qP04 adP1 qP10 qP11 qP12 qP13 qP14 oO2 oO7 oO8 oO9 oO10 oO11 O P0 P1))) C (zv_runV (As := [.int (1 : Int32), .int wh]) (b := adP1) (rest := []) (ci := 2) (q0 := 11) C (zc_X3_edgePart l G cI adP1 qP10 qP11 qP12 qP13 qP14 P1 (1 : Int32) wh _ hF) (cwV 2 C.2.2.2.2.1 gN_X5_about_X3_edgePart rfl rfl rfl zy_X3_edgePart ⟨Nat.le_of_ble_eq_true rfl, Nat.le_of_ble_eq_true rfl⟩) rfl rfl rfl rfl rfl (Nat.le_of_ble_eq_true rfl) ⟨Nat.zero_le _, Nat.zero_le _⟩ dX5_about_64) [11, 12, 13, 14, 15, 16] [0, 1, 2, 3, 4, 5, 6, 7, 8, 9, 10] rfl rfl rfl rfl rfl (fun _ => rfl) (fun _ => rfl) (fun _ => rfl) (fun v_33 uz hF => ?_)
              refine zx_ret (mc := 1) (ms := 6) (Nat.le_of_ble_eq_true rfl) (Nat.le_of_ble_eq_true rfl) ?_
              exact zv_iret (pc := 67) C hr hlk v_33 () hF rfl dX5_about_67
            · replace hF := And.right hF c_32
              refine zv_iload_n (pc := 55) C rfl 1 rfl dX5_about_55 ?_
              refine zv_iconst (pc := 56) (v := 1) C (by decide) dX5_about_56 ?_
              refine zv_icmp_ne (pc := 57) (tgt := 68) C dX5_about_57 (by decide) (fun c_34 => ?_) (fun c_34 => ?_)
              · replace hF := And.left hF c_34
                exact zv_lvs [0, 1, 2] rfl (hKJ_26 () hF)
              · replace hF := And.right hF c_34
                refine zv_aload (pc := 60) C 2 rfl dX5_about_60 ?_
                refine zv_iconst (pc := 62) (v := 1) C (by decide) dX5_about_62 ?_
                refine zv_iload_n (pc := 63) C rfl 1 rfl dX5_about_63 ?_
                refine zv_ci0 (pc := 64) (ws' := (fun uz : Unit => (zd_X5_about cI adO qO3 qO4 qO5 qO6 adP0 qP00 qP01 qP02 qP03 qP04 adP1 qP10 qP11 qP12 qP13 qP14 oO2 oO7 oO8 oO9 oO10 oO11 O P0 P1))) C (zv_runV (As := [.int (1 : Int32), .int wh]) (b := adP1) (rest := []) (ci := 2) (q0 := 11) C (zc_X3_edgePart l G cI adP1 qP10 qP11 qP12 qP13 qP14 P1 (1 : Int32) wh _ hF) (cwV 2 C.2.2.2.2.1 gN_X5_about_X3_edgePart rfl rfl rfl zy_X3_edgePart ⟨Nat.le_of_ble_eq_true rfl, Nat.le_of_ble_eq_true rfl⟩) rfl rfl rfl rfl rfl (Nat.le_of_ble_eq_true rfl) ⟨Nat.zero_le _, Nat.zero_le _⟩ dX5_about_64) [11, 12, 13, 14, 15, 16] [0, 1, 2, 3, 4, 5, 6, 7, 8, 9, 10] rfl rfl rfl rfl rfl (fun _ => rfl) (fun _ => rfl) (fun _ => rfl) (fun v_35 uz hF => ?_)
                refine zx_ret (mc := 1) (ms := 6) (Nat.le_of_ble_eq_true rfl) (Nat.le_of_ble_eq_true rfl) ?_
                exact zv_iret (pc := 67) C hr hlk v_35 () hF rfl dX5_about_67
      · skip
        refine zv_icmp_ne (pc := 25) (tgt := 45) C dX5_about_25 (by decide) (fun c_23 => ?_) (fun c_23 => ?_)
        · replace hF := And.left hF c_23
          exact zv_lvs [0, 1, 2] rfl (hKJ_24 () hF)
        · replace hF := And.right hF c_23
          refine zv_iload_n (pc := 28) C rfl 1 rfl dX5_about_28 ?_
          refine zv_if_eq (pc := 29) (tgt := 37) C dX5_about_29 (by decide) (fun c_36 => ?_) (fun c_36 => ?_)
          · replace hF := And.left hF c_36
            refine zv_aload (pc := 37) C 2 rfl dX5_about_37 ?_
            refine zv_iconst (pc := 39) (v := 0) C (by decide) dX5_about_39 ?_
            refine zv_iload_n (pc := 40) C rfl 1 rfl dX5_about_40 ?_
            refine zv_ci0 (pc := 41) (ws' := (fun uz : Unit => (zd_X5_about cI adO qO3 qO4 qO5 qO6 adP0 qP00 qP01 qP02 qP03 qP04 adP1 qP10 qP11 qP12 qP13 qP14 oO2 oO7 oO8 oO9 oO10 oO11 O P0 P1))) C (zv_runV (As := [.int (0 : Int32), .int wh]) (b := adP1) (rest := []) (ci := 2) (q0 := 11) C (zc_X3_edgePart l G cI adP1 qP10 qP11 qP12 qP13 qP14 P1 (0 : Int32) wh _ hF) (cwV 2 C.2.2.2.2.1 gN_X5_about_X3_edgePart rfl rfl rfl zy_X3_edgePart ⟨Nat.le_of_ble_eq_true rfl, Nat.le_of_ble_eq_true rfl⟩) rfl rfl rfl rfl rfl (Nat.le_of_ble_eq_true rfl) ⟨Nat.zero_le _, Nat.zero_le _⟩ dX5_about_41) [11, 12, 13, 14, 15, 16] [0, 1, 2, 3, 4, 5, 6, 7, 8, 9, 10] rfl rfl rfl rfl rfl (fun _ => rfl) (fun _ => rfl) (fun _ => rfl) (fun v_37 uz hF => ?_)
            refine zx_ret (mc := 1) (ms := 6) (Nat.le_of_ble_eq_true rfl) (Nat.le_of_ble_eq_true rfl) ?_
            exact zv_iret (pc := 44) C hr hlk v_37 () hF rfl dX5_about_44
          · replace hF := And.right hF c_36
            refine zv_iload_n (pc := 32) C rfl 1 rfl dX5_about_32 ?_
            refine zv_iconst (pc := 33) (v := 1) C (by decide) dX5_about_33 ?_
            refine zv_icmp_ne (pc := 34) (tgt := 45) C dX5_about_34 (by decide) (fun c_38 => ?_) (fun c_38 => ?_)
            · replace hF := And.left hF c_38
              exact zv_lvs [0, 1, 2] rfl (hKJ_24 () hF)
            · replace hF := And.right hF c_38
              refine zv_aload (pc := 37) C 2 rfl dX5_about_37 ?_
              refine zv_iconst (pc := 39) (v := 0) C (by decide) dX5_about_39 ?_
              refine zv_iload_n (pc := 40) C rfl 1 rfl dX5_about_40 ?_
              refine zv_ci0 (pc := 41) (ws' := (fun uz : Unit => (zd_X5_about cI adO qO3 qO4 qO5 qO6 adP0 qP00 qP01 qP02 qP03 qP04 adP1 qP10 qP11 qP12 qP13 qP14 oO2 oO7 oO8 oO9 oO10 oO11 O P0 P1))) C (zv_runV (As := [.int (0 : Int32), .int wh]) (b := adP1) (rest := []) (ci := 2) (q0 := 11) C (zc_X3_edgePart l G cI adP1 qP10 qP11 qP12 qP13 qP14 P1 (0 : Int32) wh _ hF) (cwV 2 C.2.2.2.2.1 gN_X5_about_X3_edgePart rfl rfl rfl zy_X3_edgePart ⟨Nat.le_of_ble_eq_true rfl, Nat.le_of_ble_eq_true rfl⟩) rfl rfl rfl rfl rfl (Nat.le_of_ble_eq_true rfl) ⟨Nat.zero_le _, Nat.zero_le _⟩ dX5_about_41) [11, 12, 13, 14, 15, 16] [0, 1, 2, 3, 4, 5, 6, 7, 8, 9, 10] rfl rfl rfl rfl rfl (fun _ => rfl) (fun _ => rfl) (fun _ => rfl) (fun v_39 uz hF => ?_)
              refine zx_ret (mc := 1) (ms := 6) (Nat.le_of_ble_eq_true rfl) (Nat.le_of_ble_eq_true rfl) ?_
              exact zv_iret (pc := 44) C hr hlk v_39 () hF rfl dX5_about_44
    · skip
      refine zv_icmp_ne (pc := 9) (tgt := 22) C dX5_about_9 (by decide) (fun c_21 => ?_) (fun c_21 => ?_)
      · replace hF := And.left hF c_21
        exact zv_lvs [3, 4, 0] rfl (hKJ_22 () hF)
      · replace hF := And.right hF c_21
        refine zv_iload_n (pc := 12) C rfl 4 rfl dX5_about_12 ?_
        refine zv_if_ne (pc := 13) (tgt := 22) C dX5_about_13 (by decide) (fun c_40 => ?_) (fun c_40 => ?_)
        · replace hF := And.left hF c_40
          exact zv_lvs [3, 4, 0] rfl (hKJ_22 () hF)
        · replace hF := And.right hF c_40
          refine zv_aload (pc := 16) C 0 rfl dX5_about_16 ?_
          refine zv_get (pc := 18) (CC := RX3) (T := TX3) (N := 6) (ci := 2) (v := .int (P1 5 0)) C zi_X5_about_X3 11 rfl 5 (by decide) zf_X5_about_93 rfl rfl dX5_about_18 ?_
          refine zx_ret (mc := 1) (ms := 6) (Nat.le_of_ble_eq_true rfl) (Nat.le_of_ble_eq_true rfl) ?_
          exact zv_iret (pc := 21) C hr hlk (P1 5 0) () hF rfl dX5_about_21
