/-! X0_becomeLike -/
def zd_X0_becomeLike (cI : ClassId) (adF qF0 qF1 qF2 qF3 adO qO0 qO1 qO2 qO3 : Nat) (F : zMem) (O : zMem) : va_W := [(adF, .inr (0, [.ref qF0, .ref qF1, .ref qF2, .ref qF3])), (qF0, .inl (cI, 16, .inl (F 0))), (qF1, .inl (cI, 16, .inl (F 1))), (qF2, .inl (cI, 32, .inl (F 2))), (qF3, .inl (cI, 32, .inl (F 3))), (adO, .inr (0, [.ref qO0, .ref qO1, .ref qO2, .ref qO3])), (qO0, .inl (cI, 16, .inl (O 0))), (qO1, .inl (cI, 16, .inl (O 1))), (qO2, .inl (cI, 32, .inl (O 2))), (qO3, .inl (cI, 32, .inl (O 3)))]
abbrev rmX0_becomeLike : Room := { frames := 1, cells := 0, slots := 0, locals := 22 }
def zw_X0_becomeLike (F : zMem) (O : zMem) (post : zMem → Prop) : Prop := zw_X1_put 16 16 (F 0) (O 0) (fun (r_1 : zRow) => zw_X1_put 16 16 (F 1) (O 1) (fun (r_2 : zRow) => post (zset (zset F 0 r_1) 1 r_2)))
/-! X0_toRestOfOne -/
def zd_X0_toRestOfOne (cI : ClassId) (adF qF0 qF1 qF2 qF3 : Nat) (F : zMem) : va_W := [(adF, .inr (0, [.ref qF0, .ref qF1, .ref qF2, .ref qF3])), (qF0, .inl (cI, 16, .inl (F 0))), (qF1, .inl (cI, 16, .inl (F 1))), (qF2, .inl (cI, 32, .inl (F 2))), (qF3, .inl (cI, 32, .inl (F 3)))]
abbrev rmX0_toRestOfOne : Room := { frames := 1, cells := 0, slots := 0, locals := 26 }
def zw_X0_toRestOfOne (F : zMem) (post : zMem → Prop) : Prop := zw_X1_scale 16 (F 0) (-1 : Int64) (fun (r_1 : zRow) => zw_X1_gain 16 16 r_1 (F 1) (1 : Int64) (fun (r_2 : zRow) => post (zset F 0 r_2)))
/-! X0_compareWith -/
def zd_X0_compareWith (cI : ClassId) (adF qF0 qF1 qF2 qF3 adO qO0 qO1 qO2 qO3 : Nat) (F : zMem) (O : zMem) : va_W := [(adF, .inr (0, [.ref qF0, .ref qF1, .ref qF2, .ref qF3])), (qF0, .inl (cI, 16, .inl (F 0))), (qF1, .inl (cI, 16, .inl (F 1))), (qF2, .inl (cI, 32, .inl (F 2))), (qF3, .inl (cI, 32, .inl (F 3))), (adO, .inr (0, [.ref qO0, .ref qO1, .ref qO2, .ref qO3])), (qO0, .inl (cI, 16, .inl (O 0))), (qO1, .inl (cI, 16, .inl (O 1))), (qO2, .inl (cI, 32, .inl (O 2))), (qO3, .inl (cI, 32, .inl (O 3)))]
abbrev rmX0_compareWith : Room := { frames := 2, cells := 0, slots := 0, locals := 51 }
def zw_X0_compareWith (F : zMem) (O : zMem) (post : Int32 → zMem → Prop) : Prop := zw_X1_multiply 32 16 16 (F 2) (F 0) (O 1) (fun (r_1 : zRow) => zw_X1_multiply 32 16 16 (F 3) (O 0) (F 1) (fun (r_2 : zRow) => zw_X1_compare 32 32 r_1 r_2 (32 : Int32) (fun (v_3 : Int32) => post v_3 (zset (zset F 2 r_1) 3 r_2))))
/-! X0_toLowestTerms -/
def zd_X0_toLowestTerms (cI : ClassId) (adF qF0 qF1 qF2 qF3 : Nat) (F : zMem) : va_W := [(adF, .inr (0, [.ref qF0, .ref qF1, .ref qF2, .ref qF3])), (qF0, .inl (cI, 16, .inl (F 0))), (qF1, .inl (cI, 16, .inl (F 1))), (qF2, .inl (cI, 32, .inl (F 2))), (qF3, .inl (cI, 32, .inl (F 3)))]
abbrev rmX0_toLowestTerms : Room := { frames := 4, cells := 0, slots := 0, locals := 98 }
def zw_X0_toLowestTerms (F : zMem) (post : zMem → Prop) : Prop := zw_X1_signOf 16 (F 0) (fun (v_1 : Int32) => ((¬ v_1 = 0 → zw_X1_twosOf 16 (F 0) (16 : Int32) (fun (v_3 : Int32) => zw_X1_twosOf 16 (F 1) (16 : Int32) (fun (v_4 : Int32) => ∀ x1_5 : Int32, x1_5 = (if v_4 < v_3 then v_4 else v_3) → (zw_X1_shiftDown 16 (F 0) x1_5 (16 : Int32) (fun (r_6 : zRow) => zw_X1_shiftDown 16 (F 1) x1_5 (16 : Int32) (fun (r_7 : zRow) => zw_X1_put 32 16 (F 2) r_6 (fun (r_8 : zRow) => zw_X1_put 32 16 (F 3) r_7 (fun (r_9 : zRow) => zw_X1_twosOf 32 r_8 (32 : Int32) (fun (v_10 : Int32) => zw_X1_shiftDown 32 r_8 v_10 (32 : Int32) (fun (r_11 : zRow) => zw_X1_twosOf 32 r_9 (32 : Int32) (fun (v_12 : Int32) => zw_X1_shiftDown 32 r_9 v_12 (32 : Int32) (fun (r_13 : zRow) => zw_X1_meetAtDivisor 32 32 r_11 r_13 (fun (r_14 : zRow) (r_15 : zRow) => zw_X1_divideExactly 16 32 r_6 r_14 (fun (r_16 : zRow) => zw_X1_divideExactly 16 32 r_7 r_14 (fun (r_17 : zRow) => post (zset (zset (zset (zset F 0 r_16) 1 r_17) 2 r_14) 3 r_15)))))))))))))))) ∧ (v_1 = 0 → zw_X1_set 16 (F 1) (1 : Int32) (fun (r_18 : zRow) => post (zset F 1 r_18)))))
/-! X0_part -/
def zd_X0_part (cI : ClassId) (adF qF0 qF1 qF2 qF3 : Nat) (F : zMem) : va_W := [(adF, .inr (0, [.ref qF0, .ref qF1, .ref qF2, .ref qF3])), (qF0, .inl (cI, 16, .inl (F 0))), (qF1, .inl (cI, 16, .inl (F 1))), (qF2, .inl (cI, 32, .inl (F 2))), (qF3, .inl (cI, 32, .inl (F 3)))]
abbrev rmX0_part : Room := { frames := 0, cells := 0, slots := 0, locals := 0 }
def zw_X0_part (F : zMem) (b : Int32) (kv : Int32) (post : Int32 → Prop) : Prop := ((b = 0 → ((kv < 0 → post (0 : Int32) ) ∧ (¬ kv < 0 → (((16 : Int32) ≤ kv → post (0 : Int32) ) ∧ (¬ (16 : Int32) ≤ kv → (vp_in kv 16 ∧ post ((F 0) (Int32.toNatClampNeg kv)) )))))) ∧ (¬ b = 0 → ((kv < 0 → post (0 : Int32) ) ∧ (¬ kv < 0 → (((16 : Int32) ≤ kv → post (0 : Int32) ) ∧ (¬ (16 : Int32) ≤ kv → (vp_in kv 16 ∧ post ((F 1) (Int32.toNatClampNeg kv)) )))))))
theorem zf_X0_becomeLike_15 : Cond.fieldLink RX0 15 "GlassStack$Fraction" "lower" "[I" ∈ wsX0_becomeLike := (List.mem_of_getElem? (i := 2) rfl)
theorem zf_X0_becomeLike_9 : Cond.fieldLink RX0 9 "GlassStack$Fraction" "upper" "[I" ∈ wsX0_becomeLike := (List.mem_of_getElem? (i := 1) rfl)
theorem zi_X0_becomeLike_X0 : ∀ w ∈ wsX00, w ∈ wsX0_becomeLike := fun w h => List.mem_cons_of_mem _ (List.mem_append_right _ h)
theorem zy_X0_becomeLike : yX0_becomeLike.cls = RX0 ∧ yX0_becomeLike.cls ≠ "java/lang/invoke/MethodHandle" ∧ yX0_becomeLike.cls ≠ "java/lang/invoke/VarHandle" ∧ (parseMethodDescriptor yX0_becomeLike.desc).map (fun d => d.parameters.length) = some 1 := by decide +kernel
set_option maxHeartbeats 4000000 in
set_option maxRecDepth 100000 in
theorem zc_X0_becomeLike (l : Launch) (G : va_G) (cI : ClassId) (adF qF0 qF1 qF2 qF3 adO qO0 qO1 qO2 qO3 : Nat) (F : zMem) (O : zMem) (post : zMem → Prop) (hF : zw_X0_becomeLike F O post) (sz : Nat) : Met l yX0_becomeLike wsX0_becomeLike rmX0_becomeLike (va_Pc [.ref adF, .ref adO] (zv_in G cI (zd_X0_becomeLike cI adF qF0 qF1 qF2 qF3 adO qO0 qO1 qO2 qO3 F O) sz)) (va_Qv (fun uz : zMem => post uz) (fun (uz : zMem) t => zv_out G cI (va_A (zd_X0_becomeLike cI adF qF0 qF1 qF2 qF3 adO qO0 qO1 qO2 qO3 F O) sz) (zd_X0_becomeLike cI adF qF0 qF1 qF2 qF3 adO qO0 qO1 qO2 qO3 uz O) t) (va_A (zd_X0_becomeLike cI adF qF0 qF1 qF2 qF3 adO qO0 qO1 qO2 qO3 F O) sz)) 0 0 (va_A (zd_X0_becomeLike cI adF qF0 qF1 qF2 qF3 adO qO0 qO1 qO2 qO3 F O) sz) := by
  refine zv_met (cc := cX0_becomeLike) (maxL := 2) (ret := none) (lv0 := [(0, .ref adF), (1, .ref adO)]) (Qc := fun A => va_Qv (fun uz : zMem => post uz) (fun (uz : zMem) t => zv_out G cI A (zd_X0_becomeLike cI adF qF0 qF1 qF2 qF3 adO qO0 qO1 qO2 qO3 uz O) t) A) (by decide) rfl (Nat.le_of_ble_eq_true rfl) rfl ?_ sz
  intro p e s m below meth c A C hr hlk
  clear sz
  refine zv_aload_n (pc := 0) C rfl 0 rfl dX0_becomeLike_0 ?_
  refine zv_get (pc := 1) (CC := RX0) (T := TX0) (N := 4) (ci := 0) (v := .ref qF0) C zi_X0_becomeLike_X0 0 rfl 0 (by decide) zf_X0_becomeLike_9 rfl rfl dX0_becomeLike_1 ?_
  refine zv_aload_n (pc := 4) C rfl 1 rfl dX0_becomeLike_4 ?_
  refine zv_get (pc := 5) (CC := RX0) (T := TX0) (N := 4) (ci := 0) (v := .ref qO0) C zi_X0_becomeLike_X0 5 rfl 0 (by decide) zf_X0_becomeLike_9 rfl rfl dX0_becomeLike_5 ?_
  refine zv_cv0 (pc := 8) (ws' := (fun uz : zRow => (zd_X0_becomeLike cI adF qF0 qF1 qF2 qF3 adO qO0 qO1 qO2 qO3 (zset F 0 uz) O))) C (zv_runS (As := [.ref qF0, .ref qO0]) (rest := []) C (zc_X1_put l G cI qF0 qO0 16 16 (F 0) (O 0) _ hF) (va_cwS 2 C.2.2.2.2.1 gX0_becomeLike_X1_put rfl rfl rfl zy_X1_put ⟨Nat.le_of_ble_eq_true rfl, Nat.le_of_ble_eq_true rfl⟩) rfl rfl (Nat.le_of_ble_eq_true rfl) ⟨Nat.zero_le _, Nat.zero_le _⟩ dX0_becomeLike_8) [1, 6] [0, 2, 3, 4, 5, 7, 8, 9] rfl rfl rfl rfl rfl (fun _ => rfl) (fun _ => rfl) (fun _ => rfl) (fun uz hF => ?_)
  obtain ⟨r_1, hE⟩ : ∃ z, z = uz := ⟨_, rfl⟩; subst hE
  refine zv_aload_n (pc := 11) C rfl 0 rfl dX0_becomeLike_11 ?_
  refine zv_get (pc := 12) (CC := RX0) (T := TX0) (N := 4) (ci := 0) (v := .ref qF1) C zi_X0_becomeLike_X0 0 rfl 1 (by decide) zf_X0_becomeLike_15 rfl rfl dX0_becomeLike_12 ?_
  refine zv_aload_n (pc := 15) C rfl 1 rfl dX0_becomeLike_15 ?_
  refine zv_get (pc := 16) (CC := RX0) (T := TX0) (N := 4) (ci := 0) (v := .ref qO1) C zi_X0_becomeLike_X0 5 rfl 1 (by decide) zf_X0_becomeLike_15 rfl rfl dX0_becomeLike_16 ?_
  refine zv_cv0 (pc := 19) (ws' := (fun uz : zRow => (zd_X0_becomeLike cI adF qF0 qF1 qF2 qF3 adO qO0 qO1 qO2 qO3 (zset (zset F 0 r_1) 1 uz) O))) C (zv_runS (As := [.ref qF1, .ref qO1]) (rest := []) C (zc_X1_put l G cI qF1 qO1 16 16 (F 1) (O 1) _ hF) (va_cwS 2 C.2.2.2.2.1 gX0_becomeLike_X1_put rfl rfl rfl zy_X1_put ⟨Nat.le_of_ble_eq_true rfl, Nat.le_of_ble_eq_true rfl⟩) rfl rfl (Nat.le_of_ble_eq_true rfl) ⟨Nat.zero_le _, Nat.zero_le _⟩ dX0_becomeLike_19) [2, 7] [0, 1, 3, 4, 5, 6, 8, 9] rfl rfl rfl rfl rfl (fun _ => rfl) (fun _ => rfl) (fun _ => rfl) (fun uz hF => ?_)
  obtain ⟨r_2, hE⟩ : ∃ z, z = uz := ⟨_, rfl⟩; subst hE
  exact zv_vret (pc := 22) C hr hlk (zset (zset F 0 r_1) 1 r_2) hF rfl dX0_becomeLike_22
theorem zf_X0_toRestOfOne_15 : Cond.fieldLink RX0 15 "GlassStack$Fraction" "lower" "[I" ∈ wsX0_toRestOfOne := (List.mem_of_getElem? (i := 3) rfl)
theorem zf_X0_toRestOfOne_9 : Cond.fieldLink RX0 9 "GlassStack$Fraction" "upper" "[I" ∈ wsX0_toRestOfOne := (List.mem_of_getElem? (i := 1) rfl)
theorem zi_X0_toRestOfOne_X0 : ∀ w ∈ wsX00, w ∈ wsX0_toRestOfOne := fun w h => List.mem_cons_of_mem _ (List.mem_append_right _ h)
theorem zy_X0_toRestOfOne : yX0_toRestOfOne.cls = RX0 ∧ yX0_toRestOfOne.cls ≠ "java/lang/invoke/MethodHandle" ∧ yX0_toRestOfOne.cls ≠ "java/lang/invoke/VarHandle" ∧ (parseMethodDescriptor yX0_toRestOfOne.desc).map (fun d => d.parameters.length) = some 0 := by decide +kernel
set_option maxHeartbeats 4000000 in
set_option maxRecDepth 100000 in
theorem zc_X0_toRestOfOne (l : Launch) (G : va_G) (cI : ClassId) (adF qF0 qF1 qF2 qF3 : Nat) (F : zMem) (post : zMem → Prop) (hF : zw_X0_toRestOfOne F post) (sz : Nat) : Met l yX0_toRestOfOne wsX0_toRestOfOne rmX0_toRestOfOne (va_Pc [.ref adF] (zv_in G cI (zd_X0_toRestOfOne cI adF qF0 qF1 qF2 qF3 F) sz)) (va_Qv (fun uz : zMem => post uz) (fun (uz : zMem) t => zv_out G cI (va_A (zd_X0_toRestOfOne cI adF qF0 qF1 qF2 qF3 F) sz) (zd_X0_toRestOfOne cI adF qF0 qF1 qF2 qF3 uz) t) (va_A (zd_X0_toRestOfOne cI adF qF0 qF1 qF2 qF3 F) sz)) 0 0 (va_A (zd_X0_toRestOfOne cI adF qF0 qF1 qF2 qF3 F) sz) := by
  refine zv_met (cc := cX0_toRestOfOne) (maxL := 1) (ret := none) (lv0 := [(0, .ref adF)]) (Qc := fun A => va_Qv (fun uz : zMem => post uz) (fun (uz : zMem) t => zv_out G cI A (zd_X0_toRestOfOne cI adF qF0 qF1 qF2 qF3 uz) t) A) (by decide) rfl (Nat.le_of_ble_eq_true rfl) rfl ?_ sz
  intro p e s m below meth c A C hr hlk
  clear sz
  refine zv_aload_n (pc := 0) C rfl 0 rfl dX0_toRestOfOne_0 ?_
  refine zv_get (pc := 1) (CC := RX0) (T := TX0) (N := 4) (ci := 0) (v := .ref qF0) C zi_X0_toRestOfOne_X0 0 rfl 0 (by decide) zf_X0_toRestOfOne_9 rfl rfl dX0_toRestOfOne_1 ?_
  refine zv_ldc2 (pc := 4) C (v := -1) (List.mem_of_getElem? (i := 2) rfl) dX0_toRestOfOne_4 ?_
  refine zv_cv0 (pc := 7) (ws' := (fun uz : zRow => (zd_X0_toRestOfOne cI adF qF0 qF1 qF2 qF3 (zset F 0 uz)))) C (zv_runS (As := [.ref qF0, .long (-1 : Int64)]) (rest := []) C (zc_X1_scale l G cI qF0 16 (F 0) (-1 : Int64) _ hF) (va_cwS 2 C.2.2.2.2.1 gX0_toRestOfOne_X1_scale rfl rfl rfl zy_X1_scale ⟨Nat.le_of_ble_eq_true rfl, Nat.le_of_ble_eq_true rfl⟩) rfl rfl (Nat.le_of_ble_eq_true rfl) ⟨Nat.zero_le _, Nat.zero_le _⟩ dX0_toRestOfOne_7) [1] [0, 2, 3, 4] rfl rfl rfl rfl rfl (fun _ => rfl) (fun _ => rfl) (fun _ => rfl) (fun uz hF => ?_)
  obtain ⟨r_1, hE⟩ : ∃ z, z = uz := ⟨_, rfl⟩; subst hE
  refine zv_aload_n (pc := 10) C rfl 0 rfl dX0_toRestOfOne_10 ?_
  refine zv_get (pc := 11) (CC := RX0) (T := TX0) (N := 4) (ci := 0) (v := .ref qF0) C zi_X0_toRestOfOne_X0 0 rfl 0 (by decide) zf_X0_toRestOfOne_9 rfl rfl dX0_toRestOfOne_11 ?_
  refine zv_aload_n (pc := 14) C rfl 0 rfl dX0_toRestOfOne_14 ?_
  refine zv_get (pc := 15) (CC := RX0) (T := TX0) (N := 4) (ci := 0) (v := .ref qF1) C zi_X0_toRestOfOne_X0 0 rfl 1 (by decide) zf_X0_toRestOfOne_15 rfl rfl dX0_toRestOfOne_15 ?_
  refine zv_lconst (pc := 18) (v := 1) C (by decide) dX0_toRestOfOne_18 ?_
  refine zv_cv0 (pc := 19) (ws' := (fun uz : zRow => (zd_X0_toRestOfOne cI adF qF0 qF1 qF2 qF3 (zset F 0 uz)))) C (zv_runS (As := [.ref qF0, .ref qF1, .long (1 : Int64)]) (rest := []) C (zc_X1_gain l G cI qF0 qF1 16 16 r_1 (F 1) (1 : Int64) _ hF) (va_cwS 3 C.2.2.2.2.1 gX0_toRestOfOne_X1_gain rfl rfl rfl zy_X1_gain ⟨Nat.le_of_ble_eq_true rfl, Nat.le_of_ble_eq_true rfl⟩) rfl rfl (Nat.le_of_ble_eq_true rfl) ⟨Nat.zero_le _, Nat.zero_le _⟩ dX0_toRestOfOne_19) [1, 2] [0, 3, 4] rfl rfl rfl rfl rfl (fun _ => rfl) (fun _ => rfl) (fun _ => rfl) (fun uz hF => ?_)
  obtain ⟨r_2, hE⟩ : ∃ z, z = uz := ⟨_, rfl⟩; subst hE
  exact zv_vret (pc := 22) C hr hlk (zset F 0 r_2) hF rfl dX0_toRestOfOne_22
theorem zf_X0_compareWith_15 : Cond.fieldLink RX0 15 "GlassStack$Fraction" "lower" "[I" ∈ wsX0_compareWith := (List.mem_of_getElem? (i := 3) rfl)
theorem zf_X0_compareWith_18 : Cond.fieldLink RX0 18 "GlassStack$Fraction" "left" "[I" ∈ wsX0_compareWith := (List.mem_of_getElem? (i := 1) rfl)
theorem zf_X0_compareWith_21 : Cond.fieldLink RX0 21 "GlassStack$Fraction" "right" "[I" ∈ wsX0_compareWith := (List.mem_of_getElem? (i := 4) rfl)
theorem zf_X0_compareWith_9 : Cond.fieldLink RX0 9 "GlassStack$Fraction" "upper" "[I" ∈ wsX0_compareWith := (List.mem_of_getElem? (i := 2) rfl)
theorem zi_X0_compareWith_X0 : ∀ w ∈ wsX00, w ∈ wsX0_compareWith := fun w h => List.mem_cons_of_mem _ (List.mem_append_right _ h)
theorem zy_X0_compareWith : yX0_compareWith.cls = RX0 ∧ yX0_compareWith.cls ≠ "java/lang/invoke/MethodHandle" ∧ yX0_compareWith.cls ≠ "java/lang/invoke/VarHandle" ∧ (parseMethodDescriptor yX0_compareWith.desc).map (fun d => d.parameters.length) = some 1 := by decide +kernel
set_option maxHeartbeats 4000000 in
set_option maxRecDepth 100000 in
theorem zc_X0_compareWith (l : Launch) (G : va_G) (cI : ClassId) (adF qF0 qF1 qF2 qF3 adO qO0 qO1 qO2 qO3 : Nat) (F : zMem) (O : zMem) (post : Int32 → zMem → Prop) (hF : zw_X0_compareWith F O post) (sz : Nat) : Met l yX0_compareWith wsX0_compareWith rmX0_compareWith (va_Pc [.ref adF, .ref adO] (zv_in G cI (zd_X0_compareWith cI adF qF0 qF1 qF2 qF3 adO qO0 qO1 qO2 qO3 F O) sz)) (va_Qi (fun (rz : Int32) (uz : zMem) => post rz uz) (fun (uz : zMem) t => zv_out G cI (va_A (zd_X0_compareWith cI adF qF0 qF1 qF2 qF3 adO qO0 qO1 qO2 qO3 F O) sz) (zd_X0_compareWith cI adF qF0 qF1 qF2 qF3 adO qO0 qO1 qO2 qO3 uz O) t) (va_A (zd_X0_compareWith cI adF qF0 qF1 qF2 qF3 adO qO0 qO1 qO2 qO3 F O) sz)) 0 0 (va_A (zd_X0_compareWith cI adF qF0 qF1 qF2 qF3 adO qO0 qO1 qO2 qO3 F O) sz) := by
  refine zv_met (cc := cX0_compareWith) (maxL := 2) (ret := (some .int)) (lv0 := [(0, .ref adF), (1, .ref adO)]) (Qc := fun A => va_Qi (fun (rz : Int32) (uz : zMem) => post rz uz) (fun (uz : zMem) t => zv_out G cI A (zd_X0_compareWith cI adF qF0 qF1 qF2 qF3 adO qO0 qO1 qO2 qO3 uz O) t) A) (by decide) rfl (Nat.le_of_ble_eq_true rfl) rfl ?_ sz
  intro p e s m below meth c A C hr hlk
  clear sz
  refine zv_aload_n (pc := 0) C rfl 0 rfl dX0_compareWith_0 ?_
  refine zv_get (pc := 1) (CC := RX0) (T := TX0) (N := 4) (ci := 0) (v := .ref qF2) C zi_X0_compareWith_X0 0 rfl 2 (by decide) zf_X0_compareWith_18 rfl rfl dX0_compareWith_1 ?_
  refine zv_aload_n (pc := 4) C rfl 0 rfl dX0_compareWith_4 ?_
  refine zv_get (pc := 5) (CC := RX0) (T := TX0) (N := 4) (ci := 0) (v := .ref qF0) C zi_X0_compareWith_X0 0 rfl 0 (by decide) zf_X0_compareWith_9 rfl rfl dX0_compareWith_5 ?_
  refine zv_aload_n (pc := 8) C rfl 1 rfl dX0_compareWith_8 ?_
  refine zv_get (pc := 9) (CC := RX0) (T := TX0) (N := 4) (ci := 0) (v := .ref qO1) C zi_X0_compareWith_X0 5 rfl 1 (by decide) zf_X0_compareWith_15 rfl rfl dX0_compareWith_9 ?_
  refine zv_cv0 (pc := 12) (ws' := (fun uz : zRow => (zd_X0_compareWith cI adF qF0 qF1 qF2 qF3 adO qO0 qO1 qO2 qO3 (zset F 2 uz) O))) C (zv_runS (As := [.ref qF2, .ref qF0, .ref qO1]) (rest := []) C (zc_X1_multiply l G cI qF2 qF0 qO1 32 16 16 (F 2) (F 0) (O 1) _ hF) (va_cwS 3 C.2.2.2.2.1 gX0_compareWith_X1_multiply rfl rfl rfl zy_X1_multiply ⟨Nat.le_of_ble_eq_true rfl, Nat.le_of_ble_eq_true rfl⟩) rfl rfl (Nat.le_of_ble_eq_true rfl) ⟨Nat.zero_le _, Nat.zero_le _⟩ dX0_compareWith_12) [3, 1, 7] [0, 2, 4, 5, 6, 8, 9] rfl rfl rfl rfl rfl (fun _ => rfl) (fun _ => rfl) (fun _ => rfl) (fun uz hF => ?_)
  obtain ⟨r_1, hE⟩ : ∃ z, z = uz := ⟨_, rfl⟩; subst hE
  refine zv_aload_n (pc := 15) C rfl 0 rfl dX0_compareWith_15 ?_
  refine zv_get (pc := 16) (CC := RX0) (T := TX0) (N := 4) (ci := 0) (v := .ref qF3) C zi_X0_compareWith_X0 0 rfl 3 (by decide) zf_X0_compareWith_21 rfl rfl dX0_compareWith_16 ?_
  refine zv_aload_n (pc := 19) C rfl 1 rfl dX0_compareWith_19 ?_
  refine zv_get (pc := 20) (CC := RX0) (T := TX0) (N := 4) (ci := 0) (v := .ref qO0) C zi_X0_compareWith_X0 5 rfl 0 (by decide) zf_X0_compareWith_9 rfl rfl dX0_compareWith_20 ?_
  refine zv_aload_n (pc := 23) C rfl 0 rfl dX0_compareWith_23 ?_
  refine zv_get (pc := 24) (CC := RX0) (T := TX0) (N := 4) (ci := 0) (v := .ref qF1) C zi_X0_compareWith_X0 0 rfl 1 (by decide) zf_X0_compareWith_15 rfl rfl dX0_compareWith_24 ?_
  refine zv_cv0 (pc := 27) (ws' := (fun uz : zRow => (zd_X0_compareWith cI adF qF0 qF1 qF2 qF3 adO qO0 qO1 qO2 qO3 (zset (zset F 2 r_1) 3 uz) O))) C (zv_runS (As := [.ref qF3, .ref qO0, .ref qF1]) (rest := []) C (zc_X1_multiply l G cI qF3 qO0 qF1 32 16 16 (F 3) (O 0) (F 1) _ hF) (va_cwS 3 C.2.2.2.2.1 gX0_compareWith_X1_multiply rfl rfl rfl zy_X1_multiply ⟨Nat.le_of_ble_eq_true rfl, Nat.le_of_ble_eq_true rfl⟩) rfl rfl (Nat.le_of_ble_eq_true rfl) ⟨Nat.zero_le _, Nat.zero_le _⟩ dX0_compareWith_27) [4, 6, 2] [0, 1, 3, 5, 7, 8, 9] rfl rfl rfl rfl rfl (fun _ => rfl) (fun _ => rfl) (fun _ => rfl) (fun uz hF => ?_)
  obtain ⟨r_2, hE⟩ : ∃ z, z = uz := ⟨_, rfl⟩; subst hE
  refine zv_aload_n (pc := 30) C rfl 0 rfl dX0_compareWith_30 ?_
  refine zv_get (pc := 31) (CC := RX0) (T := TX0) (N := 4) (ci := 0) (v := .ref qF2) C zi_X0_compareWith_X0 0 rfl 2 (by decide) zf_X0_compareWith_18 rfl rfl dX0_compareWith_31 ?_
  refine zv_aload_n (pc := 34) C rfl 0 rfl dX0_compareWith_34 ?_
  refine zv_get (pc := 35) (CC := RX0) (T := TX0) (N := 4) (ci := 0) (v := .ref qF3) C zi_X0_compareWith_X0 0 rfl 3 (by decide) zf_X0_compareWith_21 rfl rfl dX0_compareWith_35 ?_
  refine zv_aload_n (pc := 38) C rfl 0 rfl dX0_compareWith_38 ?_
  refine zv_get (pc := 39) (CC := RX0) (T := TX0) (N := 4) (ci := 0) (v := .ref qF2) C zi_X0_compareWith_X0 0 rfl 2 (by decide) zf_X0_compareWith_18 rfl rfl dX0_compareWith_39 ?_
  refine zv_alen (pc := 42) (n := 32) (f := r_1) (v := (32 : Int32)) C 3 (by decide) rfl dX0_compareWith_42 ?_
  refine zv_ci0 (pc := 43) (ws' := (fun uz : Unit => (zd_X0_compareWith cI adF qF0 qF1 qF2 qF3 adO qO0 qO1 qO2 qO3 (zset (zset F 2 r_1) 3 r_2) O))) C (zv_runS (As := [.ref qF2, .ref qF3, .int (32 : Int32)]) (rest := []) C (zc_X1_compare l G cI qF2 qF3 32 32 r_1 r_2 (32 : Int32) _ hF) (va_cwS 3 C.2.2.2.2.1 gX0_compareWith_X1_compare rfl rfl rfl zy_X1_compare ⟨Nat.le_of_ble_eq_true rfl, Nat.le_of_ble_eq_true rfl⟩) rfl rfl (Nat.le_of_ble_eq_true rfl) ⟨Nat.zero_le _, Nat.zero_le _⟩ dX0_compareWith_43) [3, 4] [0, 1, 2, 5, 6, 7, 8, 9] rfl rfl rfl rfl rfl (fun _ => rfl) (fun _ => rfl) (fun _ => rfl) (fun v_3 uz hF => ?_)
  exact zv_iret (pc := 46) C hr hlk v_3 (zset (zset F 2 r_1) 3 r_2) hF rfl dX0_compareWith_46
theorem zf_X0_toLowestTerms_15 : Cond.fieldLink RX0 15 "GlassStack$Fraction" "lower" "[I" ∈ wsX0_toLowestTerms := (List.mem_of_getElem? (i := 2) rfl)
theorem zf_X0_toLowestTerms_18 : Cond.fieldLink RX0 18 "GlassStack$Fraction" "left" "[I" ∈ wsX0_toLowestTerms := (List.mem_of_getElem? (i := 7) rfl)
theorem zf_X0_toLowestTerms_21 : Cond.fieldLink RX0 21 "GlassStack$Fraction" "right" "[I" ∈ wsX0_toLowestTerms := (List.mem_of_getElem? (i := 8) rfl)
theorem zf_X0_toLowestTerms_9 : Cond.fieldLink RX0 9 "GlassStack$Fraction" "upper" "[I" ∈ wsX0_toLowestTerms := (List.mem_of_getElem? (i := 1) rfl)
theorem zi_X0_toLowestTerms_X0 : ∀ w ∈ wsX00, w ∈ wsX0_toLowestTerms := fun w h => List.mem_cons_of_mem _ (List.mem_append_right _ h)
theorem zy_X0_toLowestTerms : yX0_toLowestTerms.cls = RX0 ∧ yX0_toLowestTerms.cls ≠ "java/lang/invoke/MethodHandle" ∧ yX0_toLowestTerms.cls ≠ "java/lang/invoke/VarHandle" ∧ (parseMethodDescriptor yX0_toLowestTerms.desc).map (fun d => d.parameters.length) = some 0 := by decide +kernel
set_option maxHeartbeats 4000000 in
set_option maxRecDepth 100000 in
theorem zc_X0_toLowestTerms (l : Launch) (G : va_G) (cI : ClassId) (adF qF0 qF1 qF2 qF3 : Nat) (F : zMem) (post : zMem → Prop) (hF : zw_X0_toLowestTerms F post) (sz : Nat) : Met l yX0_toLowestTerms wsX0_toLowestTerms rmX0_toLowestTerms (va_Pc [.ref adF] (zv_in G cI (zd_X0_toLowestTerms cI adF qF0 qF1 qF2 qF3 F) sz)) (va_Qv (fun uz : zMem => post uz) (fun (uz : zMem) t => zv_out G cI (va_A (zd_X0_toLowestTerms cI adF qF0 qF1 qF2 qF3 F) sz) (zd_X0_toLowestTerms cI adF qF0 qF1 qF2 qF3 uz) t) (va_A (zd_X0_toLowestTerms cI adF qF0 qF1 qF2 qF3 F) sz)) 0 0 (va_A (zd_X0_toLowestTerms cI adF qF0 qF1 qF2 qF3 F) sz) := by
  refine zv_met (cc := cX0_toLowestTerms) (maxL := 2) (ret := none) (lv0 := [(0, .ref adF)]) (Qc := fun A => va_Qv (fun uz : zMem => post uz) (fun (uz : zMem) t => zv_out G cI A (zd_X0_toLowestTerms cI adF qF0 qF1 qF2 qF3 uz) t) A) (by decide) rfl (Nat.le_of_ble_eq_true rfl) rfl ?_ sz
  intro p e s m below meth c A C hr hlk
  clear sz
  refine zv_aload_n (pc := 0) C rfl 0 rfl dX0_toLowestTerms_0 ?_
  refine zv_get (pc := 1) (CC := RX0) (T := TX0) (N := 4) (ci := 0) (v := .ref qF0) C zi_X0_toLowestTerms_X0 0 rfl 0 (by decide) zf_X0_toLowestTerms_9 rfl rfl dX0_toLowestTerms_1 ?_
  refine zv_ci0 (pc := 4) (ws' := (fun uz : Unit => (zd_X0_toLowestTerms cI adF qF0 qF1 qF2 qF3 F))) C (zv_runS (As := [.ref qF0]) (rest := []) C (zc_X1_signOf l G cI qF0 16 (F 0) _ hF) (va_cwS 1 C.2.2.2.2.1 gX0_toLowestTerms_X1_signOf rfl rfl rfl zy_X1_signOf ⟨Nat.le_of_ble_eq_true rfl, Nat.le_of_ble_eq_true rfl⟩) rfl rfl (Nat.le_of_ble_eq_true rfl) ⟨Nat.zero_le _, Nat.zero_le _⟩ dX0_toLowestTerms_4) [1] [0, 2, 3, 4] rfl rfl rfl rfl rfl (fun _ => rfl) (fun _ => rfl) (fun _ => rfl) (fun v_1 uz hF => ?_)
  refine zv_if_ne (pc := 7) (tgt := 19) C dX0_toLowestTerms_7 (by decide) (fun c_2 => ?_) (fun c_2 => ?_)
  · replace hF := And.left hF c_2
    refine zv_aload_n (pc := 19) C rfl 0 rfl dX0_toLowestTerms_19 ?_
    refine zv_get (pc := 20) (CC := RX0) (T := TX0) (N := 4) (ci := 0) (v := .ref qF0) C zi_X0_toLowestTerms_X0 0 rfl 0 (by decide) zf_X0_toLowestTerms_9 rfl rfl dX0_toLowestTerms_20 ?_
    refine zv_aload_n (pc := 23) C rfl 0 rfl dX0_toLowestTerms_23 ?_
    refine zv_get (pc := 24) (CC := RX0) (T := TX0) (N := 4) (ci := 0) (v := .ref qF0) C zi_X0_toLowestTerms_X0 0 rfl 0 (by decide) zf_X0_toLowestTerms_9 rfl rfl dX0_toLowestTerms_24 ?_
    refine zv_alen (pc := 27) (n := 16) (f := (F 0)) (v := (16 : Int32)) C 1 (by decide) rfl dX0_toLowestTerms_27 ?_
    refine zv_ci0 (pc := 28) (ws' := (fun uz : Unit => (zd_X0_toLowestTerms cI adF qF0 qF1 qF2 qF3 F))) C (zv_runS (As := [.ref qF0, .int (16 : Int32)]) (rest := []) C (zc_X1_twosOf l G cI qF0 16 (F 0) (16 : Int32) _ hF) (va_cwS 2 C.2.2.2.2.1 gX0_toLowestTerms_X1_twosOf rfl rfl rfl zy_X1_twosOf ⟨Nat.le_of_ble_eq_true rfl, Nat.le_of_ble_eq_true rfl⟩) rfl rfl (Nat.le_of_ble_eq_true rfl) ⟨Nat.zero_le _, Nat.zero_le _⟩ dX0_toLowestTerms_28) [1] [0, 2, 3, 4] rfl rfl rfl rfl rfl (fun _ => rfl) (fun _ => rfl) (fun _ => rfl) (fun v_3 uz hF => ?_)
    refine zv_aload_n (pc := 31) C rfl 0 rfl dX0_toLowestTerms_31 ?_
    refine zv_get (pc := 32) (CC := RX0) (T := TX0) (N := 4) (ci := 0) (v := .ref qF1) C zi_X0_toLowestTerms_X0 0 rfl 1 (by decide) zf_X0_toLowestTerms_15 rfl rfl dX0_toLowestTerms_32 ?_
    refine zv_aload_n (pc := 35) C rfl 0 rfl dX0_toLowestTerms_35 ?_
    refine zv_get (pc := 36) (CC := RX0) (T := TX0) (N := 4) (ci := 0) (v := .ref qF1) C zi_X0_toLowestTerms_X0 0 rfl 1 (by decide) zf_X0_toLowestTerms_15 rfl rfl dX0_toLowestTerms_36 ?_
    refine zv_alen (pc := 39) (n := 16) (f := (F 1)) (v := (16 : Int32)) C 2 (by decide) rfl dX0_toLowestTerms_39 ?_
    refine zv_ci0 (pc := 40) (ws' := (fun uz : Unit => (zd_X0_toLowestTerms cI adF qF0 qF1 qF2 qF3 F))) C (zv_runS (As := [.ref qF1, .int (16 : Int32)]) (rest := [.int v_3]) C (zc_X1_twosOf l G cI qF1 16 (F 1) (16 : Int32) _ hF) (va_cwS 2 C.2.2.2.2.1 gX0_toLowestTerms_X1_twosOf rfl rfl rfl zy_X1_twosOf ⟨Nat.le_of_ble_eq_true rfl, Nat.le_of_ble_eq_true rfl⟩) rfl rfl (Nat.le_of_ble_eq_true rfl) ⟨Nat.zero_le _, Nat.zero_le _⟩ dX0_toLowestTerms_40) [2] [0, 1, 3, 4] rfl rfl rfl rfl rfl (fun _ => rfl) (fun _ => rfl) (fun _ => rfl) (fun v_4 uz hF => ?_)
    refine zv_mmin (pc := 43) C (List.mem_of_getElem? (i := 3) rfl) (List.mem_of_getElem? (i := 4) rfl) (List.mem_of_getElem? (i := 5) rfl) (List.mem_of_getElem? (i := 6) rfl) (Nat.le_of_ble_eq_true rfl) (Nat.le_of_ble_eq_true rfl) (Nat.zero_le _) (Nat.zero_le _) dX0_toLowestTerms_43 ?_
    refine zv_topi (fun x1_5 ex1_5 => ?_)
    replace hF := hF x1_5 ex1_5
    refine zv_istore_n (pc := 46) (lv' := [(1, .int x1_5), (0, .ref adF)]) C rfl (by decide) rfl dX0_toLowestTerms_46 ?_
    refine zv_aload_n (pc := 47) C rfl 1 rfl dX0_toLowestTerms_47 ?_
    refine zv_get (pc := 48) (CC := RX0) (T := TX0) (N := 4) (ci := 0) (v := .ref qF0) C zi_X0_toLowestTerms_X0 0 rfl 0 (by decide) zf_X0_toLowestTerms_9 rfl rfl dX0_toLowestTerms_48 ?_
    refine zv_iload_n (pc := 51) C rfl 0 rfl dX0_toLowestTerms_51 ?_
    refine zv_aload_n (pc := 52) C rfl 1 rfl dX0_toLowestTerms_52 ?_
    refine zv_get (pc := 53) (CC := RX0) (T := TX0) (N := 4) (ci := 0) (v := .ref qF0) C zi_X0_toLowestTerms_X0 0 rfl 0 (by decide) zf_X0_toLowestTerms_9 rfl rfl dX0_toLowestTerms_53 ?_
    refine zv_alen (pc := 56) (n := 16) (f := (F 0)) (v := (16 : Int32)) C 1 (by decide) rfl dX0_toLowestTerms_56 ?_
    refine zv_cv0 (pc := 57) (ws' := (fun uz : zRow => (zd_X0_toLowestTerms cI adF qF0 qF1 qF2 qF3 (zset F 0 uz)))) C (zv_runS (As := [.ref qF0, .int x1_5, .int (16 : Int32)]) (rest := []) C (zc_X1_shiftDown l G cI qF0 16 (F 0) x1_5 (16 : Int32) _ hF) (va_cwS 3 C.2.2.2.2.1 gX0_toLowestTerms_X1_shiftDown rfl rfl rfl zy_X1_shiftDown ⟨Nat.le_of_ble_eq_true rfl, Nat.le_of_ble_eq_true rfl⟩) rfl rfl (Nat.le_of_ble_eq_true rfl) ⟨Nat.zero_le _, Nat.zero_le _⟩ dX0_toLowestTerms_57) [1] [0, 2, 3, 4] rfl rfl rfl rfl rfl (fun _ => rfl) (fun _ => rfl) (fun _ => rfl) (fun uz hF => ?_)
    obtain ⟨r_6, hE⟩ : ∃ z, z = uz := ⟨_, rfl⟩; subst hE
    refine zv_aload_n (pc := 60) C rfl 1 rfl dX0_toLowestTerms_60 ?_
    refine zv_get (pc := 61) (CC := RX0) (T := TX0) (N := 4) (ci := 0) (v := .ref qF1) C zi_X0_toLowestTerms_X0 0 rfl 1 (by decide) zf_X0_toLowestTerms_15 rfl rfl dX0_toLowestTerms_61 ?_
    refine zv_iload_n (pc := 64) C rfl 0 rfl dX0_toLowestTerms_64 ?_
    refine zv_aload_n (pc := 65) C rfl 1 rfl dX0_toLowestTerms_65 ?_
    refine zv_get (pc := 66) (CC := RX0) (T := TX0) (N := 4) (ci := 0) (v := .ref qF1) C zi_X0_toLowestTerms_X0 0 rfl 1 (by decide) zf_X0_toLowestTerms_15 rfl rfl dX0_toLowestTerms_66 ?_
    refine zv_alen (pc := 69) (n := 16) (f := (F 1)) (v := (16 : Int32)) C 2 (by decide) rfl dX0_toLowestTerms_69 ?_
    refine zv_cv0 (pc := 70) (ws' := (fun uz : zRow => (zd_X0_toLowestTerms cI adF qF0 qF1 qF2 qF3 (zset (zset F 0 r_6) 1 uz)))) C (zv_runS (As := [.ref qF1, .int x1_5, .int (16 : Int32)]) (rest := []) C (zc_X1_shiftDown l G cI qF1 16 (F 1) x1_5 (16 : Int32) _ hF) (va_cwS 3 C.2.2.2.2.1 gX0_toLowestTerms_X1_shiftDown rfl rfl rfl zy_X1_shiftDown ⟨Nat.le_of_ble_eq_true rfl, Nat.le_of_ble_eq_true rfl⟩) rfl rfl (Nat.le_of_ble_eq_true rfl) ⟨Nat.zero_le _, Nat.zero_le _⟩ dX0_toLowestTerms_70) [2] [0, 1, 3, 4] rfl rfl rfl rfl rfl (fun _ => rfl) (fun _ => rfl) (fun _ => rfl) (fun uz hF => ?_)
    obtain ⟨r_7, hE⟩ : ∃ z, z = uz := ⟨_, rfl⟩; subst hE
    refine zv_aload_n (pc := 73) C rfl 1 rfl dX0_toLowestTerms_73 ?_
    refine zv_get (pc := 74) (CC := RX0) (T := TX0) (N := 4) (ci := 0) (v := .ref qF2) C zi_X0_toLowestTerms_X0 0 rfl 2 (by decide) zf_X0_toLowestTerms_18 rfl rfl dX0_toLowestTerms_74 ?_
    refine zv_aload_n (pc := 77) C rfl 1 rfl dX0_toLowestTerms_77 ?_
    refine zv_get (pc := 78) (CC := RX0) (T := TX0) (N := 4) (ci := 0) (v := .ref qF0) C zi_X0_toLowestTerms_X0 0 rfl 0 (by decide) zf_X0_toLowestTerms_9 rfl rfl dX0_toLowestTerms_78 ?_
    refine zv_cv0 (pc := 81) (ws' := (fun uz : zRow => (zd_X0_toLowestTerms cI adF qF0 qF1 qF2 qF3 (zset (zset (zset F 0 r_6) 1 r_7) 2 uz)))) C (zv_runS (As := [.ref qF2, .ref qF0]) (rest := []) C (zc_X1_put l G cI qF2 qF0 32 16 (F 2) r_6 _ hF) (va_cwS 2 C.2.2.2.2.1 gX0_toLowestTerms_X1_put rfl rfl rfl zy_X1_put ⟨Nat.le_of_ble_eq_true rfl, Nat.le_of_ble_eq_true rfl⟩) rfl rfl (Nat.le_of_ble_eq_true rfl) ⟨Nat.zero_le _, Nat.zero_le _⟩ dX0_toLowestTerms_81) [3, 1] [0, 2, 4] rfl rfl rfl rfl rfl (fun _ => rfl) (fun _ => rfl) (fun _ => rfl) (fun uz hF => ?_)
    obtain ⟨r_8, hE⟩ : ∃ z, z = uz := ⟨_, rfl⟩; subst hE
    refine zv_aload_n (pc := 84) C rfl 1 rfl dX0_toLowestTerms_84 ?_
    refine zv_get (pc := 85) (CC := RX0) (T := TX0) (N := 4) (ci := 0) (v := .ref qF3) C zi_X0_toLowestTerms_X0 0 rfl 3 (by decide) zf_X0_toLowestTerms_21 rfl rfl dX0_toLowestTerms_85 ?_
    refine zv_aload_n (pc := 88) C rfl 1 rfl dX0_toLowestTerms_88 ?_
    refine zv_get (pc := 89) (CC := RX0) (T := TX0) (N := 4) (ci := 0) (v := .ref qF1) C zi_X0_toLowestTerms_X0 0 rfl 1 (by decide) zf_X0_toLowestTerms_15 rfl rfl dX0_toLowestTerms_89 ?_
    refine zv_cv0 (pc := 92) (ws' := (fun uz : zRow => (zd_X0_toLowestTerms cI adF qF0 qF1 qF2 qF3 (zset (zset (zset (zset F 0 r_6) 1 r_7) 2 r_8) 3 uz)))) C (zv_runS (As := [.ref qF3, .ref qF1]) (rest := []) C (zc_X1_put l G cI qF3 qF1 32 16 (F 3) r_7 _ hF) (va_cwS 2 C.2.2.2.2.1 gX0_toLowestTerms_X1_put rfl rfl rfl zy_X1_put ⟨Nat.le_of_ble_eq_true rfl, Nat.le_of_ble_eq_true rfl⟩) rfl rfl (Nat.le_of_ble_eq_true rfl) ⟨Nat.zero_le _, Nat.zero_le _⟩ dX0_toLowestTerms_92) [4, 2] [0, 1, 3] rfl rfl rfl rfl rfl (fun _ => rfl) (fun _ => rfl) (fun _ => rfl) (fun uz hF => ?_)
    obtain ⟨r_9, hE⟩ : ∃ z, z = uz := ⟨_, rfl⟩; subst hE
    refine zv_aload_n (pc := 95) C rfl 1 rfl dX0_toLowestTerms_95 ?_
    refine zv_get (pc := 96) (CC := RX0) (T := TX0) (N := 4) (ci := 0) (v := .ref qF2) C zi_X0_toLowestTerms_X0 0 rfl 2 (by decide) zf_X0_toLowestTerms_18 rfl rfl dX0_toLowestTerms_96 ?_
    refine zv_aload_n (pc := 99) C rfl 1 rfl dX0_toLowestTerms_99 ?_
    refine zv_get (pc := 100) (CC := RX0) (T := TX0) (N := 4) (ci := 0) (v := .ref qF2) C zi_X0_toLowestTerms_X0 0 rfl 2 (by decide) zf_X0_toLowestTerms_18 rfl rfl dX0_toLowestTerms_100 ?_
    refine zv_aload_n (pc := 103) C rfl 1 rfl dX0_toLowestTerms_103 ?_
    refine zv_get (pc := 104) (CC := RX0) (T := TX0) (N := 4) (ci := 0) (v := .ref qF2) C zi_X0_toLowestTerms_X0 0 rfl 2 (by decide) zf_X0_toLowestTerms_18 rfl rfl dX0_toLowestTerms_104 ?_
    refine zv_alen (pc := 107) (n := 32) (f := r_8) (v := (32 : Int32)) C 3 (by decide) rfl dX0_toLowestTerms_107 ?_
    refine zv_ci0 (pc := 108) (ws' := (fun uz : Unit => (zd_X0_toLowestTerms cI adF qF0 qF1 qF2 qF3 (zset (zset (zset (zset F 0 r_6) 1 r_7) 2 r_8) 3 r_9)))) C (zv_runS (As := [.ref qF2, .int (32 : Int32)]) (rest := [.ref qF2]) C (zc_X1_twosOf l G cI qF2 32 r_8 (32 : Int32) _ hF) (va_cwS 2 C.2.2.2.2.1 gX0_toLowestTerms_X1_twosOf rfl rfl rfl zy_X1_twosOf ⟨Nat.le_of_ble_eq_true rfl, Nat.le_of_ble_eq_true rfl⟩) rfl rfl (Nat.le_of_ble_eq_true rfl) ⟨Nat.zero_le _, Nat.zero_le _⟩ dX0_toLowestTerms_108) [3] [0, 1, 2, 4] rfl rfl rfl rfl rfl (fun _ => rfl) (fun _ => rfl) (fun _ => rfl) (fun v_10 uz hF => ?_)
    refine zv_aload_n (pc := 111) C rfl 1 rfl dX0_toLowestTerms_111 ?_
    refine zv_get (pc := 112) (CC := RX0) (T := TX0) (N := 4) (ci := 0) (v := .ref qF2) C zi_X0_toLowestTerms_X0 0 rfl 2 (by decide) zf_X0_toLowestTerms_18 rfl rfl dX0_toLowestTerms_112 ?_
    refine zv_alen (pc := 115) (n := 32) (f := r_8) (v := (32 : Int32)) C 3 (by decide) rfl dX0_toLowestTerms_115 ?_
    refine zv_cv0 (pc := 116) (ws' := (fun uz : zRow => (zd_X0_toLowestTerms cI adF qF0 qF1 qF2 qF3 (zset (zset (zset (zset F 0 r_6) 1 r_7) 2 uz) 3 r_9)))) C (zv_runS (As := [.ref qF2, .int v_10, .int (32 : Int32)]) (rest := []) C (zc_X1_shiftDown l G cI qF2 32 r_8 v_10 (32 : Int32) _ hF) (va_cwS 3 C.2.2.2.2.1 gX0_toLowestTerms_X1_shiftDown rfl rfl rfl zy_X1_shiftDown ⟨Nat.le_of_ble_eq_true rfl, Nat.le_of_ble_eq_true rfl⟩) rfl rfl (Nat.le_of_ble_eq_true rfl) ⟨Nat.zero_le _, Nat.zero_le _⟩ dX0_toLowestTerms_116) [3] [0, 1, 2, 4] rfl rfl rfl rfl rfl (fun _ => rfl) (fun _ => rfl) (fun _ => rfl) (fun uz hF => ?_)
    obtain ⟨r_11, hE⟩ : ∃ z, z = uz := ⟨_, rfl⟩; subst hE
    refine zv_aload_n (pc := 119) C rfl 1 rfl dX0_toLowestTerms_119 ?_
    refine zv_get (pc := 120) (CC := RX0) (T := TX0) (N := 4) (ci := 0) (v := .ref qF3) C zi_X0_toLowestTerms_X0 0 rfl 3 (by decide) zf_X0_toLowestTerms_21 rfl rfl dX0_toLowestTerms_120 ?_
    refine zv_aload_n (pc := 123) C rfl 1 rfl dX0_toLowestTerms_123 ?_
    refine zv_get (pc := 124) (CC := RX0) (T := TX0) (N := 4) (ci := 0) (v := .ref qF3) C zi_X0_toLowestTerms_X0 0 rfl 3 (by decide) zf_X0_toLowestTerms_21 rfl rfl dX0_toLowestTerms_124 ?_
    refine zv_aload_n (pc := 127) C rfl 1 rfl dX0_toLowestTerms_127 ?_
    refine zv_get (pc := 128) (CC := RX0) (T := TX0) (N := 4) (ci := 0) (v := .ref qF3) C zi_X0_toLowestTerms_X0 0 rfl 3 (by decide) zf_X0_toLowestTerms_21 rfl rfl dX0_toLowestTerms_128 ?_
    refine zv_alen (pc := 131) (n := 32) (f := r_9) (v := (32 : Int32)) C 4 (by decide) rfl dX0_toLowestTerms_131 ?_
    refine zv_ci0 (pc := 132) (ws' := (fun uz : Unit => (zd_X0_toLowestTerms cI adF qF0 qF1 qF2 qF3 (zset (zset (zset (zset F 0 r_6) 1 r_7) 2 r_11) 3 r_9)))) C (zv_runS (As := [.ref qF3, .int (32 : Int32)]) (rest := [.ref qF3]) C (zc_X1_twosOf l G cI qF3 32 r_9 (32 : Int32) _ hF) (va_cwS 2 C.2.2.2.2.1 gX0_toLowestTerms_X1_twosOf rfl rfl rfl zy_X1_twosOf ⟨Nat.le_of_ble_eq_true rfl, Nat.le_of_ble_eq_true rfl⟩) rfl rfl (Nat.le_of_ble_eq_true rfl) ⟨Nat.zero_le _, Nat.zero_le _⟩ dX0_toLowestTerms_132) [4] [0, 1, 2, 3] rfl rfl rfl rfl rfl (fun _ => rfl) (fun _ => rfl) (fun _ => rfl) (fun v_12 uz hF => ?_)
    refine zv_aload_n (pc := 135) C rfl 1 rfl dX0_toLowestTerms_135 ?_
    refine zv_get (pc := 136) (CC := RX0) (T := TX0) (N := 4) (ci := 0) (v := .ref qF3) C zi_X0_toLowestTerms_X0 0 rfl 3 (by decide) zf_X0_toLowestTerms_21 rfl rfl dX0_toLowestTerms_136 ?_
    refine zv_alen (pc := 139) (n := 32) (f := r_9) (v := (32 : Int32)) C 4 (by decide) rfl dX0_toLowestTerms_139 ?_
    refine zv_cv0 (pc := 140) (ws' := (fun uz : zRow => (zd_X0_toLowestTerms cI adF qF0 qF1 qF2 qF3 (zset (zset (zset (zset F 0 r_6) 1 r_7) 2 r_11) 3 uz)))) C (zv_runS (As := [.ref qF3, .int v_12, .int (32 : Int32)]) (rest := []) C (zc_X1_shiftDown l G cI qF3 32 r_9 v_12 (32 : Int32) _ hF) (va_cwS 3 C.2.2.2.2.1 gX0_toLowestTerms_X1_shiftDown rfl rfl rfl zy_X1_shiftDown ⟨Nat.le_of_ble_eq_true rfl, Nat.le_of_ble_eq_true rfl⟩) rfl rfl (Nat.le_of_ble_eq_true rfl) ⟨Nat.zero_le _, Nat.zero_le _⟩ dX0_toLowestTerms_140) [4] [0, 1, 2, 3] rfl rfl rfl rfl rfl (fun _ => rfl) (fun _ => rfl) (fun _ => rfl) (fun uz hF => ?_)
    obtain ⟨r_13, hE⟩ : ∃ z, z = uz := ⟨_, rfl⟩; subst hE
    refine zv_aload_n (pc := 143) C rfl 1 rfl dX0_toLowestTerms_143 ?_
    refine zv_get (pc := 144) (CC := RX0) (T := TX0) (N := 4) (ci := 0) (v := .ref qF2) C zi_X0_toLowestTerms_X0 0 rfl 2 (by decide) zf_X0_toLowestTerms_18 rfl rfl dX0_toLowestTerms_144 ?_
    refine zv_aload_n (pc := 147) C rfl 1 rfl dX0_toLowestTerms_147 ?_
    refine zv_get (pc := 148) (CC := RX0) (T := TX0) (N := 4) (ci := 0) (v := .ref qF3) C zi_X0_toLowestTerms_X0 0 rfl 3 (by decide) zf_X0_toLowestTerms_21 rfl rfl dX0_toLowestTerms_148 ?_
    refine zv_cv0 (pc := 151) (ws' := (fun uz : zRow × zRow => (zd_X0_toLowestTerms cI adF qF0 qF1 qF2 qF3 (zset (zset (zset (zset F 0 r_6) 1 r_7) 2 uz.1) 3 uz.2)))) C (zv_runS (As := [.ref qF2, .ref qF3]) (rest := []) C (zc_X1_meetAtDivisor l G cI qF2 qF3 32 32 r_11 r_13 _ hF) (va_cwS 2 C.2.2.2.2.1 gX0_toLowestTerms_X1_meetAtDivisor rfl rfl rfl zy_X1_meetAtDivisor ⟨Nat.le_of_ble_eq_true rfl, Nat.le_of_ble_eq_true rfl⟩) rfl rfl (Nat.le_of_ble_eq_true rfl) ⟨Nat.zero_le _, Nat.zero_le _⟩ dX0_toLowestTerms_151) [3, 4] [0, 1, 2] rfl rfl rfl rfl rfl (fun _ => rfl) (fun _ => rfl) (fun _ => rfl) (fun uz hF => ?_)
    obtain ⟨r_14, r_15⟩ := uz
    refine zv_aload_n (pc := 154) C rfl 1 rfl dX0_toLowestTerms_154 ?_
    refine zv_get (pc := 155) (CC := RX0) (T := TX0) (N := 4) (ci := 0) (v := .ref qF0) C zi_X0_toLowestTerms_X0 0 rfl 0 (by decide) zf_X0_toLowestTerms_9 rfl rfl dX0_toLowestTerms_155 ?_
    refine zv_aload_n (pc := 158) C rfl 1 rfl dX0_toLowestTerms_158 ?_
    refine zv_get (pc := 159) (CC := RX0) (T := TX0) (N := 4) (ci := 0) (v := .ref qF2) C zi_X0_toLowestTerms_X0 0 rfl 2 (by decide) zf_X0_toLowestTerms_18 rfl rfl dX0_toLowestTerms_159 ?_
    refine zv_cv0 (pc := 162) (ws' := (fun uz : zRow => (zd_X0_toLowestTerms cI adF qF0 qF1 qF2 qF3 (zset (zset (zset (zset F 0 uz) 1 r_7) 2 r_14) 3 r_15)))) C (zv_runS (As := [.ref qF0, .ref qF2]) (rest := []) C (zc_X1_divideExactly l G cI qF0 qF2 16 32 r_6 r_14 _ hF) (va_cwS 2 C.2.2.2.2.1 gX0_toLowestTerms_X1_divideExactly rfl rfl rfl zy_X1_divideExactly ⟨Nat.le_of_ble_eq_true rfl, Nat.le_of_ble_eq_true rfl⟩) rfl rfl (Nat.le_of_ble_eq_true rfl) ⟨Nat.zero_le _, Nat.zero_le _⟩ dX0_toLowestTerms_162) [1, 3] [0, 2, 4] rfl rfl rfl rfl rfl (fun _ => rfl) (fun _ => rfl) (fun _ => rfl) (fun uz hF => ?_)
    obtain ⟨r_16, hE⟩ : ∃ z, z = uz := ⟨_, rfl⟩; subst hE
    refine zv_aload_n (pc := 165) C rfl 1 rfl dX0_toLowestTerms_165 ?_
    refine zv_get (pc := 166) (CC := RX0) (T := TX0) (N := 4) (ci := 0) (v := .ref qF1) C zi_X0_toLowestTerms_X0 0 rfl 1 (by decide) zf_X0_toLowestTerms_15 rfl rfl dX0_toLowestTerms_166 ?_
    refine zv_aload_n (pc := 169) C rfl 1 rfl dX0_toLowestTerms_169 ?_
    refine zv_get (pc := 170) (CC := RX0) (T := TX0) (N := 4) (ci := 0) (v := .ref qF2) C zi_X0_toLowestTerms_X0 0 rfl 2 (by decide) zf_X0_toLowestTerms_18 rfl rfl dX0_toLowestTerms_170 ?_
    refine zv_cv0 (pc := 173) (ws' := (fun uz : zRow => (zd_X0_toLowestTerms cI adF qF0 qF1 qF2 qF3 (zset (zset (zset (zset F 0 r_16) 1 uz) 2 r_14) 3 r_15)))) C (zv_runS (As := [.ref qF1, .ref qF2]) (rest := []) C (zc_X1_divideExactly l G cI qF1 qF2 16 32 r_7 r_14 _ hF) (va_cwS 2 C.2.2.2.2.1 gX0_toLowestTerms_X1_divideExactly rfl rfl rfl zy_X1_divideExactly ⟨Nat.le_of_ble_eq_true rfl, Nat.le_of_ble_eq_true rfl⟩) rfl rfl (Nat.le_of_ble_eq_true rfl) ⟨Nat.zero_le _, Nat.zero_le _⟩ dX0_toLowestTerms_173) [2, 3] [0, 1, 4] rfl rfl rfl rfl rfl (fun _ => rfl) (fun _ => rfl) (fun _ => rfl) (fun uz hF => ?_)
    obtain ⟨r_17, hE⟩ : ∃ z, z = uz := ⟨_, rfl⟩; subst hE
    exact zv_vret (pc := 176) C hr hlk (zset (zset (zset (zset F 0 r_16) 1 r_17) 2 r_14) 3 r_15) hF rfl dX0_toLowestTerms_176
  · replace hF := And.right hF c_2
    refine zv_aload_n (pc := 10) C rfl 0 rfl dX0_toLowestTerms_10 ?_
    refine zv_get (pc := 11) (CC := RX0) (T := TX0) (N := 4) (ci := 0) (v := .ref qF1) C zi_X0_toLowestTerms_X0 0 rfl 1 (by decide) zf_X0_toLowestTerms_15 rfl rfl dX0_toLowestTerms_11 ?_
    refine zv_iconst (pc := 14) (v := 1) C (by decide) dX0_toLowestTerms_14 ?_
    refine zv_cv0 (pc := 15) (ws' := (fun uz : zRow => (zd_X0_toLowestTerms cI adF qF0 qF1 qF2 qF3 (zset F 1 uz)))) C (zv_runS (As := [.ref qF1, .int (1 : Int32)]) (rest := []) C (zc_X1_set l G cI qF1 16 (F 1) (1 : Int32) _ hF) (va_cwS 2 C.2.2.2.2.1 gX0_toLowestTerms_X1_set rfl rfl rfl zy_X1_set ⟨Nat.le_of_ble_eq_true rfl, Nat.le_of_ble_eq_true rfl⟩) rfl rfl (Nat.le_of_ble_eq_true rfl) ⟨Nat.zero_le _, Nat.zero_le _⟩ dX0_toLowestTerms_15) [2] [0, 1, 3, 4] rfl rfl rfl rfl rfl (fun _ => rfl) (fun _ => rfl) (fun _ => rfl) (fun uz hF => ?_)
    obtain ⟨r_18, hE⟩ : ∃ z, z = uz := ⟨_, rfl⟩; subst hE
    exact zv_vret (pc := 18) C hr hlk (zset F 1 r_18) hF rfl dX0_toLowestTerms_18
theorem zf_X0_part_15 : Cond.fieldLink RX0 15 "GlassStack$Fraction" "lower" "[I" ∈ wsX0_part := (List.mem_of_getElem? (i := 1) rfl)
theorem zf_X0_part_9 : Cond.fieldLink RX0 9 "GlassStack$Fraction" "upper" "[I" ∈ wsX0_part := (List.mem_of_getElem? (i := 2) rfl)
theorem zi_X0_part_X0 : ∀ w ∈ wsX00, w ∈ wsX0_part := fun w h => List.mem_cons_of_mem _ (List.mem_append_right _ h)
theorem zy_X0_part : yX0_part.cls = RX0 ∧ yX0_part.cls ≠ "java/lang/invoke/MethodHandle" ∧ yX0_part.cls ≠ "java/lang/invoke/VarHandle" ∧ (parseMethodDescriptor yX0_part.desc).map (fun d => d.parameters.length) = some 2 := by decide +kernel
set_option maxHeartbeats 4000000 in
set_option maxRecDepth 100000 in
theorem zc_X0_part (l : Launch) (G : va_G) (cI : ClassId) (adF qF0 qF1 qF2 qF3 : Nat) (F : zMem) (b : Int32) (kv : Int32) (post : Int32 → Prop) (hF : zw_X0_part F b kv post) (sz : Nat) : Met l yX0_part wsX0_part rmX0_part (va_Pc [.ref adF, .int b, .int kv] (zv_in G cI (zd_X0_part cI adF qF0 qF1 qF2 qF3 F) sz)) (va_Qi (fun (rz : Int32) (uz : Unit) => post rz ) (fun (uz : Unit) t => zv_out G cI (va_A (zd_X0_part cI adF qF0 qF1 qF2 qF3 F) sz) (zd_X0_part cI adF qF0 qF1 qF2 qF3 F) t) (va_A (zd_X0_part cI adF qF0 qF1 qF2 qF3 F) sz)) 0 0 (va_A (zd_X0_part cI adF qF0 qF1 qF2 qF3 F) sz) := by
  refine zv_met (cc := cX0_part) (maxL := 4) (ret := (some .int)) (lv0 := [(0, .ref adF), (1, .int b), (2, .int kv)]) (Qc := fun A => va_Qi (fun (rz : Int32) (uz : Unit) => post rz ) (fun (uz : Unit) t => zv_out G cI A (zd_X0_part cI adF qF0 qF1 qF2 qF3 F) t) A) (by decide) rfl (Nat.le_of_ble_eq_true rfl) rfl ?_ sz
  intro p e s m below meth c A C hr hlk
  clear sz
  refine zv_iload_n (pc := 0) C rfl 1 rfl dX0_part_0 ?_
  refine zv_if_eq (pc := 1) (tgt := 11) C dX0_part_1 (by decide) (fun c_1 => ?_) (fun c_1 => ?_)
  · replace hF := And.left hF c_1
    refine zv_aload_n (pc := 11) C rfl 0 rfl dX0_part_11 ?_
    refine zv_get (pc := 12) (CC := RX0) (T := TX0) (N := 4) (ci := 0) (v := .ref qF0) C zi_X0_part_X0 0 rfl 0 (by decide) zf_X0_part_9 rfl rfl dX0_part_12 ?_
    refine zv_astore_n (pc := 15) (lv' := [(3, .ref qF0), (0, .ref adF), (1, .int b), (2, .int kv)]) C rfl (by decide) rfl dX0_part_15 ?_
    refine zv_iload_n (pc := 16) C rfl 3 rfl dX0_part_16 ?_
    refine zv_if_lt (pc := 17) (tgt := 32) C dX0_part_17 (by decide) (fun c_2 => ?_) (fun c_2 => ?_)
    · replace hF := And.left hF c_2
      refine zv_iconst (pc := 32) (v := 0) C (by decide) dX0_part_32 ?_
      exact zv_iret (pc := 33) C hr hlk (0 : Int32) () hF rfl dX0_part_33
    · replace hF := And.right hF c_2
      refine zv_iload_n (pc := 20) C rfl 3 rfl dX0_part_20 ?_
      refine zv_aload_n (pc := 21) C rfl 0 rfl dX0_part_21 ?_
      refine zv_alen (pc := 22) (n := 16) (f := (F 0)) (v := (16 : Int32)) C 1 (by decide) rfl dX0_part_22 ?_
      refine zv_icmp_ge (pc := 23) (tgt := 32) C dX0_part_23 (by decide) (fun c_3 => ?_) (fun c_3 => ?_)
      · replace hF := And.left hF c_3
        refine zv_iconst (pc := 32) (v := 0) C (by decide) dX0_part_32 ?_
        exact zv_iret (pc := 33) C hr hlk (0 : Int32) () hF rfl dX0_part_33
      · replace hF := And.right hF c_3
        refine zv_aload_n (pc := 26) C rfl 0 rfl dX0_part_26 ?_
        refine zv_iload_n (pc := 27) C rfl 3 rfl dX0_part_27 ?_
        obtain ⟨h_4, hF⟩ := hF
        refine zv_iald (pc := 28) (n := 16) (f := (F 0)) C 1 h_4 rfl dX0_part_28 ?_
        refine zv_goto (pc := 29) (tgt := 33) C dX0_part_29 (by decide) ?_
        exact zv_iret (pc := 33) C hr hlk ((F 0) (Int32.toNatClampNeg kv)) () hF rfl dX0_part_33
  · replace hF := And.right hF c_1
    refine zv_aload_n (pc := 4) C rfl 0 rfl dX0_part_4 ?_
    refine zv_get (pc := 5) (CC := RX0) (T := TX0) (N := 4) (ci := 0) (v := .ref qF1) C zi_X0_part_X0 0 rfl 1 (by decide) zf_X0_part_15 rfl rfl dX0_part_5 ?_
    refine zv_goto (pc := 8) (tgt := 15) C dX0_part_8 (by decide) ?_
    refine zv_astore_n (pc := 15) (lv' := [(3, .ref qF1), (0, .ref adF), (1, .int b), (2, .int kv)]) C rfl (by decide) rfl dX0_part_15 ?_
    refine zv_iload_n (pc := 16) C rfl 3 rfl dX0_part_16 ?_
    refine zv_if_lt (pc := 17) (tgt := 32) C dX0_part_17 (by decide) (fun c_5 => ?_) (fun c_5 => ?_)
    · replace hF := And.left hF c_5
      refine zv_iconst (pc := 32) (v := 0) C (by decide) dX0_part_32 ?_
      exact zv_iret (pc := 33) C hr hlk (0 : Int32) () hF rfl dX0_part_33
    · replace hF := And.right hF c_5
      refine zv_iload_n (pc := 20) C rfl 3 rfl dX0_part_20 ?_
      refine zv_aload_n (pc := 21) C rfl 0 rfl dX0_part_21 ?_
      refine zv_alen (pc := 22) (n := 16) (f := (F 1)) (v := (16 : Int32)) C 2 (by decide) rfl dX0_part_22 ?_
      refine zv_icmp_ge (pc := 23) (tgt := 32) C dX0_part_23 (by decide) (fun c_6 => ?_) (fun c_6 => ?_)
      · replace hF := And.left hF c_6
        refine zv_iconst (pc := 32) (v := 0) C (by decide) dX0_part_32 ?_
        exact zv_iret (pc := 33) C hr hlk (0 : Int32) () hF rfl dX0_part_33
      · replace hF := And.right hF c_6
        refine zv_aload_n (pc := 26) C rfl 0 rfl dX0_part_26 ?_
        refine zv_iload_n (pc := 27) C rfl 3 rfl dX0_part_27 ?_
        obtain ⟨h_7, hF⟩ := hF
        refine zv_iald (pc := 28) (n := 16) (f := (F 1)) C 2 h_7 rfl dX0_part_28 ?_
        refine zv_goto (pc := 29) (tgt := 33) C dX0_part_29 (by decide) ?_
        exact zv_iret (pc := 33) C hr hlk ((F 1) (Int32.toNatClampNeg kv)) () hF rfl dX0_part_33
