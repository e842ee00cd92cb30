/-! X2_isShare -/
def zd_X2_isShare (cI : ClassId) : va_W := []
abbrev rmX2_isShare : Room := { frames := 0, cells := 0, slots := 0, locals := 0 }
def zw_X2_isShare (a : Int32) (b : Int32) (post : Int32 → Prop) : Prop := ((a < 0 → (narrow .boolean (.int (0 : Int32)) = .int (0 : Int32) ∧ post (0 : Int32) )) ∧ (¬ a < 0 → (((100 : Int32) < a → (narrow .boolean (.int (0 : Int32)) = .int (0 : Int32) ∧ post (0 : Int32) )) ∧ (¬ (100 : Int32) < a → ((b < (1 : Int32) → (narrow .boolean (.int (0 : Int32)) = .int (0 : Int32) ∧ post (0 : Int32) )) ∧ (¬ b < (1 : Int32) → (((100 : Int32) < b → (narrow .boolean (.int (0 : Int32)) = .int (0 : Int32) ∧ post (0 : Int32) )) ∧ (¬ (100 : Int32) < b → (narrow .boolean (.int (1 : Int32)) = .int (1 : Int32) ∧ post (1 : Int32) )))))))))
/-! X2_setNothing -/
def zd_X2_setNothing (cI : ClassId) (adN qN0 qN1 qN2 qN3 qN4 qN5 : Nat) (N : zMem) : va_W := [(adN, .inr (1, [.ref qN0, .ref qN1, .ref qN2, .ref qN3, .ref qN4, .ref qN5, .int (N 6 0)])), (qN0, .inl (cI, 8, .inl (N 0))), (qN1, .inl (cI, 8, .inl (N 1))), (qN2, .inl (cI, 8, .inl (N 2))), (qN3, .inl (cI, 8, .inl (N 3))), (qN4, .inl (cI, 8, .inl (N 4))), (qN5, .inl (cI, 8, .inl (N 5)))]
abbrev rmX2_setNothing : Room := { frames := 1, cells := 0, slots := 0, locals := 22 }
def zw_X2_setNothing (N : zMem) (post : zMem → Prop) : Prop := zw_X1_set 8 (N 0) (0 : Int32) (fun (r_1 : zRow) => zw_X1_set 8 (N 3) (0 : Int32) (fun (r_2 : zRow) => zw_X1_set 8 (N 1) (1 : Int32) (fun (r_3 : zRow) => zw_X1_set 8 (N 2) (1 : Int32) (fun (r_4 : zRow) => zw_X1_set 8 (N 4) (1 : Int32) (fun (r_5 : zRow) => post (zset (zset (zset (zset (zset N 0 r_1) 1 r_3) 2 r_4) 3 r_2) 4 r_5))))))
/-! X2_removeAll -/
def zd_X2_removeAll (cI : ClassId) (adN qN0 qN1 qN2 qN3 qN4 qN5 : Nat) (N : zMem) : va_W := [(adN, .inr (1, [.ref qN0, .ref qN1, .ref qN2, .ref qN3, .ref qN4, .ref qN5, .int (N 6 0)])), (qN0, .inl (cI, 8, .inl (N 0))), (qN1, .inl (cI, 8, .inl (N 1))), (qN2, .inl (cI, 8, .inl (N 2))), (qN3, .inl (cI, 8, .inl (N 3))), (qN4, .inl (cI, 8, .inl (N 4))), (qN5, .inl (cI, 8, .inl (N 5)))]
abbrev rmX2_removeAll : Room := { frames := 2, cells := 0, slots := 0, locals := 42 }
def zw_X2_removeAll (N : zMem) (post : zMem → Prop) : Prop := zw_X2_setNothing (zset N 6 (fun _ => (0 : Int32))) (fun (T_1 : zMem) => post T_1)
/-! X2_rowOf -/
def zd_X2_rowOf (cI : ClassId) (adN qN0 qN1 qN2 qN3 qN4 qN5 : Nat) (N : zMem) : va_W := [(adN, .inr (1, [.ref qN0, .ref qN1, .ref qN2, .ref qN3, .ref qN4, .ref qN5, .int (N 6 0)])), (qN0, .inl (cI, 8, .inl (N 0))), (qN1, .inl (cI, 8, .inl (N 1))), (qN2, .inl (cI, 8, .inl (N 2))), (qN3, .inl (cI, 8, .inl (N 3))), (qN4, .inl (cI, 8, .inl (N 4))), (qN5, .inl (cI, 8, .inl (N 5)))]
abbrev rmX2_rowOf : Room := { frames := 0, cells := 0, slots := 0, locals := 0 }
def zw_X2_rowOf (N : zMem) (w : Int32) (P0 P1 P2 : Prop) : Prop := ((¬ w = 0 → ((¬ w = (1 : Int32) → P2) ∧ (w = (1 : Int32) → P1))) ∧ (w = 0 → P0))
/-! X2_passPair_wl -/
def zd_X2_passPair_wl (cI : ClassId) (adN qN0 qN1 qN2 qN3 qN4 qN5 : Nat) (N : zMem) : va_W := [(adN, .inr (1, [.ref qN0, .ref qN1, .ref qN2, .ref qN3, .ref qN4, .ref qN5, .int (N 6 0)])), (qN0, .inl (cI, 8, .inl (N 0))), (qN1, .inl (cI, 8, .inl (N 1))), (qN2, .inl (cI, 8, .inl (N 2))), (qN3, .inl (cI, 8, .inl (N 3))), (qN4, .inl (cI, 8, .inl (N 4))), (qN5, .inl (cI, 8, .inl (N 5)))]
abbrev rmX2_passPair_wl : Room := { frames := 1, cells := 0, slots := 0, locals := 26 }
def zw_X2_passPair_wl (N : zMem) (a : Int64) (b : Int64) (d : Int64) (ev : Int64) (post : zMem → Prop) : Prop := zw_X1_put 8 8 (N 5) (N 2) (fun (r_1 : zRow) => zw_X1_scale 8 r_1 a (fun (r_2 : zRow) => zw_X1_gain 8 8 r_2 (N 3) b (fun (r_3 : zRow) => zw_X1_scale 8 (N 3) ev (fun (r_4 : zRow) => zw_X1_gain 8 8 r_4 (N 2) d (fun (r_5 : zRow) => zw_X1_put 8 8 (N 2) r_3 (fun (r_6 : zRow) => post (zset (zset (zset N 2 r_6) 3 r_5) 5 r_3)))))))
/-! X2_passPair_fi -/
def zd_X2_passPair_fi (cI : ClassId) (adN qN0 qN1 qN2 qN3 qN4 qN5 : Nat) (N : zMem) : va_W := [(adN, .inr (1, [.ref qN0, .ref qN1, .ref qN2, .ref qN3, .ref qN4, .ref qN5, .int (N 6 0)])), (qN0, .inl (cI, 8, .inl (N 0))), (qN1, .inl (cI, 8, .inl (N 1))), (qN2, .inl (cI, 8, .inl (N 2))), (qN3, .inl (cI, 8, .inl (N 3))), (qN4, .inl (cI, 8, .inl (N 4))), (qN5, .inl (cI, 8, .inl (N 5)))]
abbrev rmX2_passPair_fi : Room := { frames := 1, cells := 0, slots := 0, locals := 26 }
def zw_X2_passPair_fi (N : zMem) (a : Int64) (b : Int64) (d : Int64) (ev : Int64) (post : zMem → Prop) : Prop := zw_X1_put 8 8 (N 5) (N 0) (fun (r_1 : zRow) => zw_X1_scale 8 r_1 a (fun (r_2 : zRow) => zw_X1_gain 8 8 r_2 (N 1) b (fun (r_3 : zRow) => zw_X1_scale 8 (N 1) ev (fun (r_4 : zRow) => zw_X1_gain 8 8 r_4 (N 0) d (fun (r_5 : zRow) => zw_X1_put 8 8 (N 0) r_3 (fun (r_6 : zRow) => post (zset (zset (zset N 0 r_6) 1 r_5) 5 r_3)))))))
/-! X2_append -/
def zd_X2_append (cI : ClassId) (adN qN0 qN1 qN2 qN3 qN4 qN5 : Nat) (N : zMem) : va_W := [(adN, .inr (1, [.ref qN0, .ref qN1, .ref qN2, .ref qN3, .ref qN4, .ref qN5, .int (N 6 0)])), (qN0, .inl (cI, 8, .inl (N 0))), (qN1, .inl (cI, 8, .inl (N 1))), (qN2, .inl (cI, 8, .inl (N 2))), (qN3, .inl (cI, 8, .inl (N 3))), (qN4, .inl (cI, 8, .inl (N 4))), (qN5, .inl (cI, 8, .inl (N 5)))]
abbrev rmX2_append : Room := { frames := 2, cells := 0, slots := 0, locals := 56 }
def zw_X2_append (N : zMem) (bu : Int32) (bl : Int32) (ou : Int32) (ol : Int32) (post : Int32 → zMem → Prop) : Prop := (((N 6 0) < (8 : Int32) → ∀ y_2 : Int32, y_2 = ((N 6 0) + (1 : Int32)) → (∀ x5_3 : Int64, x5_3 = (Int32.toInt64 (bl * ol)) → (∀ x7_4 : Int64, x7_4 = (Int32.toInt64 (bu * ol)) → (∀ x9_5 : Int64, x9_5 = (Int32.toInt64 (ou * bl)) → (zw_X1_put 8 8 (N 5) (N 2) (fun (r_6 : zRow) => zw_X1_scale 8 r_6 x5_3 (fun (r_7 : zRow) => zw_X1_gain 8 8 r_7 (N 3) (-x7_4) (fun (r_8 : zRow) => zw_X1_signOf 8 r_8 (fun (v_9 : Int32) => ((v_9 = 0 → (narrow .boolean (.int (1 : Int32)) = .int (1 : Int32) ∧ post (1 : Int32) (zset (zset N 5 r_8) 6 (fun _ => y_2)))) ∧ (¬ v_9 = 0 → zw_X2_passPair_wl (zset (zset N 5 r_8) 6 (fun _ => y_2)) (x5_3 * x5_3) ((-x7_4) * x5_3) (x7_4 * x5_3) ((x9_5 * x9_5) - (x7_4 * x7_4)) (fun (T_12 : zMem) => zw_X2_passPair_fi T_12 (x5_3 * x5_3) (x7_4 * x5_3) ((-x7_4) * x5_3) ((x9_5 * x9_5) - (x7_4 * x7_4)) (fun (T_13 : zMem) => zw_X1_scale 8 (T_13 4) (x9_5 * x5_3) (fun (r_14 : zRow) => (narrow .boolean (.int (1 : Int32)) = .int (1 : Int32) ∧ post (1 : Int32) (zset T_13 4 r_14)))))))))))))))) ∧ (¬ (N 6 0) < (8 : Int32) → (narrow .boolean (.int (0 : Int32)) = .int (0 : Int32) ∧ post (0 : Int32) N)))
/-! X2_tell -/
def zd_X2_tell (cI : ClassId) (adN qN0 qN1 qN2 qN3 qN4 qN5 adF qF0 qF1 qF2 qF3 : Nat) (N : zMem) (F : zMem) : va_W := [(adN, .inr (1, [.ref qN0, .ref qN1, .ref qN2, .ref qN3, .ref qN4, .ref qN5, .int (N 6 0)])), (qN0, .inl (cI, 8, .inl (N 0))), (qN1, .inl (cI, 8, .inl (N 1))), (qN2, .inl (cI, 8, .inl (N 2))), (qN3, .inl (cI, 8, .inl (N 3))), (qN4, .inl (cI, 8, .inl (N 4))), (qN5, .inl (cI, 8, .inl (N 5))), (adF, .inr (0, [.ref qF0, .ref qF1, .ref qF2, .ref qF3])), (qF0, .inl (cI, 16, .inl (F 0))), (qF1, .inl (cI, 16, .inl (F 1))), (qF2, .inl (cI, 32, .inl (F 2))), (qF3, .inl (cI, 32, .inl (F 3)))]
abbrev rmX2_tell : Room := { frames := 1, cells := 0, slots := 0, locals := 26 }
def zw_X2_tell (N : zMem) (F : zMem) (w : Int32) (post : zMem → zMem → Prop) : Prop := ((¬ w = (3 : Int32) → zw_X2_rowOf N w (zw_X1_put 16 8 (F 0) (N 0) (fun (r_2 : zRow) => zw_X1_put 16 8 (F 1) (N 2) (fun (r_3 : zRow) => post N (zset (zset F 0 r_2) 1 r_3)))) (zw_X1_put 16 8 (F 0) (N 3) (fun (r_4 : zRow) => zw_X1_put 16 8 (F 1) (N 2) (fun (r_5 : zRow) => post N (zset (zset F 0 r_4) 1 r_5)))) (zw_X1_put 16 8 (F 0) (N 4) (fun (r_6 : zRow) => zw_X1_put 16 8 (F 1) (N 2) (fun (r_7 : zRow) => post N (zset (zset F 0 r_6) 1 r_7))))) ∧ (w = (3 : Int32) → zw_X1_put 8 8 (N 5) (N 2) (fun (r_8 : zRow) => zw_X1_gain 8 8 r_8 (N 0) (-1 : Int64) (fun (r_9 : zRow) => zw_X1_gain 8 8 r_9 (N 4) (-1 : Int64) (fun (r_10 : zRow) => zw_X1_put 16 8 (F 0) r_10 (fun (r_11 : zRow) => zw_X1_put 16 8 (F 1) (N 2) (fun (r_12 : zRow) => post (zset N 5 r_10) (zset (zset F 0 r_11) 1 r_12))))))))
theorem zy_X2_isShare : yX2_isShare.cls ≠ "java/lang/invoke/MethodHandle" ∧ yX2_isShare.cls ≠ "java/lang/invoke/VarHandle" ∧ (parseMethodDescriptor yX2_isShare.desc).map (fun d => d.parameters.length) = some 2 := by decide +kernel
set_option maxHeartbeats 4000000 in
set_option maxRecDepth 100000 in
theorem zc_X2_isShare (l : Launch) (G : va_G) (cI : ClassId) (a : Int32) (b : Int32) (post : Int32 → Prop) (hF : zw_X2_isShare a b post) (sz : Nat) : Met l yX2_isShare wsX2_isShare rmX2_isShare (va_Pc [.int a, .int b] (zv_in G cI (zd_X2_isShare cI ) sz)) (va_Qi (fun (rz : Int32) (uz : Unit) => post rz ) (fun (uz : Unit) t => zv_out G cI (va_A (zd_X2_isShare cI ) sz) (zd_X2_isShare cI ) t) (va_A (zd_X2_isShare cI ) sz)) 0 0 (va_A (zd_X2_isShare cI ) sz) := by
  refine zv_met (cc := cX2_isShare) (maxL := 2) (ret := (some .boolean)) (lv0 := [(0, .int a), (1, .int b)]) (Qc := fun A => va_Qi (fun (rz : Int32) (uz : Unit) => post rz ) (fun (uz : Unit) t => zv_out G cI A (zd_X2_isShare cI ) t) A) (by decide) rfl (Nat.le_of_ble_eq_true rfl) rfl ?_ sz
  intro p e s m below meth c A C hr hlk
  clear sz
  refine zv_iload_n (pc := 0) C rfl 0 rfl dX2_isShare_0 ?_
  refine zv_if_lt (pc := 1) (tgt := 25) C dX2_isShare_1 (by decide) (fun c_1 => ?_) (fun c_1 => ?_)
  · replace hF := And.left hF c_1
    refine zv_iconst (pc := 25) (v := 0) C (by decide) dX2_isShare_25 ?_
    obtain ⟨hn_2, hF⟩ := hF
    exact zv_zret (pc := 26) C hr hlk (0 : Int32) () hn_2 hF rfl dX2_isShare_26
  · replace hF := And.right hF c_1
    refine zv_iload_n (pc := 4) C rfl 0 rfl dX2_isShare_4 ?_
    refine zv_bipush (pc := 5) (v := 100) C (by decide) dX2_isShare_5 ?_
    refine zv_icmp_gt (pc := 7) (tgt := 25) C dX2_isShare_7 (by decide) (fun c_3 => ?_) (fun c_3 => ?_)
    · replace hF := And.left hF c_3
      refine zv_iconst (pc := 25) (v := 0) C (by decide) dX2_isShare_25 ?_
      obtain ⟨hn_4, hF⟩ := hF
      exact zv_zret (pc := 26) C hr hlk (0 : Int32) () hn_4 hF rfl dX2_isShare_26
    · replace hF := And.right hF c_3
      refine zv_iload_n (pc := 10) C rfl 1 rfl dX2_isShare_10 ?_
      refine zv_iconst (pc := 11) (v := 1) C (by decide) dX2_isShare_11 ?_
      refine zv_icmp_lt (pc := 12) (tgt := 25) C dX2_isShare_12 (by decide) (fun c_5 => ?_) (fun c_5 => ?_)
      · replace hF := And.left hF c_5
        refine zv_iconst (pc := 25) (v := 0) C (by decide) dX2_isShare_25 ?_
        obtain ⟨hn_6, hF⟩ := hF
        exact zv_zret (pc := 26) C hr hlk (0 : Int32) () hn_6 hF rfl dX2_isShare_26
      · replace hF := And.right hF c_5
        refine zv_iload_n (pc := 15) C rfl 1 rfl dX2_isShare_15 ?_
        refine zv_bipush (pc := 16) (v := 100) C (by decide) dX2_isShare_16 ?_
        refine zv_icmp_gt (pc := 18) (tgt := 25) C dX2_isShare_18 (by decide) (fun c_7 => ?_) (fun c_7 => ?_)
        · replace hF := And.left hF c_7
          refine zv_iconst (pc := 25) (v := 0) C (by decide) dX2_isShare_25 ?_
          obtain ⟨hn_8, hF⟩ := hF
          exact zv_zret (pc := 26) C hr hlk (0 : Int32) () hn_8 hF rfl dX2_isShare_26
        · replace hF := And.right hF c_7
          refine zv_iconst (pc := 21) (v := 1) C (by decide) dX2_isShare_21 ?_
          refine zv_goto (pc := 22) (tgt := 26) C dX2_isShare_22 (by decide) ?_
          obtain ⟨hn_9, hF⟩ := hF
          exact zv_zret (pc := 26) C hr hlk (1 : Int32) () hn_9 hF rfl dX2_isShare_26
theorem zf_X2_setNothing_15 : Cond.fieldLink RX2 15 "GlassStack$Panes" "inner" "[I" ∈ wsX2_setNothing := (List.mem_of_getElem? (i := 3) rfl)
theorem zf_X2_setNothing_18 : Cond.fieldLink RX2 18 "GlassStack$Panes" "whole" "[I" ∈ wsX2_setNothing := (List.mem_of_getElem? (i := 4) rfl)
theorem zf_X2_setNothing_21 : Cond.fieldLink RX2 21 "GlassStack$Panes" "last" "[I" ∈ wsX2_setNothing := (List.mem_of_getElem? (i := 2) rfl)
theorem zf_X2_setNothing_24 : Cond.fieldLink RX2 24 "GlassStack$Panes" "through" "[I" ∈ wsX2_setNothing := (List.mem_of_getElem? (i := 5) rfl)
theorem zf_X2_setNothing_9 : Cond.fieldLink RX2 9 "GlassStack$Panes" "first" "[I" ∈ wsX2_setNothing := (List.mem_of_getElem? (i := 1) rfl)
theorem zi_X2_setNothing_X2 : ∀ w ∈ wsX20, w ∈ wsX2_setNothing := fun w h => List.mem_cons_of_mem _ (List.mem_append_right _ h)
theorem zy_X2_setNothing : yX2_setNothing.cls = RX2 ∧ yX2_setNothing.cls ≠ "java/lang/invoke/MethodHandle" ∧ yX2_setNothing.cls ≠ "java/lang/invoke/VarHandle" ∧ (parseMethodDescriptor yX2_setNothing.desc).map (fun d => d.parameters.length) = some 0 := by decide +kernel
set_option maxHeartbeats 4000000 in
set_option maxRecDepth 100000 in
theorem zc_X2_setNothing (l : Launch) (G : va_G) (cI : ClassId) (adN qN0 qN1 qN2 qN3 qN4 qN5 : Nat) (N : zMem) (post : zMem → Prop) (hF : zw_X2_setNothing N post) (sz : Nat) : Met l yX2_setNothing wsX2_setNothing rmX2_setNothing (va_Pc [.ref adN] (zv_in G cI (zd_X2_setNothing cI adN qN0 qN1 qN2 qN3 qN4 qN5 N) sz)) (va_Qv (fun uz : zMem => post uz) (fun (uz : zMem) t => zv_out G cI (va_A (zd_X2_setNothing cI adN qN0 qN1 qN2 qN3 qN4 qN5 N) sz) (zd_X2_setNothing cI adN qN0 qN1 qN2 qN3 qN4 qN5 uz) t) (va_A (zd_X2_setNothing cI adN qN0 qN1 qN2 qN3 qN4 qN5 N) sz)) 0 0 (va_A (zd_X2_setNothing cI adN qN0 qN1 qN2 qN3 qN4 qN5 N) sz) := by
  refine zv_met (cc := cX2_setNothing) (maxL := 1) (ret := none) (lv0 := [(0, .ref adN)]) (Qc := fun A => va_Qv (fun uz : zMem => post uz) (fun (uz : zMem) t => zv_out G cI A (zd_X2_setNothing cI adN qN0 qN1 qN2 qN3 qN4 qN5 uz) t) A) (by decide) rfl (Nat.le_of_ble_eq_true rfl) rfl ?_ sz
  intro p e s m below meth c A C hr hlk
  clear sz
  refine zv_aload_n (pc := 0) C rfl 0 rfl dX2_setNothing_0 ?_
  refine zv_get (pc := 1) (CC := RX2) (T := TX2) (N := 7) (ci := 1) (v := .ref qN0) C zi_X2_setNothing_X2 0 rfl 0 (by decide) zf_X2_setNothing_9 rfl rfl dX2_setNothing_1 ?_
  refine zv_iconst (pc := 4) (v := 0) C (by decide) dX2_setNothing_4 ?_
  refine zv_cv0 (pc := 5) (ws' := (fun uz : zRow => (zd_X2_setNothing cI adN qN0 qN1 qN2 qN3 qN4 qN5 (zset N 0 uz)))) C (zv_runS (As := [.ref qN0, .int (0 : Int32)]) (rest := []) C (zc_X1_set l G cI qN0 8 (N 0) (0 : Int32) _ hF) (va_cwS 2 C.2.2.2.2.1 gX2_setNothing_X1_set rfl rfl rfl zy_X1_set ⟨Nat.le_of_ble_eq_true rfl, Nat.le_of_ble_eq_true rfl⟩) rfl rfl (Nat.le_of_ble_eq_true rfl) ⟨Nat.zero_le _, Nat.zero_le _⟩ dX2_setNothing_5) [1] [0, 2, 3, 4, 5, 6] rfl rfl rfl rfl rfl (fun _ => rfl) (fun _ => rfl) (fun _ => rfl) (fun uz hF => ?_)
  obtain ⟨r_1, hE⟩ : ∃ z, z = uz := ⟨_, rfl⟩; subst hE
  refine zv_aload_n (pc := 8) C rfl 0 rfl dX2_setNothing_8 ?_
  refine zv_get (pc := 9) (CC := RX2) (T := TX2) (N := 7) (ci := 1) (v := .ref qN3) C zi_X2_setNothing_X2 0 rfl 3 (by decide) zf_X2_setNothing_21 rfl rfl dX2_setNothing_9 ?_
  refine zv_iconst (pc := 12) (v := 0) C (by decide) dX2_setNothing_12 ?_
  refine zv_cv0 (pc := 13) (ws' := (fun uz : zRow => (zd_X2_setNothing cI adN qN0 qN1 qN2 qN3 qN4 qN5 (zset (zset N 0 r_1) 3 uz)))) C (zv_runS (As := [.ref qN3, .int (0 : Int32)]) (rest := []) C (zc_X1_set l G cI qN3 8 (N 3) (0 : Int32) _ hF) (va_cwS 2 C.2.2.2.2.1 gX2_setNothing_X1_set rfl rfl rfl zy_X1_set ⟨Nat.le_of_ble_eq_true rfl, Nat.le_of_ble_eq_true rfl⟩) rfl rfl (Nat.le_of_ble_eq_true rfl) ⟨Nat.zero_le _, Nat.zero_le _⟩ dX2_setNothing_13) [4] [0, 1, 2, 3, 5, 6] rfl rfl rfl rfl rfl (fun _ => rfl) (fun _ => rfl) (fun _ => rfl) (fun uz hF => ?_)
  obtain ⟨r_2, hE⟩ : ∃ z, z = uz := ⟨_, rfl⟩; subst hE
  refine zv_aload_n (pc := 16) C rfl 0 rfl dX2_setNothing_16 ?_
  refine zv_get (pc := 17) (CC := RX2) (T := TX2) (N := 7) (ci := 1) (v := .ref qN1) C zi_X2_setNothing_X2 0 rfl 1 (by decide) zf_X2_setNothing_15 rfl rfl dX2_setNothing_17 ?_
  refine zv_iconst (pc := 20) (v := 1) C (by decide) dX2_setNothing_20 ?_
  refine zv_cv0 (pc := 21) (ws' := (fun uz : zRow => (zd_X2_setNothing cI adN qN0 qN1 qN2 qN3 qN4 qN5 (zset (zset (zset N 0 r_1) 1 uz) 3 r_2)))) C (zv_runS (As := [.ref qN1, .int (1 : Int32)]) (rest := []) C (zc_X1_set l G cI qN1 8 (N 1) (1 : Int32) _ hF) (va_cwS 2 C.2.2.2.2.1 gX2_setNothing_X1_set rfl rfl rfl zy_X1_set ⟨Nat.le_of_ble_eq_true rfl, Nat.le_of_ble_eq_true rfl⟩) rfl rfl (Nat.le_of_ble_eq_true rfl) ⟨Nat.zero_le _, Nat.zero_le _⟩ dX2_setNothing_21) [2] [0, 1, 3, 4, 5, 6] rfl rfl rfl rfl rfl (fun _ => rfl) (fun _ => rfl) (fun _ => rfl) (fun uz hF => ?_)
  obtain ⟨r_3, hE⟩ : ∃ z, z = uz := ⟨_, rfl⟩; subst hE
  refine zv_aload_n (pc := 24) C rfl 0 rfl dX2_setNothing_24 ?_
  refine zv_get (pc := 25) (CC := RX2) (T := TX2) (N := 7) (ci := 1) (v := .ref qN2) C zi_X2_setNothing_X2 0 rfl 2 (by decide) zf_X2_setNothing_18 rfl rfl dX2_setNothing_25 ?_
  refine zv_iconst (pc := 28) (v := 1) C (by decide) dX2_setNothing_28 ?_
  refine zv_cv0 (pc := 29) (ws' := (fun uz : zRow => (zd_X2_setNothing cI adN qN0 qN1 qN2 qN3 qN4 qN5 (zset (zset (zset (zset N 0 r_1) 1 r_3) 2 uz) 3 r_2)))) C (zv_runS (As := [.ref qN2, .int (1 : Int32)]) (rest := []) C (zc_X1_set l G cI qN2 8 (N 2) (1 : Int32) _ hF) (va_cwS 2 C.2.2.2.2.1 gX2_setNothing_X1_set rfl rfl rfl zy_X1_set ⟨Nat.le_of_ble_eq_true rfl, Nat.le_of_ble_eq_true rfl⟩) rfl rfl (Nat.le_of_ble_eq_true rfl) ⟨Nat.zero_le _, Nat.zero_le _⟩ dX2_setNothing_29) [3] [0, 1, 2, 4, 5, 6] rfl rfl rfl rfl rfl (fun _ => rfl) (fun _ => rfl) (fun _ => rfl) (fun uz hF => ?_)
  obtain ⟨r_4, hE⟩ : ∃ z, z = uz := ⟨_, rfl⟩; subst hE
  refine zv_aload_n (pc := 32) C rfl 0 rfl dX2_setNothing_32 ?_
  refine zv_get (pc := 33) (CC := RX2) (T := TX2) (N := 7) (ci := 1) (v := .ref qN4) C zi_X2_setNothing_X2 0 rfl 4 (by decide) zf_X2_setNothing_24 rfl rfl dX2_setNothing_33 ?_
  refine zv_iconst (pc := 36) (v := 1) C (by decide) dX2_setNothing_36 ?_
  refine zv_cv0 (pc := 37) (ws' := (fun uz : zRow => (zd_X2_setNothing cI adN qN0 qN1 qN2 qN3 qN4 qN5 (zset (zset (zset (zset (zset N 0 r_1) 1 r_3) 2 r_4) 3 r_2) 4 uz)))) C (zv_runS (As := [.ref qN4, .int (1 : Int32)]) (rest := []) C (zc_X1_set l G cI qN4 8 (N 4) (1 : Int32) _ hF) (va_cwS 2 C.2.2.2.2.1 gX2_setNothing_X1_set rfl rfl rfl zy_X1_set ⟨Nat.le_of_ble_eq_true rfl, Nat.le_of_ble_eq_true rfl⟩) rfl rfl (Nat.le_of_ble_eq_true rfl) ⟨Nat.zero_le _, Nat.zero_le _⟩ dX2_setNothing_37) [5] [0, 1, 2, 3, 4, 6] rfl rfl rfl rfl rfl (fun _ => rfl) (fun _ => rfl) (fun _ => rfl) (fun uz hF => ?_)
  obtain ⟨r_5, hE⟩ : ∃ z, z = uz := ⟨_, rfl⟩; subst hE
  exact zv_vret (pc := 40) C hr hlk (zset (zset (zset (zset (zset N 0 r_1) 1 r_3) 2 r_4) 3 r_2) 4 r_5) hF rfl dX2_setNothing_40
theorem zf_X2_removeAll_30 : Cond.fieldLink RX2 30 "GlassStack$Panes" "count" "I" ∈ wsX2_removeAll := (List.mem_of_getElem? (i := 1) rfl)
theorem zi_X2_removeAll_X2 : ∀ w ∈ wsX20, w ∈ wsX2_removeAll := fun w h => List.mem_cons_of_mem _ (List.mem_append_right _ h)
theorem zy_X2_removeAll : yX2_removeAll.cls = RX2 ∧ yX2_removeAll.cls ≠ "java/lang/invoke/MethodHandle" ∧ yX2_removeAll.cls ≠ "java/lang/invoke/VarHandle" ∧ (parseMethodDescriptor yX2_removeAll.desc).map (fun d => d.parameters.length) = some 0 := by decide +kernel
set_option maxHeartbeats 4000000 in
set_option maxRecDepth 100000 in
theorem zc_X2_removeAll (l : Launch) (G : va_G) (cI : ClassId) (adN qN0 qN1 qN2 qN3 qN4 qN5 : Nat) (N : zMem) (post : zMem → Prop) (hF : zw_X2_removeAll N post) (sz : Nat) : Met l yX2_removeAll wsX2_removeAll rmX2_removeAll (va_Pc [.ref adN] (zv_in G cI (zd_X2_removeAll cI adN qN0 qN1 qN2 qN3 qN4 qN5 N) sz)) (va_Qv (fun uz : zMem => post uz) (fun (uz : zMem) t => zv_out G cI (va_A (zd_X2_removeAll cI adN qN0 qN1 qN2 qN3 qN4 qN5 N) sz) (zd_X2_removeAll cI adN qN0 qN1 qN2 qN3 qN4 qN5 uz) t) (va_A (zd_X2_removeAll cI adN qN0 qN1 qN2 qN3 qN4 qN5 N) sz)) 0 0 (va_A (zd_X2_removeAll cI adN qN0 qN1 qN2 qN3 qN4 qN5 N) sz) := by
  refine zv_met (cc := cX2_removeAll) (maxL := 1) (ret := none) (lv0 := [(0, .ref adN)]) (Qc := fun A => va_Qv (fun uz : zMem => post uz) (fun (uz : zMem) t => zv_out G cI A (zd_X2_removeAll cI adN qN0 qN1 qN2 qN3 qN4 qN5 uz) t) A) (by decide) rfl (Nat.le_of_ble_eq_true rfl) rfl ?_ sz
  intro p e s m below meth c A C hr hlk
  clear sz
  refine zv_aload_n (pc := 0) C rfl 0 rfl dX2_removeAll_0 ?_
  refine zv_iconst (pc := 1) (v := 0) C (by decide) dX2_removeAll_1 ?_
  refine zv_put (pc := 2) (CC := RX2) (T := TX2) (N := 7) (ci := 1) (v := .int (0 : Int32)) (ty := .int) (ws' := (zd_X2_removeAll cI adN qN0 qN1 qN2 qN3 qN4 qN5 (zset N 6 (fun _ => (0 : Int32))))) C zi_X2_removeAll_X2 tyX2 tyX2_ok nmX2 0 rfl 6 (by decide) zf_X2_removeAll_30 rfl (by decide +kernel) rfl rfl rfl (Nat.le_of_ble_eq_true rfl) rfl dX2_removeAll_2 ?_
  refine zv_aload_n (pc := 5) C rfl 0 rfl dX2_removeAll_5 ?_
  refine zv_cv0 (pc := 6) (ws' := (fun uz : zMem => (zd_X2_removeAll cI adN qN0 qN1 qN2 qN3 qN4 qN5 uz))) C (zv_runV (As := []) (b := adN) (rest := []) (ci := 1) (q0 := 0) C (zc_X2_setNothing l G cI adN qN0 qN1 qN2 qN3 qN4 qN5 (zset N 6 (fun _ => (0 : Int32))) _ hF) (cwV 0 C.2.2.2.2.1 gX2_removeAll_X2_setNothing rfl rfl rfl zy_X2_setNothing ⟨Nat.le_of_ble_eq_true rfl, Nat.le_of_ble_eq_true rfl⟩) rfl rfl rfl rfl rfl (Nat.le_of_ble_eq_true rfl) ⟨Nat.zero_le _, Nat.zero_le _⟩ dX2_removeAll_6) [0, 1, 2, 3, 4, 5, 6] [] rfl rfl rfl rfl rfl (fun _ => rfl) (fun _ => rfl) (fun _ => rfl) (fun uz hF => ?_)
  obtain ⟨T_1, hE⟩ : ∃ z, z = uz := ⟨_, rfl⟩; subst hE
  exact zv_vret (pc := 9) C hr hlk T_1 hF rfl dX2_removeAll_9
theorem zf_X2_rowOf_21 : Cond.fieldLink RX2 21 "GlassStack$Panes" "last" "[I" ∈ wsX2_rowOf := (List.mem_of_getElem? (i := 2) rfl)
theorem zf_X2_rowOf_24 : Cond.fieldLink RX2 24 "GlassStack$Panes" "through" "[I" ∈ wsX2_rowOf := (List.mem_of_getElem? (i := 3) rfl)
theorem zf_X2_rowOf_9 : Cond.fieldLink RX2 9 "GlassStack$Panes" "first" "[I" ∈ wsX2_rowOf := (List.mem_of_getElem? (i := 1) rfl)
theorem zi_X2_rowOf_X2 : ∀ w ∈ wsX20, w ∈ wsX2_rowOf := fun w h => List.mem_cons_of_mem _ (List.mem_append_right _ h)
theorem zy_X2_rowOf : yX2_rowOf.cls = RX2 ∧ yX2_rowOf.cls ≠ "java/lang/invoke/MethodHandle" ∧ yX2_rowOf.cls ≠ "java/lang/invoke/VarHandle" ∧ (parseMethodDescriptor yX2_rowOf.desc).map (fun d => d.parameters.length) = some 1 := by decide +kernel
set_option maxHeartbeats 4000000 in
set_option maxRecDepth 100000 in
theorem zc_X2_rowOf (l : Launch) (G : va_G) (cI : ClassId) (adN qN0 qN1 qN2 qN3 qN4 qN5 : Nat) (N : zMem) (w : Int32) (P0 P1 P2 : Prop) (hF : zw_X2_rowOf N w P0 P1 P2) (sz : Nat) : Met l yX2_rowOf wsX2_rowOf rmX2_rowOf (va_Pc [.ref adN, .int w] (zv_in G cI (zd_X2_rowOf cI adN qN0 qN1 qN2 qN3 qN4 qN5 N) sz)) (va_Qr (fun u : Nat => (u = 0 ∧ P0) ∨ (u = 1 ∧ P1) ∨ (u = 2 ∧ P2)) (fun (u : Nat) (ra : Nat) t => ra = (fun u : Nat => [qN0, qN3, qN4].getD u 0) u ∧ zv_out G cI (va_A (zd_X2_rowOf cI adN qN0 qN1 qN2 qN3 qN4 qN5 N) sz) ((fun _ : Nat => (zd_X2_rowOf cI adN qN0 qN1 qN2 qN3 qN4 qN5 N)) u) t) (va_A (zd_X2_rowOf cI adN qN0 qN1 qN2 qN3 qN4 qN5 N) sz)) 0 0 (va_A (zd_X2_rowOf cI adN qN0 qN1 qN2 qN3 qN4 qN5 N) sz) := by
  refine zv_met (cc := cX2_rowOf) (maxL := 2) (ret := (some (.array .int))) (lv0 := [(0, .ref adN), (1, .int w)]) (Qc := fun A => va_Qr (fun u : Nat => (u = 0 ∧ P0) ∨ (u = 1 ∧ P1) ∨ (u = 2 ∧ P2)) (fun (u : Nat) (ra : Nat) t => ra = (fun u : Nat => [qN0, qN3, qN4].getD u 0) u ∧ zv_out G cI A ((fun _ : Nat => (zd_X2_rowOf cI adN qN0 qN1 qN2 qN3 qN4 qN5 N)) u) t) A) (by decide) rfl (Nat.le_of_ble_eq_true rfl) rfl ?_ sz
  intro p e s m below meth c A C hr hlk
  clear sz
  refine zv_iload_n (pc := 0) C rfl 1 rfl dX2_rowOf_0 ?_
  refine zv_if_ne (pc := 1) (tgt := 9) C dX2_rowOf_1 (by decide) (fun c_1 => ?_) (fun c_1 => ?_)
  · replace hF := And.left hF c_1
    refine zv_iload_n (pc := 9) C rfl 1 rfl dX2_rowOf_9 ?_
    refine zv_iconst (pc := 10) (v := 1) C (by decide) dX2_rowOf_10 ?_
    refine zv_icmp_ne (pc := 11) (tgt := 21) C dX2_rowOf_11 (by decide) (fun c_2 => ?_) (fun c_2 => ?_)
    · replace hF := And.left hF c_2
      refine zv_aload_n (pc := 21) C rfl 0 rfl dX2_rowOf_21 ?_
      refine zv_get (pc := 22) (CC := RX2) (T := TX2) (N := 7) (ci := 1) (v := .ref qN4) C zi_X2_rowOf_X2 0 rfl 4 (by decide) zf_X2_rowOf_24 rfl rfl dX2_rowOf_22 ?_
      exact zv_aret (pc := 25) C hr (by first | exact Or.inl ⟨_, rfl⟩ | exact Or.inr ⟨_, rfl⟩) hlk 2 rfl (Or.inr (Or.inr (⟨rfl, hF⟩))) rfl dX2_rowOf_25
    · replace hF := And.right hF c_2
      refine zv_aload_n (pc := 14) C rfl 0 rfl dX2_rowOf_14 ?_
      refine zv_get (pc := 15) (CC := RX2) (T := TX2) (N := 7) (ci := 1) (v := .ref qN3) C zi_X2_rowOf_X2 0 rfl 3 (by decide) zf_X2_rowOf_21 rfl rfl dX2_rowOf_15 ?_
      refine zv_goto (pc := 18) (tgt := 25) C dX2_rowOf_18 (by decide) ?_
      exact zv_aret (pc := 25) C hr (by first | exact Or.inl ⟨_, rfl⟩ | exact Or.inr ⟨_, rfl⟩) hlk 1 rfl (Or.inr (Or.inl ⟨rfl, hF⟩)) rfl dX2_rowOf_25
  · replace hF := And.right hF c_1
    refine zv_aload_n (pc := 4) C rfl 0 rfl dX2_rowOf_4 ?_
    refine zv_get (pc := 5) (CC := RX2) (T := TX2) (N := 7) (ci := 1) (v := .ref qN0) C zi_X2_rowOf_X2 0 rfl 0 (by decide) zf_X2_rowOf_9 rfl rfl dX2_rowOf_5 ?_
    exact zv_aret (pc := 8) C hr (by first | exact Or.inl ⟨_, rfl⟩ | exact Or.inr ⟨_, rfl⟩) hlk 0 rfl (Or.inl ⟨rfl, hF⟩) rfl dX2_rowOf_8
theorem zf_X2_passPair_wl_27 : Cond.fieldLink RX2 27 "GlassStack$Panes" "next" "[I" ∈ wsX2_passPair := (List.mem_of_getElem? (i := 1) rfl)
theorem zi_X2_passPair_wl_X2 : ∀ w ∈ wsX20, w ∈ wsX2_passPair := fun w h => List.mem_cons_of_mem _ (List.mem_append_right _ h)
theorem zy_X2_passPair : yX2_passPair.cls = RX2 ∧ yX2_passPair.cls ≠ "java/lang/invoke/MethodHandle" ∧ yX2_passPair.cls ≠ "java/lang/invoke/VarHandle" ∧ (parseMethodDescriptor yX2_passPair.desc).map (fun d => d.parameters.length) = some 6 := by decide +kernel
set_option maxHeartbeats 4000000 in
set_option maxRecDepth 100000 in
theorem zc_X2_passPair_wl (l : Launch) (G : va_G) (cI : ClassId) (adN qN0 qN1 qN2 qN3 qN4 qN5 : Nat) (N : zMem) (a : Int64) (b : Int64) (d : Int64) (ev : Int64) (post : zMem → Prop) (hF : zw_X2_passPair_wl N a b d ev post) (sz : Nat) : Met l yX2_passPair wsX2_passPair rmX2_passPair_wl (va_Pc [.ref adN, .ref qN2, .ref qN3, .long a, .long b, .long d, .long ev] (zv_in G cI (zd_X2_passPair_wl cI adN qN0 qN1 qN2 qN3 qN4 qN5 N) sz)) (va_Qv (fun uz : zMem => post uz) (fun (uz : zMem) t => zv_out G cI (va_A (zd_X2_passPair_wl cI adN qN0 qN1 qN2 qN3 qN4 qN5 N) sz) (zd_X2_passPair_wl cI adN qN0 qN1 qN2 qN3 qN4 qN5 uz) t) (va_A (zd_X2_passPair_wl cI adN qN0 qN1 qN2 qN3 qN4 qN5 N) sz)) 0 0 (va_A (zd_X2_passPair_wl cI adN qN0 qN1 qN2 qN3 qN4 qN5 N) sz) := by
  refine zv_met (cc := cX2_passPair) (maxL := 11) (ret := none) (lv0 := [(0, .ref adN), (1, .ref qN2), (2, .ref qN3), (3, .long a), (5, .long b), (7, .long d), (9, .long ev)]) (Qc := fun A => va_Qv (fun uz : zMem => post uz) (fun (uz : zMem) t => zv_out G cI A (zd_X2_passPair_wl cI adN qN0 qN1 qN2 qN3 qN4 qN5 uz) t) A) (by decide) rfl (Nat.le_of_ble_eq_true rfl) rfl ?_ sz
  intro p e s m below meth c A C hr hlk
  clear sz
  refine zv_aload_n (pc := 0) C rfl 0 rfl dX2_passPair_0 ?_
  refine zv_get (pc := 1) (CC := RX2) (T := TX2) (N := 7) (ci := 1) (v := .ref qN5) C zi_X2_passPair_wl_X2 0 rfl 5 (by decide) zf_X2_passPair_wl_27 rfl rfl dX2_passPair_1 ?_
  refine zv_aload_n (pc := 4) C rfl 1 rfl dX2_passPair_4 ?_
  refine zv_cv0 (pc := 5) (ws' := (fun uz : zRow => (zd_X2_passPair_wl cI adN qN0 qN1 qN2 qN3 qN4 qN5 (zset N 5 uz)))) C (zv_runS (As := [.ref qN5, .ref qN2]) (rest := []) C (zc_X1_put l G cI qN5 qN2 8 8 (N 5) (N 2) _ hF) (va_cwS 2 C.2.2.2.2.1 gX2_passPair_X1_put rfl rfl rfl zy_X1_put ⟨Nat.le_of_ble_eq_true rfl, Nat.le_of_ble_eq_true rfl⟩) rfl rfl (Nat.le_of_ble_eq_true rfl) ⟨Nat.zero_le _, Nat.zero_le _⟩ dX2_passPair_5) [6, 3] [0, 1, 2, 4, 5] rfl rfl rfl rfl rfl (fun _ => rfl) (fun _ => rfl) (fun _ => rfl) (fun uz hF => ?_)
  obtain ⟨r_1, hE⟩ : ∃ z, z = uz := ⟨_, rfl⟩; subst hE
  refine zv_aload_n (pc := 8) C rfl 0 rfl dX2_passPair_8 ?_
  refine zv_get (pc := 9) (CC := RX2) (T := TX2) (N := 7) (ci := 1) (v := .ref qN5) C zi_X2_passPair_wl_X2 0 rfl 5 (by decide) zf_X2_passPair_wl_27 rfl rfl dX2_passPair_9 ?_
  refine zv_lload_n (pc := 12) C rfl 3 rfl dX2_passPair_12 ?_
  refine zv_cv0 (pc := 13) (ws' := (fun uz : zRow => (zd_X2_passPair_wl cI adN qN0 qN1 qN2 qN3 qN4 qN5 (zset N 5 uz)))) C (zv_runS (As := [.ref qN5, .long a]) (rest := []) C (zc_X1_scale l G cI qN5 8 r_1 a _ hF) (va_cwS 2 C.2.2.2.2.1 gX2_passPair_X1_scale rfl rfl rfl zy_X1_scale ⟨Nat.le_of_ble_eq_true rfl, Nat.le_of_ble_eq_true rfl⟩) rfl rfl (Nat.le_of_ble_eq_true rfl) ⟨Nat.zero_le _, Nat.zero_le _⟩ dX2_passPair_13) [6] [0, 1, 2, 3, 4, 5] rfl rfl rfl rfl rfl (fun _ => rfl) (fun _ => rfl) (fun _ => rfl) (fun uz hF => ?_)
  obtain ⟨r_2, hE⟩ : ∃ z, z = uz := ⟨_, rfl⟩; subst hE
  refine zv_aload_n (pc := 16) C rfl 0 rfl dX2_passPair_16 ?_
  refine zv_get (pc := 17) (CC := RX2) (T := TX2) (N := 7) (ci := 1) (v := .ref qN5) C zi_X2_passPair_wl_X2 0 rfl 5 (by decide) zf_X2_passPair_wl_27 rfl rfl dX2_passPair_17 ?_
  refine zv_aload_n (pc := 20) C rfl 2 rfl dX2_passPair_20 ?_
  refine zv_lload (pc := 21) C 4 rfl dX2_passPair_21 ?_
  refine zv_cv0 (pc := 23) (ws' := (fun uz : zRow => (zd_X2_passPair_wl cI adN qN0 qN1 qN2 qN3 qN4 qN5 (zset N 5 uz)))) C (zv_runS (As := [.ref qN5, .ref qN3, .long b]) (rest := []) C (zc_X1_gain l G cI qN5 qN3 8 8 r_2 (N 3) b _ hF) (va_cwS 3 C.2.2.2.2.1 gX2_passPair_X1_gain rfl rfl rfl zy_X1_gain ⟨Nat.le_of_ble_eq_true rfl, Nat.le_of_ble_eq_true rfl⟩) rfl rfl (Nat.le_of_ble_eq_true rfl) ⟨Nat.zero_le _, Nat.zero_le _⟩ dX2_passPair_23) [6, 4] [0, 1, 2, 3, 5] rfl rfl rfl rfl rfl (fun _ => rfl) (fun _ => rfl) (fun _ => rfl) (fun uz hF => ?_)
  obtain ⟨r_3, hE⟩ : ∃ z, z = uz := ⟨_, rfl⟩; subst hE
  refine zv_aload_n (pc := 26) C rfl 2 rfl dX2_passPair_26 ?_
  refine zv_lload (pc := 27) C 6 rfl dX2_passPair_27 ?_
  refine zv_cv0 (pc := 29) (ws' := (fun uz : zRow => (zd_X2_passPair_wl cI adN qN0 qN1 qN2 qN3 qN4 qN5 (zset (zset N 3 uz) 5 r_3)))) C (zv_runS (As := [.ref qN3, .long ev]) (rest := []) C (zc_X1_scale l G cI qN3 8 (N 3) ev _ hF) (va_cwS 2 C.2.2.2.2.1 gX2_passPair_X1_scale rfl rfl rfl zy_X1_scale ⟨Nat.le_of_ble_eq_true rfl, Nat.le_of_ble_eq_true rfl⟩) rfl rfl (Nat.le_of_ble_eq_true rfl) ⟨Nat.zero_le _, Nat.zero_le _⟩ dX2_passPair_29) [4] [0, 1, 2, 3, 5, 6] rfl rfl rfl rfl rfl (fun _ => rfl) (fun _ => rfl) (fun _ => rfl) (fun uz hF => ?_)
  obtain ⟨r_4, hE⟩ : ∃ z, z = uz := ⟨_, rfl⟩; subst hE
  refine zv_aload_n (pc := 32) C rfl 2 rfl dX2_passPair_32 ?_
  refine zv_aload_n (pc := 33) C rfl 1 rfl dX2_passPair_33 ?_
  refine zv_lload (pc := 34) C 5 rfl dX2_passPair_34 ?_
  refine zv_cv0 (pc := 36) (ws' := (fun uz : zRow => (zd_X2_passPair_wl cI adN qN0 qN1 qN2 qN3 qN4 qN5 (zset (zset N 3 uz) 5 r_3)))) C (zv_runS (As := [.ref qN3, .ref qN2, .long d]) (rest := []) C (zc_X1_gain l G cI qN3 qN2 8 8 r_4 (N 2) d _ hF) (va_cwS 3 C.2.2.2.2.1 gX2_passPair_X1_gain rfl rfl rfl zy_X1_gain ⟨Nat.le_of_ble_eq_true rfl, Nat.le_of_ble_eq_true rfl⟩) rfl rfl (Nat.le_of_ble_eq_true rfl) ⟨Nat.zero_le _, Nat.zero_le _⟩ dX2_passPair_36) [4, 3] [0, 1, 2, 5, 6] rfl rfl rfl rfl rfl (fun _ => rfl) (fun _ => rfl) (fun _ => rfl) (fun uz hF => ?_)
  obtain ⟨r_5, hE⟩ : ∃ z, z = uz := ⟨_, rfl⟩; subst hE
  refine zv_aload_n (pc := 39) C rfl 1 rfl dX2_passPair_39 ?_
  refine zv_aload_n (pc := 40) C rfl 0 rfl dX2_passPair_40 ?_
  refine zv_get (pc := 41) (CC := RX2) (T := TX2) (N := 7) (ci := 1) (v := .ref qN5) C zi_X2_passPair_wl_X2 0 rfl 5 (by decide) zf_X2_passPair_wl_27 rfl rfl dX2_passPair_41 ?_
  refine zv_cv0 (pc := 44) (ws' := (fun uz : zRow => (zd_X2_passPair_wl cI adN qN0 qN1 qN2 qN3 qN4 qN5 (zset (zset (zset N 2 uz) 3 r_5) 5 r_3)))) C (zv_runS (As := [.ref qN2, .ref qN5]) (rest := []) C (zc_X1_put l G cI qN2 qN5 8 8 (N 2) r_3 _ hF) (va_cwS 2 C.2.2.2.2.1 gX2_passPair_X1_put rfl rfl rfl zy_X1_put ⟨Nat.le_of_ble_eq_true rfl, Nat.le_of_ble_eq_true rfl⟩) rfl rfl (Nat.le_of_ble_eq_true rfl) ⟨Nat.zero_le _, Nat.zero_le _⟩ dX2_passPair_44) [3, 6] [0, 1, 2, 4, 5] rfl rfl rfl rfl rfl (fun _ => rfl) (fun _ => rfl) (fun _ => rfl) (fun uz hF => ?_)
  obtain ⟨r_6, hE⟩ : ∃ z, z = uz := ⟨_, rfl⟩; subst hE
  exact zv_vret (pc := 47) C hr hlk (zset (zset (zset N 2 r_6) 3 r_5) 5 r_3) hF rfl dX2_passPair_47
theorem zf_X2_passPair_fi_27 : Cond.fieldLink RX2 27 "GlassStack$Panes" "next" "[I" ∈ wsX2_passPair := (List.mem_of_getElem? (i := 1) rfl)
theorem zi_X2_passPair_fi_X2 : ∀ w ∈ wsX20, w ∈ wsX2_passPair := fun w h => List.mem_cons_of_mem _ (List.mem_append_right _ h)
set_option maxHeartbeats 4000000 in
set_option maxRecDepth 100000 in
theorem zc_X2_passPair_fi (l : Launch) (G : va_G) (cI : ClassId) (adN qN0 qN1 qN2 qN3 qN4 qN5 : Nat) (N : zMem) (a : Int64) (b : Int64) (d : Int64) (ev : Int64) (post : zMem → Prop) (hF : zw_X2_passPair_fi N a b d ev post) (sz : Nat) : Met l yX2_passPair wsX2_passPair rmX2_passPair_fi (va_Pc [.ref adN, .ref qN0, .ref qN1, .long a, .long b, .long d, .long ev] (zv_in G cI (zd_X2_passPair_fi cI adN qN0 qN1 qN2 qN3 qN4 qN5 N) sz)) (va_Qv (fun uz : zMem => post uz) (fun (uz : zMem) t => zv_out G cI (va_A (zd_X2_passPair_fi cI adN qN0 qN1 qN2 qN3 qN4 qN5 N) sz) (zd_X2_passPair_fi cI adN qN0 qN1 qN2 qN3 qN4 qN5 uz) t) (va_A (zd_X2_passPair_fi cI adN qN0 qN1 qN2 qN3 qN4 qN5 N) sz)) 0 0 (va_A (zd_X2_passPair_fi cI adN qN0 qN1 qN2 qN3 qN4 qN5 N) sz) := by
  refine zv_met (cc := cX2_passPair) (maxL := 11) (ret := none) (lv0 := [(0, .ref adN), (1, .ref qN0), (2, .ref qN1), (3, .long a), (5, .long b), (7, .long d), (9, .long ev)]) (Qc := fun A => va_Qv (fun uz : zMem => post uz) (fun (uz : zMem) t => zv_out G cI A (zd_X2_passPair_fi cI adN qN0 qN1 qN2 qN3 qN4 qN5 uz) t) A) (by decide) rfl (Nat.le_of_ble_eq_true rfl) rfl ?_ sz
  intro p e s m below meth c A C hr hlk
  clear sz
  refine zv_aload_n (pc := 0) C rfl 0 rfl dX2_passPair_0 ?_
  refine zv_get (pc := 1) (CC := RX2) (T := TX2) (N := 7) (ci := 1) (v := .ref qN5) C zi_X2_passPair_fi_X2 0 rfl 5 (by decide) zf_X2_passPair_fi_27 rfl rfl dX2_passPair_1 ?_
  refine zv_aload_n (pc := 4) C rfl 1 rfl dX2_passPair_4 ?_
  refine zv_cv0 (pc := 5) (ws' := (fun uz : zRow => (zd_X2_passPair_fi cI adN qN0 qN1 qN2 qN3 qN4 qN5 (zset N 5 uz)))) C (zv_runS (As := [.ref qN5, .ref qN0]) (rest := []) C (zc_X1_put l G cI qN5 qN0 8 8 (N 5) (N 0) _ hF) (va_cwS 2 C.2.2.2.2.1 gX2_passPair_X1_put rfl rfl rfl zy_X1_put ⟨Nat.le_of_ble_eq_true rfl, Nat.le_of_ble_eq_true rfl⟩) rfl rfl (Nat.le_of_ble_eq_true rfl) ⟨Nat.zero_le _, Nat.zero_le _⟩ dX2_passPair_5) [6, 1] [0, 2, 3, 4, 5] rfl rfl rfl rfl rfl (fun _ => rfl) (fun _ => rfl) (fun _ => rfl) (fun uz hF => ?_)
  obtain ⟨r_1, hE⟩ : ∃ z, z = uz := ⟨_, rfl⟩; subst hE
  refine zv_aload_n (pc := 8) C rfl 0 rfl dX2_passPair_8 ?_
  refine zv_get (pc := 9) (CC := RX2) (T := TX2) (N := 7) (ci := 1) (v := .ref qN5) C zi_X2_passPair_fi_X2 0 rfl 5 (by decide) zf_X2_passPair_fi_27 rfl rfl dX2_passPair_9 ?_
  refine zv_lload_n (pc := 12) C rfl 3 rfl dX2_passPair_12 ?_
  refine zv_cv0 (pc := 13) (ws' := (fun uz : zRow => (zd_X2_passPair_fi cI adN qN0 qN1 qN2 qN3 qN4 qN5 (zset N 5 uz)))) C (zv_runS (As := [.ref qN5, .long a]) (rest := []) C (zc_X1_scale l G cI qN5 8 r_1 a _ hF) (va_cwS 2 C.2.2.2.2.1 gX2_passPair_X1_scale rfl rfl rfl zy_X1_scale ⟨Nat.le_of_ble_eq_true rfl, Nat.le_of_ble_eq_true rfl⟩) rfl rfl (Nat.le_of_ble_eq_true rfl) ⟨Nat.zero_le _, Nat.zero_le _⟩ dX2_passPair_13) [6] [0, 1, 2, 3, 4, 5] rfl rfl rfl rfl rfl (fun _ => rfl) (fun _ => rfl) (fun _ => rfl) (fun uz hF => ?_)
  obtain ⟨r_2, hE⟩ : ∃ z, z = uz := ⟨_, rfl⟩; subst hE
  refine zv_aload_n (pc := 16) C rfl 0 rfl dX2_passPair_16 ?_
  refine zv_get (pc := 17) (CC := RX2) (T := TX2) (N := 7) (ci := 1) (v := .ref qN5) C zi_X2_passPair_fi_X2 0 rfl 5 (by decide) zf_X2_passPair_fi_27 rfl rfl dX2_passPair_17 ?_
  refine zv_aload_n (pc := 20) C rfl 2 rfl dX2_passPair_20 ?_
  refine zv_lload (pc := 21) C 4 rfl dX2_passPair_21 ?_
  refine zv_cv0 (pc := 23) (ws' := (fun uz : zRow => (zd_X2_passPair_fi cI adN qN0 qN1 qN2 qN3 qN4 qN5 (zset N 5 uz)))) C (zv_runS (As := [.ref qN5, .ref qN1, .long b]) (rest := []) C (zc_X1_gain l G cI qN5 qN1 8 8 r_2 (N 1) b _ hF) (va_cwS 3 C.2.2.2.2.1 gX2_passPair_X1_gain rfl rfl rfl zy_X1_gain ⟨Nat.le_of_ble_eq_true rfl, Nat.le_of_ble_eq_true rfl⟩) rfl rfl (Nat.le_of_ble_eq_true rfl) ⟨Nat.zero_le _, Nat.zero_le _⟩ dX2_passPair_23) [6, 2] [0, 1, 3, 4, 5] rfl rfl rfl rfl rfl (fun _ => rfl) (fun _ => rfl) (fun _ => rfl) (fun uz hF => ?_)
  obtain ⟨r_3, hE⟩ : ∃ z, z = uz := ⟨_, rfl⟩; subst hE
  refine zv_aload_n (pc := 26) C rfl 2 rfl dX2_passPair_26 ?_
  refine zv_lload (pc := 27) C 6 rfl dX2_passPair_27 ?_
  refine zv_cv0 (pc := 29) (ws' := (fun uz : zRow => (zd_X2_passPair_fi cI adN qN0 qN1 qN2 qN3 qN4 qN5 (zset (zset N 1 uz) 5 r_3)))) C (zv_runS (As := [.ref qN1, .long ev]) (rest := []) C (zc_X1_scale l G cI qN1 8 (N 1) ev _ hF) (va_cwS 2 C.2.2.2.2.1 gX2_passPair_X1_scale rfl rfl rfl zy_X1_scale ⟨Nat.le_of_ble_eq_true rfl, Nat.le_of_ble_eq_true rfl⟩) rfl rfl (Nat.le_of_ble_eq_true rfl) ⟨Nat.zero_le _, Nat.zero_le _⟩ dX2_passPair_29) [2] [0, 1, 3, 4, 5, 6] rfl rfl rfl rfl rfl (fun _ => rfl) (fun _ => rfl) (fun _ => rfl) (fun uz hF => ?_)
  obtain ⟨r_4, hE⟩ : ∃ z, z = uz := ⟨_, rfl⟩; subst hE
  refine zv_aload_n (pc := 32) C rfl 2 rfl dX2_passPair_32 ?_
  refine zv_aload_n (pc := 33) C rfl 1 rfl dX2_passPair_33 ?_
  refine zv_lload (pc := 34) C 5 rfl dX2_passPair_34 ?_
  refine zv_cv0 (pc := 36) (ws' := (fun uz : zRow => (zd_X2_passPair_fi cI adN qN0 qN1 qN2 qN3 qN4 qN5 (zset (zset N 1 uz) 5 r_3)))) C (zv_runS (As := [.ref qN1, .ref qN0, .long d]) (rest := []) C (zc_X1_gain l G cI qN1 qN0 8 8 r_4 (N 0) d _ hF) (va_cwS 3 C.2.2.2.2.1 gX2_passPair_X1_gain rfl rfl rfl zy_X1_gain ⟨Nat.le_of_ble_eq_true rfl, Nat.le_of_ble_eq_true rfl⟩) rfl rfl (Nat.le_of_ble_eq_true rfl) ⟨Nat.zero_le _, Nat.zero_le _⟩ dX2_passPair_36) [2, 1] [0, 3, 4, 5, 6] rfl rfl rfl rfl rfl (fun _ => rfl) (fun _ => rfl) (fun _ => rfl) (fun uz hF => ?_)
  obtain ⟨r_5, hE⟩ : ∃ z, z = uz := ⟨_, rfl⟩; subst hE
  refine zv_aload_n (pc := 39) C rfl 1 rfl dX2_passPair_39 ?_
  refine zv_aload_n (pc := 40) C rfl 0 rfl dX2_passPair_40 ?_
  refine zv_get (pc := 41) (CC := RX2) (T := TX2) (N := 7) (ci := 1) (v := .ref qN5) C zi_X2_passPair_fi_X2 0 rfl 5 (by decide) zf_X2_passPair_fi_27 rfl rfl dX2_passPair_41 ?_
  refine zv_cv0 (pc := 44) (ws' := (fun uz : zRow => (zd_X2_passPair_fi cI adN qN0 qN1 qN2 qN3 qN4 qN5 (zset (zset (zset N 0 uz) 1 r_5) 5 r_3)))) C (zv_runS (As := [.ref qN0, .ref qN5]) (rest := []) C (zc_X1_put l G cI qN0 qN5 8 8 (N 0) r_3 _ hF) (va_cwS 2 C.2.2.2.2.1 gX2_passPair_X1_put rfl rfl rfl zy_X1_put ⟨Nat.le_of_ble_eq_true rfl, Nat.le_of_ble_eq_true rfl⟩) rfl rfl (Nat.le_of_ble_eq_true rfl) ⟨Nat.zero_le _, Nat.zero_le _⟩ dX2_passPair_44) [1, 6] [0, 2, 3, 4, 5] rfl rfl rfl rfl rfl (fun _ => rfl) (fun _ => rfl) (fun _ => rfl) (fun uz hF => ?_)
  obtain ⟨r_6, hE⟩ : ∃ z, z = uz := ⟨_, rfl⟩; subst hE
  exact zv_vret (pc := 47) C hr hlk (zset (zset (zset N 0 r_6) 1 r_5) 5 r_3) hF rfl dX2_passPair_47
theorem zf_X2_append_15 : Cond.fieldLink RX2 15 "GlassStack$Panes" "inner" "[I" ∈ wsX2_append := (List.mem_of_getElem? (i := 6) rfl)
theorem zf_X2_append_18 : Cond.fieldLink RX2 18 "GlassStack$Panes" "whole" "[I" ∈ wsX2_append := (List.mem_of_getElem? (i := 3) rfl)
theorem zf_X2_append_21 : Cond.fieldLink RX2 21 "GlassStack$Panes" "last" "[I" ∈ wsX2_append := (List.mem_of_getElem? (i := 4) rfl)
theorem zf_X2_append_24 : Cond.fieldLink RX2 24 "GlassStack$Panes" "through" "[I" ∈ wsX2_append := (List.mem_of_getElem? (i := 7) rfl)
theorem zf_X2_append_27 : Cond.fieldLink RX2 27 "GlassStack$Panes" "next" "[I" ∈ wsX2_append := (List.mem_of_getElem? (i := 2) rfl)
theorem zf_X2_append_30 : Cond.fieldLink RX2 30 "GlassStack$Panes" "count" "I" ∈ wsX2_append := (List.mem_of_getElem? (i := 1) rfl)
theorem zf_X2_append_9 : Cond.fieldLink RX2 9 "GlassStack$Panes" "first" "[I" ∈ wsX2_append := (List.mem_of_getElem? (i := 5) rfl)
theorem zi_X2_append_X2 : ∀ w ∈ wsX20, w ∈ wsX2_append := fun w h => List.mem_cons_of_mem _ (List.mem_append_right _ h)
theorem zy_X2_append : yX2_append.cls = RX2 ∧ yX2_append.cls ≠ "java/lang/invoke/MethodHandle" ∧ yX2_append.cls ≠ "java/lang/invoke/VarHandle" ∧ (parseMethodDescriptor yX2_append.desc).map (fun d => d.parameters.length) = some 4 := by decide +kernel
set_option maxHeartbeats 4000000 in
set_option maxRecDepth 100000 in
theorem zc_X2_append (l : Launch) (G : va_G) (cI : ClassId) (adN qN0 qN1 qN2 qN3 qN4 qN5 : Nat) (N : zMem) (bu : Int32) (bl : Int32) (ou : Int32) (ol : Int32) (post : Int32 → zMem → Prop) (hF : zw_X2_append N bu bl ou ol post) (sz : Nat) : Met l yX2_append wsX2_append rmX2_append (va_Pc [.ref adN, .int bu, .int bl, .int ou, .int ol] (zv_in G cI (zd_X2_append cI adN qN0 qN1 qN2 qN3 qN4 qN5 N) sz)) (va_Qi (fun (rz : Int32) (uz : zMem) => post rz uz) (fun (uz : zMem) t => zv_out G cI (va_A (zd_X2_append cI adN qN0 qN1 qN2 qN3 qN4 qN5 N) sz) (zd_X2_append cI adN qN0 qN1 qN2 qN3 qN4 qN5 uz) t) (va_A (zd_X2_append cI adN qN0 qN1 qN2 qN3 qN4 qN5 N) sz)) 0 0 (va_A (zd_X2_append cI adN qN0 qN1 qN2 qN3 qN4 qN5 N) sz) := by
  refine zv_met (cc := cX2_append) (maxL := 11) (ret := (some .boolean)) (lv0 := [(0, .ref adN), (1, .int bu), (2, .int bl), (3, .int ou), (4, .int ol)]) (Qc := fun A => va_Qi (fun (rz : Int32) (uz : zMem) => post rz uz) (fun (uz : zMem) t => zv_out G cI A (zd_X2_append cI adN qN0 qN1 qN2 qN3 qN4 qN5 uz) t) A) (by decide) rfl (Nat.le_of_ble_eq_true rfl) rfl ?_ sz
  intro p e s m below meth c A C hr hlk
  clear sz
  refine zv_aload_n (pc := 0) C rfl 0 rfl dX2_append_0 ?_
  refine zv_get (pc := 1) (CC := RX2) (T := TX2) (N := 7) (ci := 1) (v := .int (N 6 0)) C zi_X2_append_X2 0 rfl 6 (by decide) zf_X2_append_30 rfl rfl dX2_append_1 ?_
  refine zv_bipush (pc := 4) (v := 8) C (by decide) dX2_append_4 ?_
  refine zv_icmp_lt (pc := 6) (tgt := 11) C dX2_append_6 (by decide) (fun c_1 => ?_) (fun c_1 => ?_)
  · replace hF := And.left hF c_1
    refine zv_aload_n (pc := 11) C rfl 0 rfl dX2_append_11 ?_
    refine zv_dup (pc := 12) C rfl dX2_append_12 ?_
    refine zv_get (pc := 13) (CC := RX2) (T := TX2) (N := 7) (ci := 1) (v := .int (N 6 0)) C zi_X2_append_X2 0 rfl 6 (by decide) zf_X2_append_30 rfl rfl dX2_append_13 ?_
    refine zv_iconst (pc := 16) (v := 1) C (by decide) dX2_append_16 ?_
    refine zv_iadd (pc := 17) C  dX2_append_17 ?_
    refine zv_topi (fun y_2 ey_2 => ?_)
    replace hF := hF y_2 ey_2
    refine zv_put (pc := 18) (CC := RX2) (T := TX2) (N := 7) (ci := 1) (v := .int y_2) (ty := .int) (ws' := (zd_X2_append cI adN qN0 qN1 qN2 qN3 qN4 qN5 (zset N 6 (fun _ => y_2)))) C zi_X2_append_X2 tyX2 tyX2_ok nmX2 0 rfl 6 (by decide) zf_X2_append_30 rfl (by decide +kernel) rfl rfl rfl (Nat.le_of_ble_eq_true rfl) rfl dX2_append_18 ?_
    refine zv_iload_n (pc := 21) C rfl 2 rfl dX2_append_21 ?_
    refine zv_iload (pc := 22) C 4 rfl dX2_append_22 ?_
    refine zv_imul (pc := 24) C  dX2_append_24 ?_
    refine zv_i2l (pc := 25) C  dX2_append_25 ?_
    refine zv_topl (fun x5_3 ex5_3 => ?_)
    replace hF := hF x5_3 ex5_3
    refine zv_lstore (pc := 26) (lv' := [(5, .long x5_3), (0, .ref adN), (1, .int bu), (2, .int bl), (3, .int ou), (4, .int ol)]) C (by decide) rfl dX2_append_26 ?_
    refine zv_iload_n (pc := 28) C rfl 2 rfl dX2_append_28 ?_
    refine zv_iload (pc := 29) C 5 rfl dX2_append_29 ?_
    refine zv_imul (pc := 31) C  dX2_append_31 ?_
    refine zv_i2l (pc := 32) C  dX2_append_32 ?_
    refine zv_topl (fun x7_4 ex7_4 => ?_)
    replace hF := hF x7_4 ex7_4
    refine zv_lstore (pc := 33) (lv' := [(7, .long x7_4), (5, .long x5_3), (0, .ref adN), (1, .int bu), (2, .int bl), (3, .int ou), (4, .int ol)]) C (by decide) rfl dX2_append_33 ?_
    refine zv_iload_n (pc := 35) C rfl 5 rfl dX2_append_35 ?_
    refine zv_iload_n (pc := 36) C rfl 4 rfl dX2_append_36 ?_
    refine zv_imul (pc := 37) C  dX2_append_37 ?_
    refine zv_i2l (pc := 38) C  dX2_append_38 ?_
    refine zv_topl (fun x9_5 ex9_5 => ?_)
    replace hF := hF x9_5 ex9_5
    refine zv_lstore (pc := 39) (lv' := [(9, .long x9_5), (7, .long x7_4), (5, .long x5_3), (0, .ref adN), (1, .int bu), (2, .int bl), (3, .int ou), (4, .int ol)]) C (by decide) rfl dX2_append_39 ?_
    refine zv_aload_n (pc := 41) C rfl 3 rfl dX2_append_41 ?_
    refine zv_get (pc := 42) (CC := RX2) (T := TX2) (N := 7) (ci := 1) (v := .ref qN5) C zi_X2_append_X2 0 rfl 5 (by decide) zf_X2_append_27 rfl rfl dX2_append_42 ?_
    refine zv_aload_n (pc := 45) C rfl 3 rfl dX2_append_45 ?_
    refine zv_get (pc := 46) (CC := RX2) (T := TX2) (N := 7) (ci := 1) (v := .ref qN2) C zi_X2_append_X2 0 rfl 2 (by decide) zf_X2_append_18 rfl rfl dX2_append_46 ?_
    refine zv_cv0 (pc := 49) (ws' := (fun uz : zRow => (zd_X2_append cI adN qN0 qN1 qN2 qN3 qN4 qN5 (zset (zset N 5 uz) 6 (fun _ => y_2))))) C (zv_runS (As := [.ref qN5, .ref qN2]) (rest := []) C (zc_X1_put l G cI qN5 qN2 8 8 (N 5) (N 2) _ hF) (va_cwS 2 C.2.2.2.2.1 gX2_append_X1_put rfl rfl rfl zy_X1_put ⟨Nat.le_of_ble_eq_true rfl, Nat.le_of_ble_eq_true rfl⟩) rfl rfl (Nat.le_of_ble_eq_true rfl) ⟨Nat.zero_le _, Nat.zero_le _⟩ dX2_append_49) [6, 3] [0, 1, 2, 4, 5] rfl rfl rfl rfl rfl (fun _ => rfl) (fun _ => rfl) (fun _ => rfl) (fun uz hF => ?_)
    obtain ⟨r_6, hE⟩ : ∃ z, z = uz := ⟨_, rfl⟩; subst hE
    refine zv_aload_n (pc := 52) C rfl 3 rfl dX2_append_52 ?_
    refine zv_get (pc := 53) (CC := RX2) (T := TX2) (N := 7) (ci := 1) (v := .ref qN5) C zi_X2_append_X2 0 rfl 5 (by decide) zf_X2_append_27 rfl rfl dX2_append_53 ?_
    refine zv_lload (pc := 56) C 2 rfl dX2_append_56 ?_
    refine zv_cv0 (pc := 58) (ws' := (fun uz : zRow => (zd_X2_append cI adN qN0 qN1 qN2 qN3 qN4 qN5 (zset (zset N 5 uz) 6 (fun _ => y_2))))) C (zv_runS (As := [.ref qN5, .long x5_3]) (rest := []) C (zc_X1_scale l G cI qN5 8 r_6 x5_3 _ hF) (va_cwS 2 C.2.2.2.2.1 gX2_append_X1_scale rfl rfl rfl zy_X1_scale ⟨Nat.le_of_ble_eq_true rfl, Nat.le_of_ble_eq_true rfl⟩) rfl rfl (Nat.le_of_ble_eq_true rfl) ⟨Nat.zero_le _, Nat.zero_le _⟩ dX2_append_58) [6] [0, 1, 2, 3, 4, 5] rfl rfl rfl rfl rfl (fun _ => rfl) (fun _ => rfl) (fun _ => rfl) (fun uz hF => ?_)
    obtain ⟨r_7, hE⟩ : ∃ z, z = uz := ⟨_, rfl⟩; subst hE
    refine zv_aload_n (pc := 61) C rfl 3 rfl dX2_append_61 ?_
    refine zv_get (pc := 62) (CC := RX2) (T := TX2) (N := 7) (ci := 1) (v := .ref qN5) C zi_X2_append_X2 0 rfl 5 (by decide) zf_X2_append_27 rfl rfl dX2_append_62 ?_
    refine zv_aload_n (pc := 65) C rfl 3 rfl dX2_append_65 ?_
    refine zv_get (pc := 66) (CC := RX2) (T := TX2) (N := 7) (ci := 1) (v := .ref qN3) C zi_X2_append_X2 0 rfl 3 (by decide) zf_X2_append_21 rfl rfl dX2_append_66 ?_
    refine zv_lload (pc := 69) C 1 rfl dX2_append_69 ?_
    refine zv_lneg (pc := 71) C  dX2_append_71 ?_
    refine zv_cv0 (pc := 72) (ws' := (fun uz : zRow => (zd_X2_append cI adN qN0 qN1 qN2 qN3 qN4 qN5 (zset (zset N 5 uz) 6 (fun _ => y_2))))) C (zv_runS (As := [.ref qN5, .ref qN3, .long (-x7_4)]) (rest := []) C (zc_X1_gain l G cI qN5 qN3 8 8 r_7 (N 3) (-x7_4) _ hF) (va_cwS 3 C.2.2.2.2.1 gX2_append_X1_gain rfl rfl rfl zy_X1_gain ⟨Nat.le_of_ble_eq_true rfl, Nat.le_of_ble_eq_true rfl⟩) rfl rfl (Nat.le_of_ble_eq_true rfl) ⟨Nat.zero_le _, Nat.zero_le _⟩ dX2_append_72) [6, 4] [0, 1, 2, 3, 5] rfl rfl rfl rfl rfl (fun _ => rfl) (fun _ => rfl) (fun _ => rfl) (fun uz hF => ?_)
    obtain ⟨r_8, hE⟩ : ∃ z, z = uz := ⟨_, rfl⟩; subst hE
    refine zv_aload_n (pc := 75) C rfl 3 rfl dX2_append_75 ?_
    refine zv_get (pc := 76) (CC := RX2) (T := TX2) (N := 7) (ci := 1) (v := .ref qN5) C zi_X2_append_X2 0 rfl 5 (by decide) zf_X2_append_27 rfl rfl dX2_append_76 ?_
    refine zv_ci0 (pc := 79) (ws' := (fun uz : Unit => (zd_X2_append cI adN qN0 qN1 qN2 qN3 qN4 qN5 (zset (zset N 5 r_8) 6 (fun _ => y_2))))) C (zv_runS (As := [.ref qN5]) (rest := []) C (zc_X1_signOf l G cI qN5 8 r_8 _ hF) (va_cwS 1 C.2.2.2.2.1 gX2_append_X1_signOf rfl rfl rfl zy_X1_signOf ⟨Nat.le_of_ble_eq_true rfl, Nat.le_of_ble_eq_true rfl⟩) rfl rfl (Nat.le_of_ble_eq_true rfl) ⟨Nat.zero_le _, Nat.zero_le _⟩ dX2_append_79) [6] [0, 1, 2, 3, 4, 5] rfl rfl rfl rfl rfl (fun _ => rfl) (fun _ => rfl) (fun _ => rfl) (fun v_9 uz hF => ?_)
    refine zv_if_eq (pc := 82) (tgt := 175) C dX2_append_82 (by decide) (fun c_10 => ?_) (fun c_10 => ?_)
    · replace hF := And.left hF c_10
      refine zv_iconst (pc := 175) (v := 1) C (by decide) dX2_append_175 ?_
      obtain ⟨hn_11, hF⟩ := hF
      exact zv_zret (pc := 176) C hr hlk (1 : Int32) (zset (zset N 5 r_8) 6 (fun _ => y_2)) hn_11 hF rfl dX2_append_176
    · replace hF := And.right hF c_10
      refine zv_aload_n (pc := 85) C rfl 3 rfl dX2_append_85 ?_
      refine zv_aload_n (pc := 86) C rfl 3 rfl dX2_append_86 ?_
      refine zv_get (pc := 87) (CC := RX2) (T := TX2) (N := 7) (ci := 1) (v := .ref qN2) C zi_X2_append_X2 0 rfl 2 (by decide) zf_X2_append_18 rfl rfl dX2_append_87 ?_
      refine zv_aload_n (pc := 90) C rfl 3 rfl dX2_append_90 ?_
      refine zv_get (pc := 91) (CC := RX2) (T := TX2) (N := 7) (ci := 1) (v := .ref qN3) C zi_X2_append_X2 0 rfl 3 (by decide) zf_X2_append_21 rfl rfl dX2_append_91 ?_
      refine zv_lload (pc := 94) C 2 rfl dX2_append_94 ?_
      refine zv_lload (pc := 96) C 2 rfl dX2_append_96 ?_
      refine zv_lmul (pc := 98) C  dX2_append_98 ?_
      refine zv_lload (pc := 99) C 1 rfl dX2_append_99 ?_
      refine zv_lneg (pc := 101) C  dX2_append_101 ?_
      refine zv_lload (pc := 102) C 2 rfl dX2_append_102 ?_
      refine zv_lmul (pc := 104) C  dX2_append_104 ?_
      refine zv_lload (pc := 105) C 1 rfl dX2_append_105 ?_
      refine zv_lload (pc := 107) C 2 rfl dX2_append_107 ?_
      refine zv_lmul (pc := 109) C  dX2_append_109 ?_
      refine zv_lload (pc := 110) C 0 rfl dX2_append_110 ?_
      refine zv_lload (pc := 112) C 0 rfl dX2_append_112 ?_
      refine zv_lmul (pc := 114) C  dX2_append_114 ?_
      refine zv_lload (pc := 115) C 1 rfl dX2_append_115 ?_
      refine zv_lload (pc := 117) C 1 rfl dX2_append_117 ?_
      refine zv_lmul (pc := 119) C  dX2_append_119 ?_
      refine zv_lsub (pc := 120) C  dX2_append_120 ?_
      refine zv_cv0 (pc := 121) (ws' := (fun uz : zMem => (zd_X2_append cI adN qN0 qN1 qN2 qN3 qN4 qN5 uz))) C (zv_runV (As := [.ref qN2, .ref qN3, .long (x5_3 * x5_3), .long ((-x7_4) * x5_3), .long (x7_4 * x5_3), .long ((x9_5 * x9_5) - (x7_4 * x7_4))]) (b := adN) (rest := []) (ci := 1) (q0 := 0) C (zc_X2_passPair_wl l G cI adN qN0 qN1 qN2 qN3 qN4 qN5 (zset (zset N 5 r_8) 6 (fun _ => y_2)) (x5_3 * x5_3) ((-x7_4) * x5_3) (x7_4 * x5_3) ((x9_5 * x9_5) - (x7_4 * x7_4)) _ hF) (cwV 6 C.2.2.2.2.1 gX2_append_X2_passPair rfl rfl rfl zy_X2_passPair ⟨Nat.le_of_ble_eq_true rfl, Nat.le_of_ble_eq_true rfl⟩) rfl rfl rfl rfl rfl (Nat.le_of_ble_eq_true rfl) ⟨Nat.zero_le _, Nat.zero_le _⟩ dX2_append_121) [0, 1, 2, 3, 4, 5, 6] [] rfl rfl rfl rfl rfl (fun _ => rfl) (fun _ => rfl) (fun _ => rfl) (fun uz hF => ?_)
      obtain ⟨T_12, hE⟩ : ∃ z, z = uz := ⟨_, rfl⟩; subst hE
      refine zv_aload_n (pc := 124) C rfl 3 rfl dX2_append_124 ?_
      refine zv_aload_n (pc := 125) C rfl 3 rfl dX2_append_125 ?_
      refine zv_get (pc := 126) (CC := RX2) (T := TX2) (N := 7) (ci := 1) (v := .ref qN0) C zi_X2_append_X2 0 rfl 0 (by decide) zf_X2_append_9 rfl rfl dX2_append_126 ?_
      refine zv_aload_n (pc := 129) C rfl 3 rfl dX2_append_129 ?_
      refine zv_get (pc := 130) (CC := RX2) (T := TX2) (N := 7) (ci := 1) (v := .ref qN1) C zi_X2_append_X2 0 rfl 1 (by decide) zf_X2_append_15 rfl rfl dX2_append_130 ?_
      refine zv_lload (pc := 133) C 2 rfl dX2_append_133 ?_
      refine zv_lload (pc := 135) C 2 rfl dX2_append_135 ?_
      refine zv_lmul (pc := 137) C  dX2_append_137 ?_
      refine zv_lload (pc := 138) C 1 rfl dX2_append_138 ?_
      refine zv_lload (pc := 140) C 2 rfl dX2_append_140 ?_
      refine zv_lmul (pc := 142) C  dX2_append_142 ?_
      refine zv_lload (pc := 143) C 1 rfl dX2_append_143 ?_
      refine zv_lneg (pc := 145) C  dX2_append_145 ?_
      refine zv_lload (pc := 146) C 2 rfl dX2_append_146 ?_
      refine zv_lmul (pc := 148) C  dX2_append_148 ?_
      refine zv_lload (pc := 149) C 0 rfl dX2_append_149 ?_
      refine zv_lload (pc := 151) C 0 rfl dX2_append_151 ?_
      refine zv_lmul (pc := 153) C  dX2_append_153 ?_
      refine zv_lload (pc := 154) C 1 rfl dX2_append_154 ?_
      refine zv_lload (pc := 156) C 1 rfl dX2_append_156 ?_
      refine zv_lmul (pc := 158) C  dX2_append_158 ?_
      refine zv_lsub (pc := 159) C  dX2_append_159 ?_
      refine zv_cv0 (pc := 160) (ws' := (fun uz : zMem => (zd_X2_append cI adN qN0 qN1 qN2 qN3 qN4 qN5 uz))) C (zv_runV (As := [.ref qN0, .ref qN1, .long (x5_3 * x5_3), .long (x7_4 * x5_3), .long ((-x7_4) * x5_3), .long ((x9_5 * x9_5) - (x7_4 * x7_4))]) (b := adN) (rest := []) (ci := 1) (q0 := 0) C (zc_X2_passPair_fi l G cI adN qN0 qN1 qN2 qN3 qN4 qN5 T_12 (x5_3 * x5_3) (x7_4 * x5_3) ((-x7_4) * x5_3) ((x9_5 * x9_5) - (x7_4 * x7_4)) _ hF) (cwV 6 C.2.2.2.2.1 gX2_append_X2_passPair rfl rfl rfl zy_X2_passPair ⟨Nat.le_of_ble_eq_true rfl, Nat.le_of_ble_eq_true rfl⟩) rfl rfl rfl rfl rfl (Nat.le_of_ble_eq_true rfl) ⟨Nat.zero_le _, Nat.zero_le _⟩ dX2_append_160) [0, 1, 2, 3, 4, 5, 6] [] rfl rfl rfl rfl rfl (fun _ => rfl) (fun _ => rfl) (fun _ => rfl) (fun uz hF => ?_)
      obtain ⟨T_13, hE⟩ : ∃ z, z = uz := ⟨_, rfl⟩; subst hE
      refine zv_aload_n (pc := 163) C rfl 3 rfl dX2_append_163 ?_
      refine zv_get (pc := 164) (CC := RX2) (T := TX2) (N := 7) (ci := 1) (v := .ref qN4) C zi_X2_append_X2 0 rfl 4 (by decide) zf_X2_append_24 rfl rfl dX2_append_164 ?_
      refine zv_lload (pc := 167) C 0 rfl dX2_append_167 ?_
      refine zv_lload (pc := 169) C 2 rfl dX2_append_169 ?_
      refine zv_lmul (pc := 171) C  dX2_append_171 ?_
      refine zv_cv0 (pc := 172) (ws' := (fun uz : zRow => (zd_X2_append cI adN qN0 qN1 qN2 qN3 qN4 qN5 (zset T_13 4 uz)))) C (zv_runS (As := [.ref qN4, .long (x9_5 * x5_3)]) (rest := []) C (zc_X1_scale l G cI qN4 8 (T_13 4) (x9_5 * x5_3) _ hF) (va_cwS 2 C.2.2.2.2.1 gX2_append_X1_scale rfl rfl rfl zy_X1_scale ⟨Nat.le_of_ble_eq_true rfl, Nat.le_of_ble_eq_true rfl⟩) rfl rfl (Nat.le_of_ble_eq_true rfl) ⟨Nat.zero_le _, Nat.zero_le _⟩ dX2_append_172) [5] [0, 1, 2, 3, 4, 6] rfl rfl rfl rfl rfl (fun _ => rfl) (fun _ => rfl) (fun _ => rfl) (fun uz hF => ?_)
      obtain ⟨r_14, hE⟩ : ∃ z, z = uz := ⟨_, rfl⟩; subst hE
      refine zv_iconst (pc := 175) (v := 1) C (by decide) dX2_append_175 ?_
      obtain ⟨hn_15, hF⟩ := hF
      exact zv_zret (pc := 176) C hr hlk (1 : Int32) (zset T_13 4 r_14) hn_15 hF rfl dX2_append_176
  · replace hF := And.right hF c_1
    refine zv_iconst (pc := 9) (v := 0) C (by decide) dX2_append_9 ?_
    obtain ⟨hn_16, hF⟩ := hF
    exact zv_zret (pc := 10) C hr hlk (0 : Int32) N hn_16 hF rfl dX2_append_10
theorem zf_X2_tell_18 : Cond.fieldLink RX2 18 "GlassStack$Panes" "whole" "[I" ∈ wsX2_tell := (List.mem_of_getElem? (i := 2) rfl)
theorem zf_X2_tell_24 : Cond.fieldLink RX2 24 "GlassStack$Panes" "through" "[I" ∈ wsX2_tell := (List.mem_of_getElem? (i := 5) rfl)
theorem zf_X2_tell_27 : Cond.fieldLink RX2 27 "GlassStack$Panes" "next" "[I" ∈ wsX2_tell := (List.mem_of_getElem? (i := 1) rfl)
theorem zf_X2_tell_59 : Cond.fieldLink RX2 59 "GlassStack$Fraction" "upper" "[I" ∈ wsX2_tell := (List.mem_of_getElem? (i := 6) rfl)
theorem zf_X2_tell_68 : Cond.fieldLink RX2 68 "GlassStack$Fraction" "lower" "[I" ∈ wsX2_tell := (List.mem_of_getElem? (i := 7) rfl)
theorem zf_X2_tell_9 : Cond.fieldLink RX2 9 "GlassStack$Panes" "first" "[I" ∈ wsX2_tell := (List.mem_of_getElem? (i := 3) rfl)
theorem zi_X2_tell_X0 : ∀ w ∈ wsX00, w ∈ wsX2_tell := fun w h => List.mem_cons_of_mem _ (List.mem_append_right _ h)
theorem zi_X2_tell_X2 : ∀ w ∈ wsX20, w ∈ wsX2_tell := fun w h => List.mem_cons_of_mem _ (List.mem_append_left _ (List.mem_append_right _ h))
theorem zy_X2_tell : yX2_tell.cls = RX2 ∧ yX2_tell.cls ≠ "java/lang/invoke/MethodHandle" ∧ yX2_tell.cls ≠ "java/lang/invoke/VarHandle" ∧ (parseMethodDescriptor yX2_tell.desc).map (fun d => d.parameters.length) = some 2 := by decide +kernel
set_option maxHeartbeats 4000000 in
set_option maxRecDepth 100000 in
theorem zc_X2_tell (l : Launch) (G : va_G) (cI : ClassId) (adN qN0 qN1 qN2 qN3 qN4 qN5 adF qF0 qF1 qF2 qF3 : Nat) (N : zMem) (F : zMem) (w : Int32) (post : zMem → zMem → Prop) (hF : zw_X2_tell N F w post) (sz : Nat) : Met l yX2_tell wsX2_tell rmX2_tell (va_Pc [.ref adN, .ref adF, .int w] (zv_in G cI (zd_X2_tell cI adN qN0 qN1 qN2 qN3 qN4 qN5 adF qF0 qF1 qF2 qF3 N F) sz)) (va_Qv (fun uz : zMem × zMem => post uz.1 uz.2) (fun (uz : zMem × zMem) t => zv_out G cI (va_A (zd_X2_tell cI adN qN0 qN1 qN2 qN3 qN4 qN5 adF qF0 qF1 qF2 qF3 N F) sz) (zd_X2_tell cI adN qN0 qN1 qN2 qN3 qN4 qN5 adF qF0 qF1 qF2 qF3 uz.1 uz.2) t) (va_A (zd_X2_tell cI adN qN0 qN1 qN2 qN3 qN4 qN5 adF qF0 qF1 qF2 qF3 N F) sz)) 0 0 (va_A (zd_X2_tell cI adN qN0 qN1 qN2 qN3 qN4 qN5 adF qF0 qF1 qF2 qF3 N F) sz) := by
  refine zv_met (cc := cX2_tell) (maxL := 3) (ret := none) (lv0 := [(0, .ref adN), (1, .ref adF), (2, .int w)]) (Qc := fun A => va_Qv (fun uz : zMem × zMem => post uz.1 uz.2) (fun (uz : zMem × zMem) t => zv_out G cI A (zd_X2_tell cI adN qN0 qN1 qN2 qN3 qN4 qN5 adF qF0 qF1 qF2 qF3 uz.1 uz.2) t) A) (by decide) rfl (Nat.le_of_ble_eq_true rfl) rfl ?_ sz
  intro p e s m below meth c A C hr hlk
  clear sz
  refine zv_iload_n (pc := 0) C rfl 2 rfl dX2_tell_0 ?_
  refine zv_iconst (pc := 1) (v := 3) C (by decide) dX2_tell_1 ?_
  refine zv_icmp_ne (pc := 2) (tgt := 58) C dX2_tell_2 (by decide) (fun c_1 => ?_) (fun c_1 => ?_)
  · replace hF := And.left hF c_1
    refine zv_aload_n (pc := 58) C rfl 1 rfl dX2_tell_58 ?_
    refine zv_get (pc := 59) (CC := RX0) (T := TX0) (N := 4) (ci := 0) (v := .ref qF0) C zi_X2_tell_X0 7 rfl 0 (by decide) zf_X2_tell_59 rfl rfl dX2_tell_59 ?_
    refine zv_aload_n (pc := 62) C rfl 0 rfl dX2_tell_62 ?_
    refine zv_iload_n (pc := 63) C rfl 2 rfl dX2_tell_63 ?_
    refine zv_cr0 (pc := 64) (ws' := (fun uz : Nat => (zd_X2_tell cI adN qN0 qN1 qN2 qN3 qN4 qN5 adF qF0 qF1 qF2 qF3 N F))) C (zv_runV (As := [.int w]) (b := adN) (rest := [.ref qF0]) (ci := 1) (q0 := 0) C (zc_X2_rowOf l G cI adN qN0 qN1 qN2 qN3 qN4 qN5 N w _ _ _ hF) (cwV 1 C.2.2.2.2.1 gX2_tell_X2_rowOf rfl rfl rfl zy_X2_rowOf ⟨Nat.le_of_ble_eq_true rfl, Nat.le_of_ble_eq_true rfl⟩) rfl rfl rfl rfl rfl (Nat.le_of_ble_eq_true rfl) ⟨Nat.zero_le _, Nat.zero_le _⟩ dX2_tell_64) [0, 1, 2, 3, 4, 5, 6] [7, 8, 9, 10, 11] rfl rfl rfl rfl rfl (fun _ => rfl) (fun _ => rfl) (fun _ => rfl) (fun u ra hF hra => ?_)
    rcases hF with ⟨rfl, hF⟩ | ⟨rfl, hF⟩ | ⟨rfl, hF⟩
    · have hra2 : qN0 = ra := hra.symm
      subst hra2
      refine zv_cv0 (pc := 67) (ws' := (fun uz : zRow => (zd_X2_tell cI adN qN0 qN1 qN2 qN3 qN4 qN5 adF qF0 qF1 qF2 qF3 N (zset F 0 uz)))) C (zv_runS (As := [.ref qF0, .ref qN0]) (rest := []) C (zc_X1_put l G cI qF0 qN0 16 8 (F 0) (N 0) _ hF) (va_cwS 2 C.2.2.2.2.1 gX2_tell_X1_put rfl rfl rfl zy_X1_put ⟨Nat.le_of_ble_eq_true rfl, Nat.le_of_ble_eq_true rfl⟩) rfl rfl (Nat.le_of_ble_eq_true rfl) ⟨Nat.zero_le _, Nat.zero_le _⟩ dX2_tell_67) [8, 1] [0, 2, 3, 4, 5, 6, 7, 9, 10, 11] rfl rfl rfl rfl rfl (fun _ => rfl) (fun _ => rfl) (fun _ => rfl) (fun uz hF => ?_)
      obtain ⟨r_2, hE⟩ : ∃ z, z = uz := ⟨_, rfl⟩; subst hE
      refine zv_aload_n (pc := 70) C rfl 1 rfl dX2_tell_70 ?_
      refine zv_get (pc := 71) (CC := RX0) (T := TX0) (N := 4) (ci := 0) (v := .ref qF1) C zi_X2_tell_X0 7 rfl 1 (by decide) zf_X2_tell_68 rfl rfl dX2_tell_71 ?_
      refine zv_aload_n (pc := 74) C rfl 0 rfl dX2_tell_74 ?_
      refine zv_get (pc := 75) (CC := RX2) (T := TX2) (N := 7) (ci := 1) (v := .ref qN2) C zi_X2_tell_X2 0 rfl 2 (by decide) zf_X2_tell_18 rfl rfl dX2_tell_75 ?_
      refine zv_cv0 (pc := 78) (ws' := (fun uz : zRow => (zd_X2_tell cI adN qN0 qN1 qN2 qN3 qN4 qN5 adF qF0 qF1 qF2 qF3 N (zset (zset F 0 r_2) 1 uz)))) C (zv_runS (As := [.ref qF1, .ref qN2]) (rest := []) C (zc_X1_put l G cI qF1 qN2 16 8 (F 1) (N 2) _ hF) (va_cwS 2 C.2.2.2.2.1 gX2_tell_X1_put rfl rfl rfl zy_X1_put ⟨Nat.le_of_ble_eq_true rfl, Nat.le_of_ble_eq_true rfl⟩) rfl rfl (Nat.le_of_ble_eq_true rfl) ⟨Nat.zero_le _, Nat.zero_le _⟩ dX2_tell_78) [9, 3] [0, 1, 2, 4, 5, 6, 7, 8, 10, 11] rfl rfl rfl rfl rfl (fun _ => rfl) (fun _ => rfl) (fun _ => rfl) (fun uz hF => ?_)
      obtain ⟨r_3, hE⟩ : ∃ z, z = uz := ⟨_, rfl⟩; subst hE
      exact zv_vret (pc := 81) C hr hlk (N, (zset (zset F 0 r_2) 1 r_3)) hF rfl dX2_tell_81
    · have hra2 : qN3 = ra := hra.symm
      subst hra2
      refine zv_cv0 (pc := 67) (ws' := (fun uz : zRow => (zd_X2_tell cI adN qN0 qN1 qN2 qN3 qN4 qN5 adF qF0 qF1 qF2 qF3 N (zset F 0 uz)))) C (zv_runS (As := [.ref qF0, .ref qN3]) (rest := []) C (zc_X1_put l G cI qF0 qN3 16 8 (F 0) (N 3) _ hF) (va_cwS 2 C.2.2.2.2.1 gX2_tell_X1_put rfl rfl rfl zy_X1_put ⟨Nat.le_of_ble_eq_true rfl, Nat.le_of_ble_eq_true rfl⟩) rfl rfl (Nat.le_of_ble_eq_true rfl) ⟨Nat.zero_le _, Nat.zero_le _⟩ dX2_tell_67) [8, 4] [0, 1, 2, 3, 5, 6, 7, 9, 10, 11] rfl rfl rfl rfl rfl (fun _ => rfl) (fun _ => rfl) (fun _ => rfl) (fun uz hF => ?_)
      obtain ⟨r_4, hE⟩ : ∃ z, z = uz := ⟨_, rfl⟩; subst hE
      refine zv_aload_n (pc := 70) C rfl 1 rfl dX2_tell_70 ?_
      refine zv_get (pc := 71) (CC := RX0) (T := TX0) (N := 4) (ci := 0) (v := .ref qF1) C zi_X2_tell_X0 7 rfl 1 (by decide) zf_X2_tell_68 rfl rfl dX2_tell_71 ?_
      refine zv_aload_n (pc := 74) C rfl 0 rfl dX2_tell_74 ?_
      refine zv_get (pc := 75) (CC := RX2) (T := TX2) (N := 7) (ci := 1) (v := .ref qN2) C zi_X2_tell_X2 0 rfl 2 (by decide) zf_X2_tell_18 rfl rfl dX2_tell_75 ?_
      refine zv_cv0 (pc := 78) (ws' := (fun uz : zRow => (zd_X2_tell cI adN qN0 qN1 qN2 qN3 qN4 qN5 adF qF0 qF1 qF2 qF3 N (zset (zset F 0 r_4) 1 uz)))) C (zv_runS (As := [.ref qF1, .ref qN2]) (rest := []) C (zc_X1_put l G cI qF1 qN2 16 8 (F 1) (N 2) _ hF) (va_cwS 2 C.2.2.2.2.1 gX2_tell_X1_put rfl rfl rfl zy_X1_put ⟨Nat.le_of_ble_eq_true rfl, Nat.le_of_ble_eq_true rfl⟩) rfl rfl (Nat.le_of_ble_eq_true rfl) ⟨Nat.zero_le _, Nat.zero_le _⟩ dX2_tell_78) [9, 3] [0, 1, 2, 4, 5, 6, 7, 8, 10, 11] rfl rfl rfl rfl rfl (fun _ => rfl) (fun _ => rfl) (fun _ => rfl) (fun uz hF => ?_)
      obtain ⟨r_5, hE⟩ : ∃ z, z = uz := ⟨_, rfl⟩; subst hE
      exact zv_vret (pc := 81) C hr hlk (N, (zset (zset F 0 r_4) 1 r_5)) hF rfl dX2_tell_81
    · have hra2 : qN4 = ra := hra.symm
      subst hra2
      refine zv_cv0 (pc := 67) (ws' := (fun uz : zRow => (zd_X2_tell cI adN qN0 qN1 qN2 qN3 qN4 qN5 adF qF0 qF1 qF2 qF3 N (zset F 0 uz)))) C (zv_runS (As := [.ref qF0, .ref qN4]) (rest := []) C (zc_X1_put l G cI qF0 qN4 16 8 (F 0) (N 4) _ hF) (va_cwS 2 C.2.2.2.2.1 gX2_tell_X1_put rfl rfl rfl zy_X1_put ⟨Nat.le_of_ble_eq_true rfl, Nat.le_of_ble_eq_true rfl⟩) rfl rfl (Nat.le_of_ble_eq_true rfl) ⟨Nat.zero_le _, Nat.zero_le _⟩ dX2_tell_67) [8, 5] [0, 1, 2, 3, 4, 6, 7, 9, 10, 11] rfl rfl rfl rfl rfl (fun _ => rfl) (fun _ => rfl) (fun _ => rfl) (fun uz hF => ?_)
      obtain ⟨r_6, hE⟩ : ∃ z, z = uz := ⟨_, rfl⟩; subst hE
      refine zv_aload_n (pc := 70) C rfl 1 rfl dX2_tell_70 ?_
      refine zv_get (pc := 71) (CC := RX0) (T := TX0) (N := 4) (ci := 0) (v := .ref qF1) C zi_X2_tell_X0 7 rfl 1 (by decide) zf_X2_tell_68 rfl rfl dX2_tell_71 ?_
      refine zv_aload_n (pc := 74) C rfl 0 rfl dX2_tell_74 ?_
      refine zv_get (pc := 75) (CC := RX2) (T := TX2) (N := 7) (ci := 1) (v := .ref qN2) C zi_X2_tell_X2 0 rfl 2 (by decide) zf_X2_tell_18 rfl rfl dX2_tell_75 ?_
      refine zv_cv0 (pc := 78) (ws' := (fun uz : zRow => (zd_X2_tell cI adN qN0 qN1 qN2 qN3 qN4 qN5 adF qF0 qF1 qF2 qF3 N (zset (zset F 0 r_6) 1 uz)))) C (zv_runS (As := [.ref qF1, .ref qN2]) (rest := []) C (zc_X1_put l G cI qF1 qN2 16 8 (F 1) (N 2) _ hF) (va_cwS 2 C.2.2.2.2.1 gX2_tell_X1_put rfl rfl rfl zy_X1_put ⟨Nat.le_of_ble_eq_true rfl, Nat.le_of_ble_eq_true rfl⟩) rfl rfl (Nat.le_of_ble_eq_true rfl) ⟨Nat.zero_le _, Nat.zero_le _⟩ dX2_tell_78) [9, 3] [0, 1, 2, 4, 5, 6, 7, 8, 10, 11] rfl rfl rfl rfl rfl (fun _ => rfl) (fun _ => rfl) (fun _ => rfl) (fun uz hF => ?_)
      obtain ⟨r_7, hE⟩ : ∃ z, z = uz := ⟨_, rfl⟩; subst hE
      exact zv_vret (pc := 81) C hr hlk (N, (zset (zset F 0 r_6) 1 r_7)) hF rfl dX2_tell_81
  · replace hF := And.right hF c_1
    refine zv_aload_n (pc := 5) C rfl 0 rfl dX2_tell_5 ?_
    refine zv_get (pc := 6) (CC := RX2) (T := TX2) (N := 7) (ci := 1) (v := .ref qN5) C zi_X2_tell_X2 0 rfl 5 (by decide) zf_X2_tell_27 rfl rfl dX2_tell_6 ?_
    refine zv_aload_n (pc := 9) C rfl 0 rfl dX2_tell_9 ?_
    refine zv_get (pc := 10) (CC := RX2) (T := TX2) (N := 7) (ci := 1) (v := .ref qN2) C zi_X2_tell_X2 0 rfl 2 (by decide) zf_X2_tell_18 rfl rfl dX2_tell_10 ?_
    refine zv_cv0 (pc := 13) (ws' := (fun uz : zRow => (zd_X2_tell cI adN qN0 qN1 qN2 qN3 qN4 qN5 adF qF0 qF1 qF2 qF3 (zset N 5 uz) F))) C (zv_runS (As := [.ref qN5, .ref qN2]) (rest := []) C (zc_X1_put l G cI qN5 qN2 8 8 (N 5) (N 2) _ hF) (va_cwS 2 C.2.2.2.2.1 gX2_tell_X1_put rfl rfl rfl zy_X1_put ⟨Nat.le_of_ble_eq_true rfl, Nat.le_of_ble_eq_true rfl⟩) rfl rfl (Nat.le_of_ble_eq_true rfl) ⟨Nat.zero_le _, Nat.zero_le _⟩ dX2_tell_13) [6, 3] [0, 1, 2, 4, 5, 7, 8, 9, 10, 11] rfl rfl rfl rfl rfl (fun _ => rfl) (fun _ => rfl) (fun _ => rfl) (fun uz hF => ?_)
    obtain ⟨r_8, hE⟩ : ∃ z, z = uz := ⟨_, rfl⟩; subst hE
    refine zv_aload_n (pc := 16) C rfl 0 rfl dX2_tell_16 ?_
    refine zv_get (pc := 17) (CC := RX2) (T := TX2) (N := 7) (ci := 1) (v := .ref qN5) C zi_X2_tell_X2 0 rfl 5 (by decide) zf_X2_tell_27 rfl rfl dX2_tell_17 ?_
    refine zv_aload_n (pc := 20) C rfl 0 rfl dX2_tell_20 ?_
    refine zv_get (pc := 21) (CC := RX2) (T := TX2) (N := 7) (ci := 1) (v := .ref qN0) C zi_X2_tell_X2 0 rfl 0 (by decide) zf_X2_tell_9 rfl rfl dX2_tell_21 ?_
    refine zv_ldc2 (pc := 24) C (v := -1) (List.mem_of_getElem? (i := 4) rfl) dX2_tell_24 ?_
    refine zv_cv0 (pc := 27) (ws' := (fun uz : zRow => (zd_X2_tell cI adN qN0 qN1 qN2 qN3 qN4 qN5 adF qF0 qF1 qF2 qF3 (zset N 5 uz) F))) C (zv_runS (As := [.ref qN5, .ref qN0, .long (-1 : Int64)]) (rest := []) C (zc_X1_gain l G cI qN5 qN0 8 8 r_8 (N 0) (-1 : Int64) _ hF) (va_cwS 3 C.2.2.2.2.1 gX2_tell_X1_gain rfl rfl rfl zy_X1_gain ⟨Nat.le_of_ble_eq_true rfl, Nat.le_of_ble_eq_true rfl⟩) rfl rfl (Nat.le_of_ble_eq_true rfl) ⟨Nat.zero_le _, Nat.zero_le _⟩ dX2_tell_27) [6, 1] [0, 2, 3, 4, 5, 7, 8, 9, 10, 11] rfl rfl rfl rfl rfl (fun _ => rfl) (fun _ => rfl) (fun _ => rfl) (fun uz hF => ?_)
    obtain ⟨r_9, hE⟩ : ∃ z, z = uz := ⟨_, rfl⟩; subst hE
    refine zv_aload_n (pc := 30) C rfl 0 rfl dX2_tell_30 ?_
    refine zv_get (pc := 31) (CC := RX2) (T := TX2) (N := 7) (ci := 1) (v := .ref qN5) C zi_X2_tell_X2 0 rfl 5 (by decide) zf_X2_tell_27 rfl rfl dX2_tell_31 ?_
    refine zv_aload_n (pc := 34) C rfl 0 rfl dX2_tell_34 ?_
    refine zv_get (pc := 35) (CC := RX2) (T := TX2) (N := 7) (ci := 1) (v := .ref qN4) C zi_X2_tell_X2 0 rfl 4 (by decide) zf_X2_tell_24 rfl rfl dX2_tell_35 ?_
    refine zv_ldc2 (pc := 38) C (v := -1) (List.mem_of_getElem? (i := 4) rfl) dX2_tell_38 ?_
    refine zv_cv0 (pc := 41) (ws' := (fun uz : zRow => (zd_X2_tell cI adN qN0 qN1 qN2 qN3 qN4 qN5 adF qF0 qF1 qF2 qF3 (zset N 5 uz) F))) C (zv_runS (As := [.ref qN5, .ref qN4, .long (-1 : Int64)]) (rest := []) C (zc_X1_gain l G cI qN5 qN4 8 8 r_9 (N 4) (-1 : Int64) _ hF) (va_cwS 3 C.2.2.2.2.1 gX2_tell_X1_gain rfl rfl rfl zy_X1_gain ⟨Nat.le_of_ble_eq_true rfl, Nat.le_of_ble_eq_true rfl⟩) rfl rfl (Nat.le_of_ble_eq_true rfl) ⟨Nat.zero_le _, Nat.zero_le _⟩ dX2_tell_41) [6, 5] [0, 1, 2, 3, 4, 7, 8, 9, 10, 11] rfl rfl rfl rfl rfl (fun _ => rfl) (fun _ => rfl) (fun _ => rfl) (fun uz hF => ?_)
    obtain ⟨r_10, hE⟩ : ∃ z, z = uz := ⟨_, rfl⟩; subst hE
    refine zv_aload_n (pc := 44) C rfl 1 rfl dX2_tell_44 ?_
    refine zv_get (pc := 45) (CC := RX0) (T := TX0) (N := 4) (ci := 0) (v := .ref qF0) C zi_X2_tell_X0 7 rfl 0 (by decide) zf_X2_tell_59 rfl rfl dX2_tell_45 ?_
    refine zv_aload_n (pc := 48) C rfl 0 rfl dX2_tell_48 ?_
    refine zv_get (pc := 49) (CC := RX2) (T := TX2) (N := 7) (ci := 1) (v := .ref qN5) C zi_X2_tell_X2 0 rfl 5 (by decide) zf_X2_tell_27 rfl rfl dX2_tell_49 ?_
    refine zv_cv0 (pc := 52) (ws' := (fun uz : zRow => (zd_X2_tell cI adN qN0 qN1 qN2 qN3 qN4 qN5 adF qF0 qF1 qF2 qF3 (zset N 5 r_10) (zset F 0 uz)))) C (zv_runS (As := [.ref qF0, .ref qN5]) (rest := []) C (zc_X1_put l G cI qF0 qN5 16 8 (F 0) r_10 _ hF) (va_cwS 2 C.2.2.2.2.1 gX2_tell_X1_put rfl rfl rfl zy_X1_put ⟨Nat.le_of_ble_eq_true rfl, Nat.le_of_ble_eq_true rfl⟩) rfl rfl (Nat.le_of_ble_eq_true rfl) ⟨Nat.zero_le _, Nat.zero_le _⟩ dX2_tell_52) [8, 6] [0, 1, 2, 3, 4, 5, 7, 9, 10, 11] rfl rfl rfl rfl rfl (fun _ => rfl) (fun _ => rfl) (fun _ => rfl) (fun uz hF => ?_)
    obtain ⟨r_11, hE⟩ : ∃ z, z = uz := ⟨_, rfl⟩; subst hE
    refine zv_goto (pc := 55) (tgt := 70) C dX2_tell_55 (by decide) ?_
    refine zv_aload_n (pc := 70) C rfl 1 rfl dX2_tell_70 ?_
    refine zv_get (pc := 71) (CC := RX0) (T := TX0) (N := 4) (ci := 0) (v := .ref qF1) C zi_X2_tell_X0 7 rfl 1 (by decide) zf_X2_tell_68 rfl rfl dX2_tell_71 ?_
    refine zv_aload_n (pc := 74) C rfl 0 rfl dX2_tell_74 ?_
    refine zv_get (pc := 75) (CC := RX2) (T := TX2) (N := 7) (ci := 1) (v := .ref qN2) C zi_X2_tell_X2 0 rfl 2 (by decide) zf_X2_tell_18 rfl rfl dX2_tell_75 ?_
    refine zv_cv0 (pc := 78) (ws' := (fun uz : zRow => (zd_X2_tell cI adN qN0 qN1 qN2 qN3 qN4 qN5 adF qF0 qF1 qF2 qF3 (zset N 5 r_10) (zset (zset F 0 r_11) 1 uz)))) C (zv_runS (As := [.ref qF1, .ref qN2]) (rest := []) C (zc_X1_put l G cI qF1 qN2 16 8 (F 1) (N 2) _ hF) (va_cwS 2 C.2.2.2.2.1 gX2_tell_X1_put rfl rfl rfl zy_X1_put ⟨Nat.le_of_ble_eq_true rfl, Nat.le_of_ble_eq_true rfl⟩) rfl rfl (Nat.le_of_ble_eq_true rfl) ⟨Nat.zero_le _, Nat.zero_le _⟩ dX2_tell_78) [9, 3] [0, 1, 2, 4, 5, 6, 7, 8, 10, 11] rfl rfl rfl rfl rfl (fun _ => rfl) (fun _ => rfl) (fun _ => rfl) (fun uz hF => ?_)
    obtain ⟨r_12, hE⟩ : ∃ z, z = uz := ⟨_, rfl⟩; subst hE
    exact zv_vret (pc := 81) C hr hlk ((zset N 5 r_10), (zset (zset F 0 r_11) 1 r_12)) hF rfl dX2_tell_81
